section
-- ===== PART A: goes FIRST, ahead of the names: the tables' words, and 'selects' of the private methods out of them =====
/-- a private method of a class that the tables say can be made, by its rows of tables_1 -/
def lw_okq (q : MethodName × Nat) : Prop := (q.1.cls ≠ "java/lang/invoke/MethodHandle" ∧ q.1.cls ≠ "java/lang/invoke/VarHandle") ∧ Cond.instantiable q.1.cls q.2 ∈ tables_1 ∧ Cond.privateMethod q.1 ∈ tables_1 ∧ Cond.instanceMethod q.1 ∈ tables_1
theorem lw_p0 : lw_okq (⟨"VisitVans", "changed", "(I)I"⟩, 8) := ⟨⟨by decide +kernel, by decide +kernel⟩, List.mem_of_getElem? (i := 16) (by decide +kernel), List.mem_of_getElem? (i := 194) (by decide +kernel), List.mem_of_getElem? (i := 195) (by decide +kernel)⟩
theorem lw_p1 : lw_okq (⟨"VisitVans$Plan", "sendVansHome", "(LVisitVans$Road;)V"⟩, 7) := ⟨⟨by decide +kernel, by decide +kernel⟩, List.mem_of_getElem? (i := 65) (by decide +kernel), List.mem_of_getElem? (i := 206) (by decide +kernel), List.mem_of_getElem? (i := 207) (by decide +kernel)⟩
theorem lw_p2 : lw_okq (⟨"VisitVans$Plan", "orderByEnds", "(LVisitVans$Road;)V"⟩, 7) := ⟨⟨by decide +kernel, by decide +kernel⟩, List.mem_of_getElem? (i := 65) (by decide +kernel), List.mem_of_getElem? (i := 218) (by decide +kernel), List.mem_of_getElem? (i := 219) (by decide +kernel)⟩
theorem lw_p3 : lw_okq (⟨"VisitVans$Plan", "look", "(LVisitVans$Road;II)V"⟩, 7) := ⟨⟨by decide +kernel, by decide +kernel⟩, List.mem_of_getElem? (i := 65) (by decide +kernel), List.mem_of_getElem? (i := 226) (by decide +kernel), List.mem_of_getElem? (i := 227) (by decide +kernel)⟩
theorem lw_p4 : lw_okq (⟨"VisitVans$Plan", "firstToBegin", "(LVisitVans$Road;II)I"⟩, 7) := ⟨⟨by decide +kernel, by decide +kernel⟩, List.mem_of_getElem? (i := 65) (by decide +kernel), List.mem_of_getElem? (i := 230) (by decide +kernel), List.mem_of_getElem? (i := 231) (by decide +kernel)⟩
theorem lw_p5 : lw_okq (⟨"VisitVans$Plan", "hasSkill", "(LVisitVans$Road;II)Z"⟩, 7) := ⟨⟨by decide +kernel, by decide +kernel⟩, List.mem_of_getElem? (i := 65) (by decide +kernel), List.mem_of_getElem? (i := 234) (by decide +kernel), List.mem_of_getElem? (i := 235) (by decide +kernel)⟩
theorem lw_p6 : lw_okq (⟨"VisitVans$Plan", "hasParts", "(LVisitVans$Road;II)Z"⟩, 7) := ⟨⟨by decide +kernel, by decide +kernel⟩, List.mem_of_getElem? (i := 65) (by decide +kernel), List.mem_of_getElem? (i := 238) (by decide +kernel), List.mem_of_getElem? (i := 239) (by decide +kernel)⟩
theorem lw_p7 : lw_okq (⟨"VisitVans$Plan", "comes", "(LVisitVans$Road;II)I"⟩, 7) := ⟨⟨by decide +kernel, by decide +kernel⟩, List.mem_of_getElem? (i := 65) (by decide +kernel), List.mem_of_getElem? (i := 246) (by decide +kernel), List.mem_of_getElem? (i := 247) (by decide +kernel)⟩
theorem lw_p8 : lw_okq (⟨"VisitVans$Plan", "reason", "(LVisitVans$Road;I)I"⟩, 7) := ⟨⟨by decide +kernel, by decide +kernel⟩, List.mem_of_getElem? (i := 65) (by decide +kernel), List.mem_of_getElem? (i := 260) (by decide +kernel), List.mem_of_getElem? (i := 261) (by decide +kernel)⟩
theorem lw_p9 : lw_okq (⟨"VisitVans$Plan", "putOutcome", "(IIIII)V"⟩, 7) := ⟨⟨by decide +kernel, by decide +kernel⟩, List.mem_of_getElem? (i := 65) (by decide +kernel), List.mem_of_getElem? (i := 264) (by decide +kernel), List.mem_of_getElem? (i := 265) (by decide +kernel)⟩
theorem lw_p10 : lw_okq (⟨"VisitVans$Plan", "drive", "(LVisitVans$Road;II)V"⟩, 7) := ⟨⟨by decide +kernel, by decide +kernel⟩, List.mem_of_getElem? (i := 65) (by decide +kernel), List.mem_of_getElem? (i := 268) (by decide +kernel), List.mem_of_getElem? (i := 269) (by decide +kernel)⟩
theorem lw_p11 : lw_okq (⟨"VisitVans$Plan", "addEvent", "(IIIII)V"⟩, 7) := ⟨⟨by decide +kernel, by decide +kernel⟩, List.mem_of_getElem? (i := 65) (by decide +kernel), List.mem_of_getElem? (i := 276) (by decide +kernel), List.mem_of_getElem? (i := 277) (by decide +kernel)⟩
theorem lw_p12 : lw_okq (⟨"VisitVans", "madeAtPace", "(I)I"⟩, 8) := ⟨⟨by decide +kernel, by decide +kernel⟩, List.mem_of_getElem? (i := 16) (by decide +kernel), List.mem_of_getElem? (i := 414) (by decide +kernel), List.mem_of_getElem? (i := 415) (by decide +kernel)⟩
theorem lw_p13 : lw_okq (⟨"VisitVans$Pad", "readSign", "(C)Z"⟩, 6) := ⟨⟨by decide +kernel, by decide +kernel⟩, List.mem_of_getElem? (i := 113) (by decide +kernel), List.mem_of_getElem? (i := 449) (by decide +kernel), List.mem_of_getElem? (i := 450) (by decide +kernel)⟩
theorem lw_p14 : lw_okq (⟨"VisitVans$Pad", "nextSign", "()C"⟩, 6) := ⟨⟨by decide +kernel, by decide +kernel⟩, List.mem_of_getElem? (i := 113) (by decide +kernel), List.mem_of_getElem? (i := 453) (by decide +kernel), List.mem_of_getElem? (i := 454) (by decide +kernel)⟩
theorem lw_p15 : lw_okq (⟨"VisitVans$Pad", "readPiece", "(C)Z"⟩, 6) := ⟨⟨by decide +kernel, by decide +kernel⟩, List.mem_of_getElem? (i := 113) (by decide +kernel), List.mem_of_getElem? (i := 517) (by decide +kernel), List.mem_of_getElem? (i := 518) (by decide +kernel)⟩
def lw_privs_1 : List (MethodName × Nat) := [(⟨"VisitVans", "changed", "(I)I"⟩, 8), (⟨"VisitVans$Plan", "sendVansHome", "(LVisitVans$Road;)V"⟩, 7), (⟨"VisitVans$Plan", "orderByEnds", "(LVisitVans$Road;)V"⟩, 7), (⟨"VisitVans$Plan", "look", "(LVisitVans$Road;II)V"⟩, 7), (⟨"VisitVans$Plan", "firstToBegin", "(LVisitVans$Road;II)I"⟩, 7), (⟨"VisitVans$Plan", "hasSkill", "(LVisitVans$Road;II)Z"⟩, 7), (⟨"VisitVans$Plan", "hasParts", "(LVisitVans$Road;II)Z"⟩, 7), (⟨"VisitVans$Plan", "comes", "(LVisitVans$Road;II)I"⟩, 7), (⟨"VisitVans$Plan", "reason", "(LVisitVans$Road;I)I"⟩, 7), (⟨"VisitVans$Plan", "putOutcome", "(IIIII)V"⟩, 7), (⟨"VisitVans$Plan", "drive", "(LVisitVans$Road;II)V"⟩, 7), (⟨"VisitVans$Plan", "addEvent", "(IIIII)V"⟩, 7), (⟨"VisitVans", "madeAtPace", "(I)I"⟩, 8), (⟨"VisitVans$Pad", "readSign", "(C)Z"⟩, 6), (⟨"VisitVans$Pad", "nextSign", "()C"⟩, 6), (⟨"VisitVans$Pad", "readPiece", "(C)Z"⟩, 6)]
theorem lw_r1 : ∀ q ∈ lw_privs_1, lw_okq q := List.forall_mem_cons.mpr ⟨lw_p0, List.forall_mem_cons.mpr ⟨lw_p1, List.forall_mem_cons.mpr ⟨lw_p2, List.forall_mem_cons.mpr ⟨lw_p3, List.forall_mem_cons.mpr ⟨lw_p4, List.forall_mem_cons.mpr ⟨lw_p5, List.forall_mem_cons.mpr ⟨lw_p6, List.forall_mem_cons.mpr ⟨lw_p7, List.forall_mem_cons.mpr ⟨lw_p8, List.forall_mem_cons.mpr ⟨lw_p9, List.forall_mem_cons.mpr ⟨lw_p10, List.forall_mem_cons.mpr ⟨lw_p11, List.forall_mem_cons.mpr ⟨lw_p12, List.forall_mem_cons.mpr ⟨lw_p13, List.forall_mem_cons.mpr ⟨lw_p14, List.forall_mem_cons.mpr ⟨lw_p15, fun _ h => absurd h List.not_mem_nil⟩⟩⟩⟩⟩⟩⟩⟩⟩⟩⟩⟩⟩⟩⟩⟩
theorem lw_p16 : lw_okq (⟨"VisitVans$Pad", "readNumber", "()Z"⟩, 6) := ⟨⟨by decide +kernel, by decide +kernel⟩, List.mem_of_getElem? (i := 113) (by decide +kernel), List.mem_of_getElem? (i := 521) (by decide +kernel), List.mem_of_getElem? (i := 522) (by decide +kernel)⟩
theorem lw_p17 : lw_okq (⟨"VisitVans$Pad", "nextDigit", "()I"⟩, 6) := ⟨⟨by decide +kernel, by decide +kernel⟩, List.mem_of_getElem? (i := 113) (by decide +kernel), List.mem_of_getElem? (i := 525) (by decide +kernel), List.mem_of_getElem? (i := 526) (by decide +kernel)⟩
theorem lw_p18 : lw_okq (⟨"VisitVans$Pad", "tell", "(I)V"⟩, 6) := ⟨⟨by decide +kernel, by decide +kernel⟩, List.mem_of_getElem? (i := 113) (by decide +kernel), List.mem_of_getElem? (i := 529) (by decide +kernel), List.mem_of_getElem? (i := 530) (by decide +kernel)⟩
theorem lw_p19 : lw_okq (⟨"VisitVans$Pad", "readDigit", "()Z"⟩, 6) := ⟨⟨by decide +kernel, by decide +kernel⟩, List.mem_of_getElem? (i := 113) (by decide +kernel), List.mem_of_getElem? (i := 533) (by decide +kernel), List.mem_of_getElem? (i := 534) (by decide +kernel)⟩
theorem lw_p20 : lw_okq (⟨"VisitVans$Pad", "readSkills", "()Z"⟩, 6) := ⟨⟨by decide +kernel, by decide +kernel⟩, List.mem_of_getElem? (i := 113) (by decide +kernel), List.mem_of_getElem? (i := 537) (by decide +kernel), List.mem_of_getElem? (i := 538) (by decide +kernel)⟩
theorem lw_p21 : lw_okq (⟨"VisitVans", "carryOrders", "()I"⟩, 8) := ⟨⟨by decide +kernel, by decide +kernel⟩, List.mem_of_getElem? (i := 16) (by decide +kernel), List.mem_of_getElem? (i := 550) (by decide +kernel), List.mem_of_getElem? (i := 551) (by decide +kernel)⟩
theorem lw_p22 : lw_okq (⟨"VisitVans", "carryOne", "()I"⟩, 8) := ⟨⟨by decide +kernel, by decide +kernel⟩, List.mem_of_getElem? (i := 16) (by decide +kernel), List.mem_of_getElem? (i := 557) (by decide +kernel), List.mem_of_getElem? (i := 558) (by decide +kernel)⟩
theorem lw_p23 : lw_okq (⟨"VisitVansModel", "records", "()V"⟩, 23) := ⟨⟨by decide +kernel, by decide +kernel⟩, List.mem_of_getElem? (i := 577) (by decide +kernel), List.mem_of_getElem? (i := 663) (by decide +kernel), List.mem_of_getElem? (i := 664) (by decide +kernel)⟩
theorem lw_p24 : lw_okq (⟨"VisitVansModel", "refusesVisit", "(IIIIII)I"⟩, 23) := ⟨⟨by decide +kernel, by decide +kernel⟩, List.mem_of_getElem? (i := 577) (by decide +kernel), List.mem_of_getElem? (i := 671) (by decide +kernel), List.mem_of_getElem? (i := 672) (by decide +kernel)⟩
theorem lw_p25 : lw_okq (⟨"VisitVansModel", "laysVisit", "(IIIIII)I"⟩, 23) := ⟨⟨by decide +kernel, by decide +kernel⟩, List.mem_of_getElem? (i := 577) (by decide +kernel), List.mem_of_getElem? (i := 678) (by decide +kernel), List.mem_of_getElem? (i := 679) (by decide +kernel)⟩
theorem lw_p26 : lw_okq (⟨"VisitVansModel", "isVisit", "(I)Z"⟩, 23) := ⟨⟨by decide +kernel, by decide +kernel⟩, List.mem_of_getElem? (i := 577) (by decide +kernel), List.mem_of_getElem? (i := 686) (by decide +kernel), List.mem_of_getElem? (i := 687) (by decide +kernel)⟩
theorem lw_p27 : lw_okq (⟨"VisitVansModel", "dropsVisit", "(I)I"⟩, 23) := ⟨⟨by decide +kernel, by decide +kernel⟩, List.mem_of_getElem? (i := 577) (by decide +kernel), List.mem_of_getElem? (i := 690) (by decide +kernel), List.mem_of_getElem? (i := 691) (by decide +kernel)⟩
theorem lw_p28 : lw_okq (⟨"VisitVansModel", "refusesVan", "(II)I"⟩, 23) := ⟨⟨by decide +kernel, by decide +kernel⟩, List.mem_of_getElem? (i := 577) (by decide +kernel), List.mem_of_getElem? (i := 698) (by decide +kernel), List.mem_of_getElem? (i := 699) (by decide +kernel)⟩
theorem lw_p29 : lw_okq (⟨"VisitVansModel", "laysVan", "(III)I"⟩, 23) := ⟨⟨by decide +kernel, by decide +kernel⟩, List.mem_of_getElem? (i := 577) (by decide +kernel), List.mem_of_getElem? (i := 702) (by decide +kernel), List.mem_of_getElem? (i := 703) (by decide +kernel)⟩
theorem lw_p30 : lw_okq (⟨"VisitVansModel", "refusesLoad", "(III)I"⟩, 23) := ⟨⟨by decide +kernel, by decide +kernel⟩, List.mem_of_getElem? (i := 577) (by decide +kernel), List.mem_of_getElem? (i := 710) (by decide +kernel), List.mem_of_getElem? (i := 711) (by decide +kernel)⟩
theorem lw_p31 : lw_okq (⟨"VisitVansModel", "isVan", "(I)Z"⟩, 23) := ⟨⟨by decide +kernel, by decide +kernel⟩, List.mem_of_getElem? (i := 577) (by decide +kernel), List.mem_of_getElem? (i := 714) (by decide +kernel), List.mem_of_getElem? (i := 715) (by decide +kernel)⟩
def lw_privs_2 : List (MethodName × Nat) := [(⟨"VisitVans$Pad", "readNumber", "()Z"⟩, 6), (⟨"VisitVans$Pad", "nextDigit", "()I"⟩, 6), (⟨"VisitVans$Pad", "tell", "(I)V"⟩, 6), (⟨"VisitVans$Pad", "readDigit", "()Z"⟩, 6), (⟨"VisitVans$Pad", "readSkills", "()Z"⟩, 6), (⟨"VisitVans", "carryOrders", "()I"⟩, 8), (⟨"VisitVans", "carryOne", "()I"⟩, 8), (⟨"VisitVansModel", "records", "()V"⟩, 23), (⟨"VisitVansModel", "refusesVisit", "(IIIIII)I"⟩, 23), (⟨"VisitVansModel", "laysVisit", "(IIIIII)I"⟩, 23), (⟨"VisitVansModel", "isVisit", "(I)Z"⟩, 23), (⟨"VisitVansModel", "dropsVisit", "(I)I"⟩, 23), (⟨"VisitVansModel", "refusesVan", "(II)I"⟩, 23), (⟨"VisitVansModel", "laysVan", "(III)I"⟩, 23), (⟨"VisitVansModel", "refusesLoad", "(III)I"⟩, 23), (⟨"VisitVansModel", "isVan", "(I)Z"⟩, 23)]
theorem lw_r2 : ∀ q ∈ lw_privs_2, lw_okq q := List.forall_mem_cons.mpr ⟨lw_p16, List.forall_mem_cons.mpr ⟨lw_p17, List.forall_mem_cons.mpr ⟨lw_p18, List.forall_mem_cons.mpr ⟨lw_p19, List.forall_mem_cons.mpr ⟨lw_p20, List.forall_mem_cons.mpr ⟨lw_p21, List.forall_mem_cons.mpr ⟨lw_p22, List.forall_mem_cons.mpr ⟨lw_p23, List.forall_mem_cons.mpr ⟨lw_p24, List.forall_mem_cons.mpr ⟨lw_p25, List.forall_mem_cons.mpr ⟨lw_p26, List.forall_mem_cons.mpr ⟨lw_p27, List.forall_mem_cons.mpr ⟨lw_p28, List.forall_mem_cons.mpr ⟨lw_p29, List.forall_mem_cons.mpr ⟨lw_p30, List.forall_mem_cons.mpr ⟨lw_p31, fun _ h => absurd h List.not_mem_nil⟩⟩⟩⟩⟩⟩⟩⟩⟩⟩⟩⟩⟩⟩⟩⟩
theorem lw_p32 : lw_okq (⟨"VisitVansModel", "van0", "(II)I"⟩, 23) := ⟨⟨by decide +kernel, by decide +kernel⟩, List.mem_of_getElem? (i := 577) (by decide +kernel), List.mem_of_getElem? (i := 718) (by decide +kernel), List.mem_of_getElem? (i := 719) (by decide +kernel)⟩
theorem lw_p33 : lw_okq (⟨"VisitVansModel", "plans", "()V"⟩, 23) := ⟨⟨by decide +kernel, by decide +kernel⟩, List.mem_of_getElem? (i := 577) (by decide +kernel), List.mem_of_getElem? (i := 726) (by decide +kernel), List.mem_of_getElem? (i := 727) (by decide +kernel)⟩
theorem lw_p34 : lw_okq (⟨"VisitVansModel", "rankOf", "(I)I"⟩, 23) := ⟨⟨by decide +kernel, by decide +kernel⟩, List.mem_of_getElem? (i := 577) (by decide +kernel), List.mem_of_getElem? (i := 730) (by decide +kernel), List.mem_of_getElem? (i := 731) (by decide +kernel)⟩
theorem lw_p35 : lw_okq (⟨"VisitVansModel", "visit0", "(II)I"⟩, 23) := ⟨⟨by decide +kernel, by decide +kernel⟩, List.mem_of_getElem? (i := 577) (by decide +kernel), List.mem_of_getElem? (i := 734) (by decide +kernel), List.mem_of_getElem? (i := 735) (by decide +kernel)⟩
theorem lw_p36 : lw_okq (⟨"VisitVansModel", "looks", "(III)I"⟩, 23) := ⟨⟨by decide +kernel, by decide +kernel⟩, List.mem_of_getElem? (i := 577) (by decide +kernel), List.mem_of_getElem? (i := 738) (by decide +kernel), List.mem_of_getElem? (i := 739) (by decide +kernel)⟩
theorem lw_p37 : lw_okq (⟨"VisitVansModel", "vanFor", "(II)I"⟩, 23) := ⟨⟨by decide +kernel, by decide +kernel⟩, List.mem_of_getElem? (i := 577) (by decide +kernel), List.mem_of_getElem? (i := 742) (by decide +kernel), List.mem_of_getElem? (i := 743) (by decide +kernel)⟩
theorem lw_p38 : lw_okq (⟨"VisitVansModel", "hasSkill", "(II)Z"⟩, 23) := ⟨⟨by decide +kernel, by decide +kernel⟩, List.mem_of_getElem? (i := 577) (by decide +kernel), List.mem_of_getElem? (i := 746) (by decide +kernel), List.mem_of_getElem? (i := 747) (by decide +kernel)⟩
theorem lw_p39 : lw_okq (⟨"VisitVansModel", "hasParts", "(II)Z"⟩, 23) := ⟨⟨by decide +kernel, by decide +kernel⟩, List.mem_of_getElem? (i := 577) (by decide +kernel), List.mem_of_getElem? (i := 750) (by decide +kernel), List.mem_of_getElem? (i := 751) (by decide +kernel)⟩
theorem lw_p40 : lw_okq (⟨"VisitVansModel", "beginOf", "(III)I"⟩, 23) := ⟨⟨by decide +kernel, by decide +kernel⟩, List.mem_of_getElem? (i := 577) (by decide +kernel), List.mem_of_getElem? (i := 754) (by decide +kernel), List.mem_of_getElem? (i := 755) (by decide +kernel)⟩
theorem lw_p41 : lw_okq (⟨"VisitVansModel", "wayTo", "(II)I"⟩, 23) := ⟨⟨by decide +kernel, by decide +kernel⟩, List.mem_of_getElem? (i := 577) (by decide +kernel), List.mem_of_getElem? (i := 758) (by decide +kernel), List.mem_of_getElem? (i := 759) (by decide +kernel)⟩
theorem lw_p42 : lw_okq (⟨"VisitVansModel", "reason", "(I)I"⟩, 23) := ⟨⟨by decide +kernel, by decide +kernel⟩, List.mem_of_getElem? (i := 577) (by decide +kernel), List.mem_of_getElem? (i := 762) (by decide +kernel), List.mem_of_getElem? (i := 763) (by decide +kernel)⟩
theorem lw_p43 : lw_okq (⟨"VisitVansModel", "makes", "(III)V"⟩, 23) := ⟨⟨by decide +kernel, by decide +kernel⟩, List.mem_of_getElem? (i := 577) (by decide +kernel), List.mem_of_getElem? (i := 766) (by decide +kernel), List.mem_of_getElem? (i := 767) (by decide +kernel)⟩
theorem lw_p44 : lw_okq (⟨"VisitVansModel", "visitsOf", "(I)I"⟩, 23) := ⟨⟨by decide +kernel, by decide +kernel⟩, List.mem_of_getElem? (i := 577) (by decide +kernel), List.mem_of_getElem? (i := 774) (by decide +kernel), List.mem_of_getElem? (i := 775) (by decide +kernel)⟩
theorem lw_p45 : lw_okq (⟨"VisitVansModel", "eventsOf", "(I)I"⟩, 23) := ⟨⟨by decide +kernel, by decide +kernel⟩, List.mem_of_getElem? (i := 577) (by decide +kernel), List.mem_of_getElem? (i := 778) (by decide +kernel), List.mem_of_getElem? (i := 779) (by decide +kernel)⟩
theorem lw_p46 : lw_okq (⟨"VisitVansModel", "nextVisit", "(II)I"⟩, 23) := ⟨⟨by decide +kernel, by decide +kernel⟩, List.mem_of_getElem? (i := 577) (by decide +kernel), List.mem_of_getElem? (i := 790) (by decide +kernel), List.mem_of_getElem? (i := 791) (by decide +kernel)⟩
theorem lw_p47 : lw_okq (⟨"VisitVansModel", "tells", "(IIIII)I"⟩, 23) := ⟨⟨by decide +kernel, by decide +kernel⟩, List.mem_of_getElem? (i := 577) (by decide +kernel), List.mem_of_getElem? (i := 794) (by decide +kernel), List.mem_of_getElem? (i := 795) (by decide +kernel)⟩
def lw_privs_3 : List (MethodName × Nat) := [(⟨"VisitVansModel", "van0", "(II)I"⟩, 23), (⟨"VisitVansModel", "plans", "()V"⟩, 23), (⟨"VisitVansModel", "rankOf", "(I)I"⟩, 23), (⟨"VisitVansModel", "visit0", "(II)I"⟩, 23), (⟨"VisitVansModel", "looks", "(III)I"⟩, 23), (⟨"VisitVansModel", "vanFor", "(II)I"⟩, 23), (⟨"VisitVansModel", "hasSkill", "(II)Z"⟩, 23), (⟨"VisitVansModel", "hasParts", "(II)Z"⟩, 23), (⟨"VisitVansModel", "beginOf", "(III)I"⟩, 23), (⟨"VisitVansModel", "wayTo", "(II)I"⟩, 23), (⟨"VisitVansModel", "reason", "(I)I"⟩, 23), (⟨"VisitVansModel", "makes", "(III)V"⟩, 23), (⟨"VisitVansModel", "visitsOf", "(I)I"⟩, 23), (⟨"VisitVansModel", "eventsOf", "(I)I"⟩, 23), (⟨"VisitVansModel", "nextVisit", "(II)I"⟩, 23), (⟨"VisitVansModel", "tells", "(IIIII)I"⟩, 23)]
theorem lw_r3 : ∀ q ∈ lw_privs_3, lw_okq q := List.forall_mem_cons.mpr ⟨lw_p32, List.forall_mem_cons.mpr ⟨lw_p33, List.forall_mem_cons.mpr ⟨lw_p34, List.forall_mem_cons.mpr ⟨lw_p35, List.forall_mem_cons.mpr ⟨lw_p36, List.forall_mem_cons.mpr ⟨lw_p37, List.forall_mem_cons.mpr ⟨lw_p38, List.forall_mem_cons.mpr ⟨lw_p39, List.forall_mem_cons.mpr ⟨lw_p40, List.forall_mem_cons.mpr ⟨lw_p41, List.forall_mem_cons.mpr ⟨lw_p42, List.forall_mem_cons.mpr ⟨lw_p43, List.forall_mem_cons.mpr ⟨lw_p44, List.forall_mem_cons.mpr ⟨lw_p45, List.forall_mem_cons.mpr ⟨lw_p46, List.forall_mem_cons.mpr ⟨lw_p47, fun _ h => absurd h List.not_mem_nil⟩⟩⟩⟩⟩⟩⟩⟩⟩⟩⟩⟩⟩⟩⟩⟩
theorem lw_p48 : lw_okq (⟨"VisitVansModel", "withPromise", "(II)I"⟩, 23) := ⟨⟨by decide +kernel, by decide +kernel⟩, List.mem_of_getElem? (i := 577) (by decide +kernel), List.mem_of_getElem? (i := 802) (by decide +kernel), List.mem_of_getElem? (i := 803) (by decide +kernel)⟩
theorem lw_p49 : lw_okq (⟨"VisitVansModel", "overVans", "(I)I"⟩, 23) := ⟨⟨by decide +kernel, by decide +kernel⟩, List.mem_of_getElem? (i := 577) (by decide +kernel), List.mem_of_getElem? (i := 806) (by decide +kernel), List.mem_of_getElem? (i := 807) (by decide +kernel)⟩
theorem lw_p50 : lw_okq (⟨"VisitVansModel", "brokenAt", "(I)I"⟩, 23) := ⟨⟨by decide +kernel, by decide +kernel⟩, List.mem_of_getElem? (i := 577) (by decide +kernel), List.mem_of_getElem? (i := 855) (by decide +kernel), List.mem_of_getElem? (i := 856) (by decide +kernel)⟩
theorem lw_p51 : lw_okq (⟨"VisitVansModel", "reads", "()I"⟩, 23) := ⟨⟨by decide +kernel, by decide +kernel⟩, List.mem_of_getElem? (i := 577) (by decide +kernel), List.mem_of_getElem? (i := 872) (by decide +kernel), List.mem_of_getElem? (i := 873) (by decide +kernel)⟩
theorem lw_p52 : lw_okq (⟨"VisitVansModel", "readsOrder", "()V"⟩, 23) := ⟨⟨by decide +kernel, by decide +kernel⟩, List.mem_of_getElem? (i := 577) (by decide +kernel), List.mem_of_getElem? (i := 876) (by decide +kernel), List.mem_of_getElem? (i := 877) (by decide +kernel)⟩
theorem lw_p53 : lw_okq (⟨"VisitVansModel", "sign", "()I"⟩, 23) := ⟨⟨by decide +kernel, by decide +kernel⟩, List.mem_of_getElem? (i := 577) (by decide +kernel), List.mem_of_getElem? (i := 880) (by decide +kernel), List.mem_of_getElem? (i := 881) (by decide +kernel)⟩
theorem lw_p54 : lw_okq (⟨"VisitVansModel", "readsVisit", "(I)V"⟩, 23) := ⟨⟨by decide +kernel, by decide +kernel⟩, List.mem_of_getElem? (i := 577) (by decide +kernel), List.mem_of_getElem? (i := 884) (by decide +kernel), List.mem_of_getElem? (i := 885) (by decide +kernel)⟩
theorem lw_p55 : lw_okq (⟨"VisitVansModel", "number", "()I"⟩, 23) := ⟨⟨by decide +kernel, by decide +kernel⟩, List.mem_of_getElem? (i := 577) (by decide +kernel), List.mem_of_getElem? (i := 888) (by decide +kernel), List.mem_of_getElem? (i := 889) (by decide +kernel)⟩
theorem lw_p56 : lw_okq (⟨"VisitVansModel", "digit", "(I)I"⟩, 23) := ⟨⟨by decide +kernel, by decide +kernel⟩, List.mem_of_getElem? (i := 577) (by decide +kernel), List.mem_of_getElem? (i := 892) (by decide +kernel), List.mem_of_getElem? (i := 893) (by decide +kernel)⟩
theorem lw_p57 : lw_okq (⟨"VisitVansModel", "wants", "(I)V"⟩, 23) := ⟨⟨by decide +kernel, by decide +kernel⟩, List.mem_of_getElem? (i := 577) (by decide +kernel), List.mem_of_getElem? (i := 896) (by decide +kernel), List.mem_of_getElem? (i := 897) (by decide +kernel)⟩
theorem lw_p58 : lw_okq (⟨"VisitVansModel", "readsVan", "(I)V"⟩, 23) := ⟨⟨by decide +kernel, by decide +kernel⟩, List.mem_of_getElem? (i := 577) (by decide +kernel), List.mem_of_getElem? (i := 900) (by decide +kernel), List.mem_of_getElem? (i := 901) (by decide +kernel)⟩
theorem lw_p59 : lw_okq (⟨"VisitVansModel", "refusesOrder", "(I)I"⟩, 23) := ⟨⟨by decide +kernel, by decide +kernel⟩, List.mem_of_getElem? (i := 577) (by decide +kernel), List.mem_of_getElem? (i := 908) (by decide +kernel), List.mem_of_getElem? (i := 909) (by decide +kernel)⟩
theorem lw_p60 : lw_okq (⟨"VisitVansModel", "does", "(I)V"⟩, 23) := ⟨⟨by decide +kernel, by decide +kernel⟩, List.mem_of_getElem? (i := 577) (by decide +kernel), List.mem_of_getElem? (i := 912) (by decide +kernel), List.mem_of_getElem? (i := 913) (by decide +kernel)⟩
def lw_privs_4 : List (MethodName × Nat) := [(⟨"VisitVansModel", "withPromise", "(II)I"⟩, 23), (⟨"VisitVansModel", "overVans", "(I)I"⟩, 23), (⟨"VisitVansModel", "brokenAt", "(I)I"⟩, 23), (⟨"VisitVansModel", "reads", "()I"⟩, 23), (⟨"VisitVansModel", "readsOrder", "()V"⟩, 23), (⟨"VisitVansModel", "sign", "()I"⟩, 23), (⟨"VisitVansModel", "readsVisit", "(I)V"⟩, 23), (⟨"VisitVansModel", "number", "()I"⟩, 23), (⟨"VisitVansModel", "digit", "(I)I"⟩, 23), (⟨"VisitVansModel", "wants", "(I)V"⟩, 23), (⟨"VisitVansModel", "readsVan", "(I)V"⟩, 23), (⟨"VisitVansModel", "refusesOrder", "(I)I"⟩, 23), (⟨"VisitVansModel", "does", "(I)V"⟩, 23)]
theorem lw_r4 : ∀ q ∈ lw_privs_4, lw_okq q := List.forall_mem_cons.mpr ⟨lw_p48, List.forall_mem_cons.mpr ⟨lw_p49, List.forall_mem_cons.mpr ⟨lw_p50, List.forall_mem_cons.mpr ⟨lw_p51, List.forall_mem_cons.mpr ⟨lw_p52, List.forall_mem_cons.mpr ⟨lw_p53, List.forall_mem_cons.mpr ⟨lw_p54, List.forall_mem_cons.mpr ⟨lw_p55, List.forall_mem_cons.mpr ⟨lw_p56, List.forall_mem_cons.mpr ⟨lw_p57, List.forall_mem_cons.mpr ⟨lw_p58, List.forall_mem_cons.mpr ⟨lw_p59, List.forall_mem_cons.mpr ⟨lw_p60, fun _ h => absurd h List.not_mem_nil⟩⟩⟩⟩⟩⟩⟩⟩⟩⟩⟩⟩⟩
def lw_privs : List (MethodName × Nat) := lw_privs_1 ++ (lw_privs_2 ++ (lw_privs_3 ++ (lw_privs_4)))
def lw_tbl : List Cond := k2_sels lw_privs ++ tables_1
theorem lw_privs_ok : ∀ q ∈ lw_privs, lw_okq q := by
  show ∀ q ∈ lw_privs_1 ++ (lw_privs_2 ++ (lw_privs_3 ++ (lw_privs_4))), lw_okq q
  exact List.forall_mem_append.mpr ⟨lw_r1, List.forall_mem_append.mpr ⟨lw_r2, List.forall_mem_append.mpr ⟨lw_r3, lw_r4⟩⟩⟩
/-- the streams that the claim lets the run draw from -/
abbrev lw_cs : List Choice := [Jvm.Choice.named "NaN.bits"]
theorem lw_bits : nanBits ∈ lw_cs := by first | decide | exact List.mem_cons_self | simp [lw_cs, nanBits]
-- ===== end of PART A; then your names; then what follows =====
end
section
/-! ===== BEGIN words of one list among another's, by their places ===== -/
theorem goodIn_r {big : List Cond} (ws : List Cond) (ps : List Nat) (hp : ws = ps.filterMap (fun i => big[i]?)) (h : ws.all goodWord = true) : GoodIn big ws := by
  intro w hw
  have h1 := List.all_eq_true.mp h w hw
  rw [hp] at hw
  obtain ⟨i, -, hi⟩ := List.mem_filterMap.mp hw
  have hm : w ∈ big := by first | exact List.mem_of_getElem? hi | exact List.getElem?_mem hi
  exact ⟨hm, good_of_word h1⟩
theorem goodIn_app {big a b : List Cond} (ha : GoodIn big a) (hb : GoodIn big b) : GoodIn big (a ++ b) := fun w h => (List.mem_append.mp h).elim (ha w) (hb w)
theorem goodIn_ca {big a b : List Cond} {c : Cond} (ha : GoodIn big (c :: a)) (hb : GoodIn big b) : GoodIn big (c :: (a ++ b)) := fun w h => (List.mem_cons.mp h).elim (fun e => ha w (List.mem_cons.mpr (Or.inl e))) (fun h => (List.mem_append.mp h).elim (fun h => ha w (List.mem_cons.mpr (Or.inr h))) (hb w))
theorem goodIn_sub {big ws : List Cond} (hm : ∀ w ∈ ws, w ∈ big) (h : ws.all goodWord = true) : GoodIn big ws := fun w hw => ⟨hm w hw, good_of_word (List.all_eq_true.mp h w hw)⟩
/-! ===== END ===== -/

/-! ===== BEGIN printed: names, fields, word lists, decode rows ===== -/
def RX0 : String := "VisitVans$History"
def TX0 : u_T := fun k => match k with
  | 0 => ("VisitVans$History", "states", "[LVisitVans$Road;", true)
  | 1 => ("VisitVans$History", "oldest", "I", false)
  | _ => ("VisitVans$History", "many", "I", false)
def tyX0 : Nat → FieldType := fun k => match k with
  | 0 => .array (.object "VisitVans$Road")
  | 1 => .int
  | _ => .int
abbrev wsX00 : List Cond := u_ws RX0 TX0 3
theorem nmX0 : ∀ a, a < 3 → ∀ b, b < 3 → a ≠ b → (TX0 a).2.1 ≠ (TX0 b).2.1 := by decide +kernel
theorem tyX0_ok : ∀ k, k < 3 → parseFieldDescriptor (TX0 k).2.2.1 = some (tyX0 k) := by decide +kernel
abbrev cX0_init : ByteArray := prog_2_method_1_code
def yX0_init : MethodName := ⟨RX0, "<init>", "()V"⟩
abbrev cX0_note : ByteArray := prog_2_method_2_code
def yX0_note : MethodName := ⟨RX0, "note", "(LVisitVans$Road;)V"⟩
abbrev cX0_keep : ByteArray := prog_2_method_3_code
def yX0_keep : MethodName := ⟨RX0, "keep", "()V"⟩
abbrev cX0_takeBack : ByteArray := prog_2_method_4_code
def yX0_takeBack : MethodName := ⟨RX0, "takeBack", "(LVisitVans$Road;)V"⟩
def RX1 : String := "VisitVans$Pad"
def TX1 : u_T := fun k => match k with
  | 0 => ("VisitVans$Pad", "signs", "[C", true)
  | 1 => ("VisitVans$Pad", "length", "I", false)
  | 2 => ("VisitVans$Pad", "at", "I", false)
  | 3 => ("VisitVans$Pad", "toldCount", "I", false)
  | 4 => ("VisitVans$Pad", "told", "[I", true)
  | _ => ("VisitVans$Pad", "kind", "C", false)
def tyX1 : Nat → FieldType := fun k => match k with
  | 0 => .array .char
  | 1 => .int
  | 2 => .int
  | 3 => .int
  | 4 => .array .int
  | _ => .char
abbrev wsX10 : List Cond := u_ws RX1 TX1 6
theorem nmX1 : ∀ a, a < 6 → ∀ b, b < 6 → a ≠ b → (TX1 a).2.1 ≠ (TX1 b).2.1 := by decide +kernel
theorem tyX1_ok : ∀ k, k < 6 → parseFieldDescriptor (TX1 k).2.2.1 = some (tyX1 k) := by decide +kernel
abbrev cX1_init : ByteArray := prog_3_method_1_code
def yX1_init : MethodName := ⟨RX1, "<init>", "()V"⟩
abbrev cX1_append : ByteArray := prog_3_method_2_code
def yX1_append : MethodName := ⟨RX1, "append", "(J)I"⟩
abbrev cX1_start : ByteArray := prog_3_method_3_code
def yX1_start : MethodName := ⟨RX1, "start", "()V"⟩
abbrev cX1_hasMore : ByteArray := prog_3_method_4_code
def yX1_hasMore : MethodName := ⟨RX1, "hasMore", "()Z"⟩
abbrev cX1_firstFault : ByteArray := prog_3_method_5_code
def yX1_firstFault : MethodName := ⟨RX1, "firstFault", "()I"⟩
abbrev cX1_readOrder : ByteArray := prog_3_method_6_code
def yX1_readOrder : MethodName := ⟨RX1, "readOrder", "()Z"⟩
abbrev cX1_formOf : ByteArray := prog_3_method_7_code
def yX1_formOf : MethodName := ⟨RX1, "formOf", "(C)Ljava/lang/String;"⟩
abbrev cX1_readPiece : ByteArray := prog_3_method_8_code
def yX1_readPiece : MethodName := ⟨RX1, "readPiece", "(C)Z"⟩
abbrev cX1_nextSign : ByteArray := prog_3_method_9_code
def yX1_nextSign : MethodName := ⟨RX1, "nextSign", "()C"⟩
abbrev cX1_readSign : ByteArray := prog_3_method_10_code
def yX1_readSign : MethodName := ⟨RX1, "readSign", "(C)Z"⟩
abbrev cX1_nextDigit : ByteArray := prog_3_method_11_code
def yX1_nextDigit : MethodName := ⟨RX1, "nextDigit", "()I"⟩
abbrev cX1_readDigit : ByteArray := prog_3_method_12_code
def yX1_readDigit : MethodName := ⟨RX1, "readDigit", "()Z"⟩
abbrev cX1_readNumber : ByteArray := prog_3_method_13_code
def yX1_readNumber : MethodName := ⟨RX1, "readNumber", "()Z"⟩
abbrev cX1_readSkills : ByteArray := prog_3_method_14_code
def yX1_readSkills : MethodName := ⟨RX1, "readSkills", "()Z"⟩
abbrev cX1_tell : ByteArray := prog_3_method_15_code
def yX1_tell : MethodName := ⟨RX1, "tell", "(I)V"⟩
def RX2 : String := "VisitVans$Plan"
def TX2 : u_T := fun k => match k with
  | 0 => ("VisitVans$Plan", "order", "[I", true)
  | 1 => ("VisitVans$Plan", "outcomes", "[I", true)
  | 2 => ("VisitVans$Plan", "drives", "[I", true)
  | 3 => ("VisitVans$Plan", "left", "[I", true)
  | 4 => ("VisitVans$Plan", "events", "[I", true)
  | 5 => ("VisitVans$Plan", "visitCount", "I", false)
  | _ => ("VisitVans$Plan", "vanCount", "I", false)
def tyX2 : Nat → FieldType := fun k => match k with
  | 0 => .array .int
  | 1 => .array .int
  | 2 => .array .int
  | 3 => .array .int
  | 4 => .array .int
  | 5 => .int
  | _ => .int
abbrev wsX20 : List Cond := u_ws RX2 TX2 7
theorem nmX2 : ∀ a, a < 7 → ∀ b, b < 7 → a ≠ b → (TX2 a).2.1 ≠ (TX2 b).2.1 := by decide +kernel
theorem tyX2_ok : ∀ k, k < 7 → parseFieldDescriptor (TX2 k).2.2.1 = some (tyX2 k) := by decide +kernel
abbrev cX2_init : ByteArray := prog_4_method_1_code
def yX2_init : MethodName := ⟨RX2, "<init>", "()V"⟩
abbrev cX2_make : ByteArray := prog_4_method_2_code
def yX2_make : MethodName := ⟨RX2, "make", "(LVisitVans$Road;)V"⟩
abbrev cX2_outcome : ByteArray := prog_4_method_3_code
def yX2_outcome : MethodName := ⟨RX2, "outcome", "(II)I"⟩
abbrev cX2_driveFact : ByteArray := prog_4_method_4_code
def yX2_driveFact : MethodName := ⟨RX2, "driveFact", "(II)I"⟩
abbrev cX2_partsLeft : ByteArray := prog_4_method_5_code
def yX2_partsLeft : MethodName := ⟨RX2, "partsLeft", "(II)I"⟩
abbrev cX2_eventFact : ByteArray := prog_4_method_6_code
def yX2_eventFact : MethodName := ⟨RX2, "eventFact", "(III)I"⟩
abbrev cX2_promisesThatAre : ByteArray := prog_4_method_7_code
def yX2_promisesThatAre : MethodName := ⟨RX2, "promisesThatAre", "(I)I"⟩
abbrev cX2_visitsMade : ByteArray := prog_4_method_8_code
def yX2_visitsMade : MethodName := ⟨RX2, "visitsMade", "()I"⟩
abbrev cX2_sumOverVans : ByteArray := prog_4_method_9_code
def yX2_sumOverVans : MethodName := ⟨RX2, "sumOverVans", "(I)I"⟩
abbrev cX2_lastFree : ByteArray := prog_4_method_10_code
def yX2_lastFree : MethodName := ⟨RX2, "lastFree", "()I"⟩
abbrev cX2_sendVansHome : ByteArray := prog_4_method_11_code
def yX2_sendVansHome : MethodName := ⟨RX2, "sendVansHome", "(LVisitVans$Road;)V"⟩
abbrev cX2_orderByEnds : ByteArray := prog_4_method_12_code
def yX2_orderByEnds : MethodName := ⟨RX2, "orderByEnds", "(LVisitVans$Road;)V"⟩
abbrev cX2_look : ByteArray := prog_4_method_13_code
def yX2_look : MethodName := ⟨RX2, "look", "(LVisitVans$Road;II)V"⟩
abbrev cX2_firstToBegin : ByteArray := prog_4_method_14_code
def yX2_firstToBegin : MethodName := ⟨RX2, "firstToBegin", "(LVisitVans$Road;II)I"⟩
abbrev cX2_hasSkill : ByteArray := prog_4_method_15_code
def yX2_hasSkill : MethodName := ⟨RX2, "hasSkill", "(LVisitVans$Road;II)Z"⟩
abbrev cX2_hasParts : ByteArray := prog_4_method_16_code
def yX2_hasParts : MethodName := ⟨RX2, "hasParts", "(LVisitVans$Road;II)Z"⟩
abbrev cX2_comes : ByteArray := prog_4_method_17_code
def yX2_comes : MethodName := ⟨RX2, "comes", "(LVisitVans$Road;II)I"⟩
abbrev cX2_reason : ByteArray := prog_4_method_18_code
def yX2_reason : MethodName := ⟨RX2, "reason", "(LVisitVans$Road;I)I"⟩
abbrev cX2_putOutcome : ByteArray := prog_4_method_19_code
def yX2_putOutcome : MethodName := ⟨RX2, "putOutcome", "(IIIII)V"⟩
abbrev cX2_drive : ByteArray := prog_4_method_20_code
def yX2_drive : MethodName := ⟨RX2, "drive", "(LVisitVans$Road;II)V"⟩
abbrev cX2_addEvent : ByteArray := prog_4_method_21_code
def yX2_addEvent : MethodName := ⟨RX2, "addEvent", "(IIIII)V"⟩
def RX3 : String := "VisitVans$Road"
def TX3 : u_T := fun k => match k with
  | 0 => ("VisitVans$Road", "settings", "[I", true)
  | 1 => ("VisitVans$Road", "visits", "[I", true)
  | 2 => ("VisitVans$Road", "vans", "[I", true)
  | 3 => ("VisitVans$Road", "parts", "[I", true)
  | 4 => ("VisitVans$Road", "visitCount", "I", false)
  | _ => ("VisitVans$Road", "vanCount", "I", false)
def tyX3 : Nat → FieldType := fun k => match k with
  | 0 => .array .int
  | 1 => .array .int
  | 2 => .array .int
  | 3 => .array .int
  | 4 => .int
  | _ => .int
abbrev wsX30 : List Cond := u_ws RX3 TX3 6
theorem nmX3 : ∀ a, a < 6 → ∀ b, b < 6 → a ≠ b → (TX3 a).2.1 ≠ (TX3 b).2.1 := by decide +kernel
theorem tyX3_ok : ∀ k, k < 6 → parseFieldDescriptor (TX3 k).2.2.1 = some (tyX3 k) := by decide +kernel
abbrev cX3_init : ByteArray := prog_5_method_1_code
def yX3_init : MethodName := ⟨RX3, "<init>", "()V"⟩
abbrev cX3_copyFrom : ByteArray := prog_5_method_2_code
def yX3_copyFrom : MethodName := ⟨RX3, "copyFrom", "(LVisitVans$Road;)V"⟩
abbrev cX3_hasVisit : ByteArray := prog_5_method_3_code
def yX3_hasVisit : MethodName := ⟨RX3, "hasVisit", "(I)Z"⟩
abbrev cX3_hasVan : ByteArray := prog_5_method_4_code
def yX3_hasVan : MethodName := ⟨RX3, "hasVan", "(I)Z"⟩
abbrev cX3_visitFact : ByteArray := prog_5_method_5_code
def yX3_visitFact : MethodName := ⟨RX3, "visitFact", "(II)I"⟩
abbrev cX3_vanFact : ByteArray := prog_5_method_6_code
def yX3_vanFact : MethodName := ⟨RX3, "vanFact", "(II)I"⟩
abbrev cX3_partsOf : ByteArray := prog_5_method_7_code
def yX3_partsOf : MethodName := ⟨RX3, "partsOf", "(II)I"⟩
abbrev cX3_changeSetting : ByteArray := prog_5_method_8_code
def yX3_changeSetting : MethodName := ⟨RX3, "changeSetting", "(II)I"⟩
abbrev cX3_addVisit : ByteArray := prog_5_method_9_code
def yX3_addVisit : MethodName := ⟨RX3, "addVisit", "(IIIIII)I"⟩
abbrev cX3_putVisit : ByteArray := prog_5_method_10_code
def yX3_putVisit : MethodName := ⟨RX3, "putVisit", "(IIIIII)I"⟩
abbrev cX3_removeVisit : ByteArray := prog_5_method_11_code
def yX3_removeVisit : MethodName := ⟨RX3, "removeVisit", "(I)I"⟩
abbrev cX3_addVan : ByteArray := prog_5_method_12_code
def yX3_addVan : MethodName := ⟨RX3, "addVan", "(II)I"⟩
abbrev cX3_changeStock : ByteArray := prog_5_method_13_code
def yX3_changeStock : MethodName := ⟨RX3, "changeStock", "(III)I"⟩
def RX4 : String := "VisitVans"
def TX4 : u_T := fun k => match k with
  | 0 => ("VisitVans", "road", "LVisitVans$Road;", true)
  | 1 => ("VisitVans", "plan", "LVisitVans$Plan;", true)
  | 2 => ("VisitVans", "trialRoad", "LVisitVans$Road;", true)
  | 3 => ("VisitVans", "trialPlan", "LVisitVans$Plan;", true)
  | 4 => ("VisitVans", "history", "LVisitVans$History;", true)
  | 5 => ("VisitVans", "slots", "[LVisitVans$Road;", true)
  | 6 => ("VisitVans", "saved", "[Z", true)
  | _ => ("VisitVans", "pad", "LVisitVans$Pad;", true)
def tyX4 : Nat → FieldType := fun k => match k with
  | 0 => .object "VisitVans$Road"
  | 1 => .object "VisitVans$Plan"
  | 2 => .object "VisitVans$Road"
  | 3 => .object "VisitVans$Plan"
  | 4 => .object "VisitVans$History"
  | 5 => .array (.object "VisitVans$Road")
  | 6 => .array .boolean
  | _ => .object "VisitVans$Pad"
abbrev wsX40 : List Cond := u_ws RX4 TX4 8
theorem nmX4 : ∀ a, a < 8 → ∀ b, b < 8 → a ≠ b → (TX4 a).2.1 ≠ (TX4 b).2.1 := by decide +kernel
theorem tyX4_ok : ∀ k, k < 8 → parseFieldDescriptor (TX4 k).2.2.1 = some (tyX4 k) := by decide +kernel
abbrev cX4_init : ByteArray := prog_1_method_1_code
def yX4_init : MethodName := ⟨RX4, "<init>", "()V"⟩
abbrev cX4_set : ByteArray := prog_1_method_2_code
def yX4_set : MethodName := ⟨RX4, "set", "(II)I"⟩
abbrev cX4_visit : ByteArray := prog_1_method_3_code
def yX4_visit : MethodName := ⟨RX4, "visit", "(IIIIII)I"⟩
abbrev cX4_drop : ByteArray := prog_1_method_4_code
def yX4_drop : MethodName := ⟨RX4, "drop", "(I)I"⟩
abbrev cX4_van : ByteArray := prog_1_method_5_code
def yX4_van : MethodName := ⟨RX4, "van", "(II)I"⟩
abbrev cX4_load : ByteArray := prog_1_method_6_code
def yX4_load : MethodName := ⟨RX4, "load", "(III)I"⟩
abbrev cX4_ofVisit : ByteArray := prog_1_method_7_code
def yX4_ofVisit : MethodName := ⟨RX4, "ofVisit", "(II)I"⟩
abbrev cX4_ofVan : ByteArray := prog_1_method_8_code
def yX4_ofVan : MethodName := ⟨RX4, "ofVan", "(II)I"⟩
abbrev cX4_stock : ByteArray := prog_1_method_9_code
def yX4_stock : MethodName := ⟨RX4, "stock", "(III)I"⟩
abbrev cX4_event : ByteArray := prog_1_method_10_code
def yX4_event : MethodName := ⟨RX4, "event", "(III)I"⟩
abbrev cX4_count : ByteArray := prog_1_method_11_code
def yX4_count : MethodName := ⟨RX4, "count", "(I)I"⟩
abbrev cX4_wanted : ByteArray := prog_1_method_12_code
def yX4_wanted : MethodName := ⟨RX4, "wanted", "(I)I"⟩
abbrev cX4_share : ByteArray := prog_1_method_13_code
def yX4_share : MethodName := ⟨RX4, "share", "()I"⟩
abbrev cX4_meanWay : ByteArray := prog_1_method_14_code
def yX4_meanWay : MethodName := ⟨RX4, "meanWay", "(I)J"⟩
abbrev cX4_would : ByteArray := prog_1_method_15_code
def yX4_would : MethodName := ⟨RX4, "would", "(IIIIII)I"⟩
abbrev cX4_withVan : ByteArray := prog_1_method_16_code
def yX4_withVan : MethodName := ⟨RX4, "withVan", "(II)I"⟩
abbrev cX4_slowest : ByteArray := prog_1_method_17_code
def yX4_slowest : MethodName := ⟨RX4, "slowest", "()I"⟩
abbrev cX4_put : ByteArray := prog_1_method_18_code
def yX4_put : MethodName := ⟨RX4, "put", "(J)I"⟩
abbrev cX4_wipe : ByteArray := prog_1_method_19_code
def yX4_wipe : MethodName := ⟨RX4, "wipe", "()I"⟩
abbrev cX4_fault : ByteArray := prog_1_method_20_code
def yX4_fault : MethodName := ⟨RX4, "fault", "()I"⟩
abbrev cX4_carryOut : ByteArray := prog_1_method_21_code
def yX4_carryOut : MethodName := ⟨RX4, "carryOut", "()I"⟩
abbrev cX4_undo : ByteArray := prog_1_method_22_code
def yX4_undo : MethodName := ⟨RX4, "undo", "()I"⟩
abbrev cX4_save : ByteArray := prog_1_method_23_code
def yX4_save : MethodName := ⟨RX4, "save", "(I)I"⟩
abbrev cX4_restore : ByteArray := prog_1_method_24_code
def yX4_restore : MethodName := ⟨RX4, "restore", "(I)I"⟩
abbrev cX4_changed : ByteArray := prog_1_method_25_code
def yX4_changed : MethodName := ⟨RX4, "changed", "(I)I"⟩
abbrev cX4_madeAtPace : ByteArray := prog_1_method_26_code
def yX4_madeAtPace : MethodName := ⟨RX4, "madeAtPace", "(I)I"⟩
abbrev cX4_carryOrders : ByteArray := prog_1_method_27_code
def yX4_carryOrders : MethodName := ⟨RX4, "carryOrders", "()I"⟩
abbrev cX4_carryOne : ByteArray := prog_1_method_28_code
def yX4_carryOne : MethodName := ⟨RX4, "carryOne", "()I"⟩
abbrev cX4_within : ByteArray := prog_1_method_29_code
def yX4_within : MethodName := ⟨RX4, "within", "(III)Z"⟩
abbrev cX4_isPart : ByteArray := prog_1_method_30_code
def yX4_isPart : MethodName := ⟨RX4, "isPart", "(I)Z"⟩
abbrev cX4_visitError : ByteArray := prog_1_method_31_code
def yX4_visitError : MethodName := ⟨RX4, "visitError", "(IIIIII)I"⟩
abbrev cX4_bitsOf : ByteArray := prog_1_method_32_code
def yX4_bitsOf : MethodName := ⟨RX4, "bitsOf", "(DII)J"⟩
def RX5 : String := "VisitVansModel"
def TX5 : u_T := fun k => match k with
  | 0 => ("VisitVansModel", "thrown", "I", false)
  | 1 => ("VisitVansModel", "s", "[I", true)
  | 2 => ("VisitVansModel", "undos", "[I", true)
  | 3 => ("VisitVansModel", "undoMany", "I", false)
  | 4 => ("VisitVansModel", "slots", "[I", true)
  | 5 => ("VisitVansModel", "hasSlot", "[Z", true)
  | 6 => ("VisitVansModel", "pad", "[I", true)
  | 7 => ("VisitVansModel", "length", "I", false)
  | 8 => ("VisitVansModel", "order", "[I", true)
  | 9 => ("VisitVansModel", "promise", "[I", true)
  | 10 => ("VisitVansModel", "vanOf", "[I", true)
  | 11 => ("VisitVansModel", "begins", "[I", true)
  | 12 => ("VisitVansModel", "comes", "[I", true)
  | 13 => ("VisitVansModel", "leaves", "[I", true)
  | 14 => ("VisitVansModel", "placeOf", "[I", true)
  | 15 => ("VisitVansModel", "freeAt", "[I", true)
  | 16 => ("VisitVansModel", "left", "[I", true)
  | 17 => ("VisitVansModel", "ways", "[I", true)
  | 18 => ("VisitVansModel", "waits", "[I", true)
  | 19 => ("VisitVansModel", "at", "I", false)
  | 20 => ("VisitVansModel", "isWell", "Z", false)
  | 21 => ("VisitVansModel", "told", "[I", true)
  | _ => ("VisitVansModel", "toldMany", "I", false)
def tyX5 : Nat → FieldType := fun k => match k with
  | 0 => .int
  | 1 => .array .int
  | 2 => .array .int
  | 3 => .int
  | 4 => .array .int
  | 5 => .array .boolean
  | 6 => .array .int
  | 7 => .int
  | 8 => .array .int
  | 9 => .array .int
  | 10 => .array .int
  | 11 => .array .int
  | 12 => .array .int
  | 13 => .array .int
  | 14 => .array .int
  | 15 => .array .int
  | 16 => .array .int
  | 17 => .array .int
  | 18 => .array .int
  | 19 => .int
  | 20 => .boolean
  | 21 => .array .int
  | _ => .int
abbrev wsX50 : List Cond := u_ws RX5 TX5 23
theorem nmX5 : ∀ a, a < 23 → ∀ b, b < 23 → a ≠ b → (TX5 a).2.1 ≠ (TX5 b).2.1 := by decide +kernel
theorem tyX5_ok : ∀ k, k < 23 → parseFieldDescriptor (TX5 k).2.2.1 = some (tyX5 k) := by decide +kernel
abbrev cX5_init : ByteArray := prog_7_method_1_code
def yX5_init : MethodName := ⟨RX5, "<init>", "()V"⟩
abbrev cX5_in : ByteArray := prog_7_method_3_code
def yX5_in : MethodName := ⟨RX5, "in", "(III)Z"⟩
abbrev cX5_van0 : ByteArray := prog_7_method_4_code
def yX5_van0 : MethodName := ⟨RX5, "van0", "(II)I"⟩
abbrev cX5_visit0 : ByteArray := prog_7_method_5_code
def yX5_visit0 : MethodName := ⟨RX5, "visit0", "(II)I"⟩
abbrev cX5_records : ByteArray := prog_7_method_6_code
def yX5_records : MethodName := ⟨RX5, "records", "()V"⟩
abbrev cX5_hasSkill : ByteArray := prog_7_method_7_code
def yX5_hasSkill : MethodName := ⟨RX5, "hasSkill", "(II)Z"⟩
abbrev cX5_hasParts : ByteArray := prog_7_method_8_code
def yX5_hasParts : MethodName := ⟨RX5, "hasParts", "(II)Z"⟩
abbrev cX5_wayTo : ByteArray := prog_7_method_9_code
def yX5_wayTo : MethodName := ⟨RX5, "wayTo", "(II)I"⟩
abbrev cX5_beginOf : ByteArray := prog_7_method_10_code
def yX5_beginOf : MethodName := ⟨RX5, "beginOf", "(III)I"⟩
abbrev cX5_vanFor : ByteArray := prog_7_method_11_code
def yX5_vanFor : MethodName := ⟨RX5, "vanFor", "(II)I"⟩
abbrev cX5_makes : ByteArray := prog_7_method_12_code
def yX5_makes : MethodName := ⟨RX5, "makes", "(III)V"⟩
abbrev cX5_reason : ByteArray := prog_7_method_13_code
def yX5_reason : MethodName := ⟨RX5, "reason", "(I)I"⟩
abbrev cX5_looks : ByteArray := prog_7_method_14_code
def yX5_looks : MethodName := ⟨RX5, "looks", "(III)I"⟩
abbrev cX5_rankOf : ByteArray := prog_7_method_15_code
def yX5_rankOf : MethodName := ⟨RX5, "rankOf", "(I)I"⟩
abbrev cX5_plans : ByteArray := prog_7_method_16_code
def yX5_plans : MethodName := ⟨RX5, "plans", "()V"⟩
abbrev cX5_withPromise : ByteArray := prog_7_method_17_code
def yX5_withPromise : MethodName := ⟨RX5, "withPromise", "(II)I"⟩
abbrev cX5_isSetting : ByteArray := prog_7_method_18_code
def yX5_isSetting : MethodName := ⟨RX5, "isSetting", "(II)Z"⟩
abbrev cX5_set : ByteArray := prog_7_method_19_code
def yX5_set : MethodName := ⟨RX5, "set", "(II)I"⟩
abbrev cX5_refuses : ByteArray := prog_7_method_20_code
def yX5_refuses : MethodName := ⟨RX5, "refuses", "(IIIIII)I"⟩
abbrev cX5_refusesVisit : ByteArray := prog_7_method_21_code
def yX5_refusesVisit : MethodName := ⟨RX5, "refusesVisit", "(IIIIII)I"⟩
abbrev cX5_laysVisit : ByteArray := prog_7_method_22_code
def yX5_laysVisit : MethodName := ⟨RX5, "laysVisit", "(IIIIII)I"⟩
abbrev cX5_visit : ByteArray := prog_7_method_23_code
def yX5_visit : MethodName := ⟨RX5, "visit", "(IIIIII)I"⟩
abbrev cX5_isVisit : ByteArray := prog_7_method_24_code
def yX5_isVisit : MethodName := ⟨RX5, "isVisit", "(I)Z"⟩
abbrev cX5_dropsVisit : ByteArray := prog_7_method_25_code
def yX5_dropsVisit : MethodName := ⟨RX5, "dropsVisit", "(I)I"⟩
abbrev cX5_drop : ByteArray := prog_7_method_26_code
def yX5_drop : MethodName := ⟨RX5, "drop", "(I)I"⟩
abbrev cX5_refusesVan : ByteArray := prog_7_method_27_code
def yX5_refusesVan : MethodName := ⟨RX5, "refusesVan", "(II)I"⟩
abbrev cX5_laysVan : ByteArray := prog_7_method_28_code
def yX5_laysVan : MethodName := ⟨RX5, "laysVan", "(III)I"⟩
abbrev cX5_van : ByteArray := prog_7_method_29_code
def yX5_van : MethodName := ⟨RX5, "van", "(II)I"⟩
abbrev cX5_isVan : ByteArray := prog_7_method_30_code
def yX5_isVan : MethodName := ⟨RX5, "isVan", "(I)Z"⟩
abbrev cX5_refusesLoad : ByteArray := prog_7_method_31_code
def yX5_refusesLoad : MethodName := ⟨RX5, "refusesLoad", "(III)I"⟩
abbrev cX5_load : ByteArray := prog_7_method_32_code
def yX5_load : MethodName := ⟨RX5, "load", "(III)I"⟩
abbrev cX5_ofVisit : ByteArray := prog_7_method_33_code
def yX5_ofVisit : MethodName := ⟨RX5, "ofVisit", "(II)I"⟩
abbrev cX5_visitsOf : ByteArray := prog_7_method_34_code
def yX5_visitsOf : MethodName := ⟨RX5, "visitsOf", "(I)I"⟩
abbrev cX5_eventsOf : ByteArray := prog_7_method_35_code
def yX5_eventsOf : MethodName := ⟨RX5, "eventsOf", "(I)I"⟩
abbrev cX5_ofVan : ByteArray := prog_7_method_36_code
def yX5_ofVan : MethodName := ⟨RX5, "ofVan", "(II)I"⟩
abbrev cX5_stock : ByteArray := prog_7_method_37_code
def yX5_stock : MethodName := ⟨RX5, "stock", "(III)I"⟩
abbrev cX5_nextVisit : ByteArray := prog_7_method_38_code
def yX5_nextVisit : MethodName := ⟨RX5, "nextVisit", "(II)I"⟩
abbrev cX5_tells : ByteArray := prog_7_method_39_code
def yX5_tells : MethodName := ⟨RX5, "tells", "(IIIII)I"⟩
abbrev cX5_event : ByteArray := prog_7_method_40_code
def yX5_event : MethodName := ⟨RX5, "event", "(III)I"⟩
abbrev cX5_overVans : ByteArray := prog_7_method_41_code
def yX5_overVans : MethodName := ⟨RX5, "overVans", "(I)I"⟩
abbrev cX5_count : ByteArray := prog_7_method_42_code
def yX5_count : MethodName := ⟨RX5, "count", "(I)I"⟩
abbrev cX5_wanted : ByteArray := prog_7_method_43_code
def yX5_wanted : MethodName := ⟨RX5, "wanted", "(I)I"⟩
abbrev cX5_share : ByteArray := prog_7_method_44_code
def yX5_share : MethodName := ⟨RX5, "share", "()I"⟩
abbrev cX5_meanWay : ByteArray := prog_7_method_45_code
def yX5_meanWay : MethodName := ⟨RX5, "meanWay", "(I)J"⟩
abbrev cX5_would : ByteArray := prog_7_method_46_code
def yX5_would : MethodName := ⟨RX5, "would", "(IIIIII)I"⟩
abbrev cX5_withVan : ByteArray := prog_7_method_47_code
def yX5_withVan : MethodName := ⟨RX5, "withVan", "(II)I"⟩
abbrev cX5_brokenAt : ByteArray := prog_7_method_48_code
def yX5_brokenAt : MethodName := ⟨RX5, "brokenAt", "(I)I"⟩
abbrev cX5_slowest : ByteArray := prog_7_method_49_code
def yX5_slowest : MethodName := ⟨RX5, "slowest", "()I"⟩
abbrev cX5_put : ByteArray := prog_7_method_50_code
def yX5_put : MethodName := ⟨RX5, "put", "(J)I"⟩
abbrev cX5_wipe : ByteArray := prog_7_method_51_code
def yX5_wipe : MethodName := ⟨RX5, "wipe", "()I"⟩
abbrev cX5_sign : ByteArray := prog_7_method_52_code
def yX5_sign : MethodName := ⟨RX5, "sign", "()I"⟩
abbrev cX5_wants : ByteArray := prog_7_method_53_code
def yX5_wants : MethodName := ⟨RX5, "wants", "(I)V"⟩
abbrev cX5_digit : ByteArray := prog_7_method_54_code
def yX5_digit : MethodName := ⟨RX5, "digit", "(I)I"⟩
abbrev cX5_number : ByteArray := prog_7_method_55_code
def yX5_number : MethodName := ⟨RX5, "number", "()I"⟩
abbrev cX5_readsVisit : ByteArray := prog_7_method_56_code
def yX5_readsVisit : MethodName := ⟨RX5, "readsVisit", "(I)V"⟩
abbrev cX5_readsVan : ByteArray := prog_7_method_57_code
def yX5_readsVan : MethodName := ⟨RX5, "readsVan", "(I)V"⟩
abbrev cX5_readsOrder : ByteArray := prog_7_method_58_code
def yX5_readsOrder : MethodName := ⟨RX5, "readsOrder", "()V"⟩
abbrev cX5_reads : ByteArray := prog_7_method_59_code
def yX5_reads : MethodName := ⟨RX5, "reads", "()I"⟩
abbrev cX5_fault : ByteArray := prog_7_method_60_code
def yX5_fault : MethodName := ⟨RX5, "fault", "()I"⟩
abbrev cX5_refusesOrder : ByteArray := prog_7_method_61_code
def yX5_refusesOrder : MethodName := ⟨RX5, "refusesOrder", "(I)I"⟩
abbrev cX5_does : ByteArray := prog_7_method_62_code
def yX5_does : MethodName := ⟨RX5, "does", "(I)V"⟩
abbrev cX5_carryOut : ByteArray := prog_7_method_63_code
def yX5_carryOut : MethodName := ⟨RX5, "carryOut", "()I"⟩
abbrev cX5_undo : ByteArray := prog_7_method_64_code
def yX5_undo : MethodName := ⟨RX5, "undo", "()I"⟩
abbrev cX5_save : ByteArray := prog_7_method_65_code
def yX5_save : MethodName := ⟨RX5, "save", "(I)I"⟩
abbrev cX5_restore : ByteArray := prog_7_method_66_code
def yX5_restore : MethodName := ⟨RX5, "restore", "(I)I"⟩
def RJx8e188 : String := "java/lang/Cloneable"
def TJx8e188 : u_T := fun k => match k with
  | _ => ("", "", "", false)
def tyJx8e188 : Nat → FieldType := fun k => match k with
  | _ => .int
abbrev wsJx8e1880 : List Cond := u_ws RJx8e188 TJx8e188 0
theorem nmJx8e188 : ∀ a, a < 0 → ∀ b, b < 0 → a ≠ b → (TJx8e188 a).2.1 ≠ (TJx8e188 b).2.1 := by decide +kernel
theorem tyJx8e188_ok : ∀ k, k < 0 → parseFieldDescriptor (TJx8e188 k).2.2.1 = some (tyJx8e188 k) := by decide +kernel
def RJxe99ae : String := "java/lang/Double"
def TJxe99ae : u_T := fun k => match k with
  | _ => ("", "", "", false)
def tyJxe99ae : Nat → FieldType := fun k => match k with
  | _ => .int
abbrev wsJxe99ae0 : List Cond := u_ws RJxe99ae TJxe99ae 0
theorem nmJxe99ae : ∀ a, a < 0 → ∀ b, b < 0 → a ≠ b → (TJxe99ae a).2.1 ≠ (TJxe99ae b).2.1 := by decide +kernel
theorem tyJxe99ae_ok : ∀ k, k < 0 → parseFieldDescriptor (TJxe99ae k).2.2.1 = some (tyJxe99ae k) := by decide +kernel
abbrev cJxe99ae_isNaN_b9ae7 : ByteArray := prog_9_method_6_code
def yJxe99ae_isNaN_b9ae7 : MethodName := ⟨RJxe99ae, "isNaN", "(D)Z"⟩
abbrev cJxe99ae_doubleToLongBits_ccdee : ByteArray := prog_9_method_23_code
def yJxe99ae_doubleToLongBits_ccdee : MethodName := ⟨RJxe99ae, "doubleToLongBits", "(D)J"⟩
def RJxf58ca : String := "java/lang/Float"
def TJxf58ca : u_T := fun k => match k with
  | _ => ("", "", "", false)
def tyJxf58ca : Nat → FieldType := fun k => match k with
  | _ => .int
abbrev wsJxf58ca0 : List Cond := u_ws RJxf58ca TJxf58ca 0
theorem nmJxf58ca : ∀ a, a < 0 → ∀ b, b < 0 → a ≠ b → (TJxf58ca a).2.1 ≠ (TJxf58ca b).2.1 := by decide +kernel
theorem tyJxf58ca_ok : ∀ k, k < 0 → parseFieldDescriptor (TJxf58ca k).2.2.1 = some (tyJxf58ca k) := by decide +kernel
abbrev cJxf58ca_isNaN_12338 : ByteArray := prog_10_method_6_code
def yJxf58ca_isNaN_12338 : MethodName := ⟨RJxf58ca, "isNaN", "(F)Z"⟩
abbrev cJxf58ca_floatToIntBits_5c35a : ByteArray := prog_10_method_24_code
def yJxf58ca_floatToIntBits_5c35a : MethodName := ⟨RJxf58ca, "floatToIntBits", "(F)I"⟩
def RJ9 : String := "java/lang/Math"
def TJ9 : u_T := fun k => match k with
  | _ => ("", "", "", false)
def tyJ9 : Nat → FieldType := fun k => match k with
  | _ => .int
abbrev wsJ90 : List Cond := u_ws RJ9 TJ9 0
theorem nmJ9 : ∀ a, a < 0 → ∀ b, b < 0 → a ≠ b → (TJ9 a).2.1 ≠ (TJ9 b).2.1 := by decide +kernel
theorem tyJ9_ok : ∀ k, k < 0 → parseFieldDescriptor (TJ9 k).2.2.1 = some (tyJ9 k) := by decide +kernel
abbrev cJ9_abs_0f7a4 : ByteArray := prog_11_method_59_code
def yJ9_abs_0f7a4 : MethodName := ⟨RJ9, "abs", "(I)I"⟩
abbrev cJ9_max_7cf53 : ByteArray := prog_11_method_65_code
def yJ9_max_7cf53 : MethodName := ⟨RJ9, "max", "(II)I"⟩
def RJ0 : String := "java/lang/String"
def TJ0 : u_T := fun k => match k with
  | _ => ("", "", "", false)
def tyJ0 : Nat → FieldType := fun k => match k with
  | _ => .int
abbrev wsJ00 : List Cond := u_ws RJ0 TJ0 0
theorem nmJ0 : ∀ a, a < 0 → ∀ b, b < 0 → a ≠ b → (TJ0 a).2.1 ≠ (TJ0 b).2.1 := by decide +kernel
theorem tyJ0_ok : ∀ k, k < 0 → parseFieldDescriptor (TJ0 k).2.2.1 = some (tyJ0 k) := by decide +kernel
abbrev cJ0_length_8abf5 : ByteArray := prog_12_method_54_code
def yJ0_length_8abf5 : MethodName := ⟨RJ0, "length", "()I"⟩
abbrev cJ0_isEmpty_aae02 : ByteArray := prog_12_method_55_code
def yJ0_isEmpty_aae02 : MethodName := ⟨RJ0, "isEmpty", "()Z"⟩
abbrev cJ0_charAt_5068e : ByteArray := prog_12_method_56_code
def yJ0_charAt_5068e : MethodName := ⟨RJ0, "charAt", "(I)C"⟩
abbrev cJ0_coder_7d493 : ByteArray := prog_12_method_152_code
def yJ0_coder_7d493 : MethodName := ⟨RJ0, "coder", "()B"⟩
abbrev cJ0_isLatin1_aae02 : ByteArray := prog_12_method_154_code
def yJ0_isLatin1_aae02 : MethodName := ⟨RJ0, "isLatin1", "()Z"⟩
abbrev cJ0_checkIndex_df160 : ByteArray := prog_12_method_155_code
def yJ0_checkIndex_df160 : MethodName := ⟨RJ0, "checkIndex", "(II)V"⟩
def RJ1 : String := "java/lang/StringLatin1"
def TJ1 : u_T := fun k => match k with
  | _ => ("", "", "", false)
def tyJ1 : Nat → FieldType := fun k => match k with
  | _ => .int
abbrev wsJ10 : List Cond := u_ws RJ1 TJ1 0
theorem nmJ1 : ∀ a, a < 0 → ∀ b, b < 0 → a ≠ b → (TJ1 a).2.1 ≠ (TJ1 b).2.1 := by decide +kernel
theorem tyJ1_ok : ∀ k, k < 0 → parseFieldDescriptor (TJ1 k).2.2.1 = some (tyJ1 k) := by decide +kernel
abbrev cJ1_charAt_3b067 : ByteArray := prog_13_method_2_code
def yJ1_charAt_3b067 : MethodName := ⟨RJ1, "charAt", "([BI)C"⟩
def RJ2 : String := "java/lang/StringUTF16"
def TJ2 : u_T := fun k => match k with
  | _ => ("", "", "", false)
def tyJ2 : Nat → FieldType := fun k => match k with
  | _ => .int
abbrev wsJ20 : List Cond := u_ws RJ2 TJ2 0
theorem nmJ2 : ∀ a, a < 0 → ∀ b, b < 0 → a ≠ b → (TJ2 a).2.1 ≠ (TJ2 b).2.1 := by decide +kernel
theorem tyJ2_ok : ∀ k, k < 0 → parseFieldDescriptor (TJ2 k).2.2.1 = some (tyJ2 k) := by decide +kernel
abbrev cJ2_getChar_3b067 : ByteArray := prog_14_method_5_code
def yJ2_getChar_3b067 : MethodName := ⟨RJ2, "getChar", "([BI)C"⟩
abbrev cJ2_length_9d52b : ByteArray := prog_14_method_6_code
def yJ2_length_9d52b : MethodName := ⟨RJ2, "length", "([B)I"⟩
abbrev cJ2_charAt_3b067 : ByteArray := prog_14_method_83_code
def yJ2_charAt_3b067 : MethodName := ⟨RJ2, "charAt", "([BI)C"⟩
abbrev cJ2_checkIndex_2214a : ByteArray := prog_14_method_91_code
def yJ2_checkIndex_2214a : MethodName := ⟨RJ2, "checkIndex", "(I[B)V"⟩
def RJ10 : String := "java/lang/System"
def TJ10 : u_T := fun k => match k with
  | _ => ("", "", "", false)
def tyJ10 : Nat → FieldType := fun k => match k with
  | _ => .int
abbrev wsJ100 : List Cond := u_ws RJ10 TJ10 0
theorem nmJ10 : ∀ a, a < 0 → ∀ b, b < 0 → a ≠ b → (TJ10 a).2.1 ≠ (TJ10 b).2.1 := by decide +kernel
theorem tyJ10_ok : ∀ k, k < 0 → parseFieldDescriptor (TJ10 k).2.2.1 = some (tyJ10 k) := by decide +kernel
def RJ3 : String := "jdk/internal/util/Preconditions"
def TJ3 : u_T := fun k => match k with
  | _ => ("", "", "", false)
def tyJ3 : Nat → FieldType := fun k => match k with
  | _ => .int
abbrev wsJ30 : List Cond := u_ws RJ3 TJ3 0
theorem nmJ3 : ∀ a, a < 0 → ∀ b, b < 0 → a ≠ b → (TJ3 a).2.1 ≠ (TJ3 b).2.1 := by decide +kernel
theorem tyJ3_ok : ∀ k, k < 0 → parseFieldDescriptor (TJ3 k).2.2.1 = some (tyJ3 k) := by decide +kernel
abbrev cJ3_checkIndex_8e157 : ByteArray := prog_16_method_11_code
def yJ3_checkIndex_8e157 : MethodName := ⟨RJ3, "checkIndex", "(IILjava/util/function/BiFunction;)I"⟩
def RL : String := "VisitVansLaw"
abbrev cL_law : ByteArray := code
def yL_law : MethodName := ⟨RL, "law", "([I)Z"⟩
def wsX3_init : List Cond := .code yX3_init cX3_init 1 none :: ([.methodLink RX3 3 objectInit, .instanceMethod objectInit, .code objectInit ⟨#[0xb1]⟩ 1 none, .methodLink RX3 13 ⟨"[I", "clone", "()Ljava/lang/Object;"⟩, .sameMethod "[I" "java/lang/Object" "clone" "()Ljava/lang/Object;", .native ⟨"java/lang/Object", "clone", "()Ljava/lang/Object;"⟩, .instanceMethod ⟨"java/lang/Object", "clone", "()Ljava/lang/Object;"⟩, .selects "[I" ⟨"[I", "clone", "()Ljava/lang/Object;"⟩ ⟨"java/lang/Object", "clone", "()Ljava/lang/Object;"⟩, .classLink RX3 14 "[I", .fieldLink RX3 18 "VisitVans$Road" "settings" "[I", .arrayClass .int, .fieldLink RX3 23 "VisitVans$Road" "visits" "[I", .fieldLink RX3 26 "VisitVans$Road" "vans" "[I", .fieldLink RX3 29 "VisitVans$Road" "parts" "[I"] ++ wsX30)
def wsX0_init : List Cond := .code yX0_init cX0_init 2 none :: ([.methodLink RX0 3 objectInit, .instanceMethod objectInit, .code objectInit ⟨#[0xb1]⟩ 1 none, .classLink RX0 11 RX3, .fieldLink RX0 13 "VisitVans$History" "states" "[LVisitVans$Road;", .instantiable RX3 6, .initialized RX3, .instanceMethod yX3_init, .code yX3_init cX3_init 1 none, .methodLink RX3 3 objectInit, .methodLink RX3 13 ⟨"[I", "clone", "()Ljava/lang/Object;"⟩, .sameMethod "[I" "java/lang/Object" "clone" "()Ljava/lang/Object;", .native ⟨"java/lang/Object", "clone", "()Ljava/lang/Object;"⟩, .instanceMethod ⟨"java/lang/Object", "clone", "()Ljava/lang/Object;"⟩, .selects "[I" ⟨"[I", "clone", "()Ljava/lang/Object;"⟩ ⟨"java/lang/Object", "clone", "()Ljava/lang/Object;"⟩, .classLink RX3 14 "[I", .fieldLink RX3 18 "VisitVans$Road" "settings" "[I", .arrayClass .int, .fieldLink RX3 23 "VisitVans$Road" "visits" "[I", .fieldLink RX3 26 "VisitVans$Road" "vans" "[I", .fieldLink RX3 29 "VisitVans$Road" "parts" "[I"] ++ wsX00 ++ wsX30)
def wsX3_copyFrom : List Cond := .code yX3_copyFrom cX3_copyFrom 2 none :: ([.fieldLink RX3 18 "VisitVans$Road" "settings" "[I", .methodLink RX3 32 arraycopyName, .native arraycopyName, .static arraycopyName, .initialized "java/lang/System", .fieldLink RX3 23 "VisitVans$Road" "visits" "[I", .fieldLink RX3 26 "VisitVans$Road" "vans" "[I", .fieldLink RX3 29 "VisitVans$Road" "parts" "[I", .fieldLink RX3 38 "VisitVans$Road" "visitCount" "I", .fieldLink RX3 42 "VisitVans$Road" "vanCount" "I"] ++ wsX30)
def wsX0_note : List Cond := .code yX0_note cX0_note 2 none :: ([.fieldLink RX0 13 "VisitVans$History" "states" "[LVisitVans$Road;", .fieldLink RX0 18 "VisitVans$History" "oldest" "I", .fieldLink RX0 22 "VisitVans$History" "many" "I", .methodLink RX0 25 yX3_copyFrom, .instanceMethod yX3_copyFrom, .selects RX3 yX3_copyFrom yX3_copyFrom, .initialized RX3, .code yX3_copyFrom cX3_copyFrom 2 none, .fieldLink RX3 18 "VisitVans$Road" "settings" "[I", .methodLink RX3 32 arraycopyName, .native arraycopyName, .static arraycopyName, .initialized "java/lang/System", .fieldLink RX3 23 "VisitVans$Road" "visits" "[I", .fieldLink RX3 26 "VisitVans$Road" "vans" "[I", .fieldLink RX3 29 "VisitVans$Road" "parts" "[I", .fieldLink RX3 38 "VisitVans$Road" "visitCount" "I", .fieldLink RX3 42 "VisitVans$Road" "vanCount" "I"] ++ wsX00 ++ wsX30)
def wsX0_keep : List Cond := .code yX0_keep cX0_keep 1 none :: ([.fieldLink RX0 22 "VisitVans$History" "many" "I", .fieldLink RX0 18 "VisitVans$History" "oldest" "I"] ++ wsX00)
def wsX0_takeBack : List Cond := .code yX0_takeBack cX0_takeBack 2 none :: ([.fieldLink RX0 22 "VisitVans$History" "many" "I", .fieldLink RX0 13 "VisitVans$History" "states" "[LVisitVans$Road;", .fieldLink RX0 18 "VisitVans$History" "oldest" "I", .methodLink RX0 25 yX3_copyFrom, .instanceMethod yX3_copyFrom, .selects RX3 yX3_copyFrom yX3_copyFrom, .initialized RX3, .code yX3_copyFrom cX3_copyFrom 2 none, .fieldLink RX3 18 "VisitVans$Road" "settings" "[I", .methodLink RX3 32 arraycopyName, .native arraycopyName, .static arraycopyName, .initialized "java/lang/System", .fieldLink RX3 23 "VisitVans$Road" "visits" "[I", .fieldLink RX3 26 "VisitVans$Road" "vans" "[I", .fieldLink RX3 29 "VisitVans$Road" "parts" "[I", .fieldLink RX3 38 "VisitVans$Road" "visitCount" "I", .fieldLink RX3 42 "VisitVans$Road" "vanCount" "I"] ++ wsX00 ++ wsX30)
def wsX1_init : List Cond := .code yX1_init cX1_init 1 none :: ([.methodLink RX1 3 objectInit, .instanceMethod objectInit, .code objectInit ⟨#[0xb1]⟩ 1 none, .arrayClass .char, .fieldLink RX1 9 "VisitVans$Pad" "signs" "[C", .arrayClass .int, .fieldLink RX1 15 "VisitVans$Pad" "told" "[I"] ++ wsX10)
def wsX4_within : List Cond := .code yX4_within cX4_within 3 (some .boolean) :: ([])
def wsX1_append : List Cond := .code yX1_append cX1_append 6 (some .int) :: ([.constantLong RX1 19 (255), .fieldLink RX1 25 "VisitVans$Pad" "length" "I", .fieldLink RX1 9 "VisitVans$Pad" "signs" "[C", .static yX4_within, .initialized RX4, .code yX4_within cX4_within 3 (some .boolean)] ++ wsX10)
def wsX1_start : List Cond := .code yX1_start cX1_start 1 none :: ([.fieldLink RX1 29 "VisitVans$Pad" "at" "I"] ++ wsX10)
def wsX1_hasMore : List Cond := .code yX1_hasMore cX1_hasMore 1 (some .boolean) :: ([.fieldLink RX1 29 "VisitVans$Pad" "at" "I", .fieldLink RX1 25 "VisitVans$Pad" "length" "I"] ++ wsX10)
def wsX1_nextSign : List Cond := .code yX1_nextSign cX1_nextSign 1 (some .char) :: ([.fieldLink RX1 29 "VisitVans$Pad" "at" "I", .fieldLink RX1 25 "VisitVans$Pad" "length" "I", .fieldLink RX1 9 "VisitVans$Pad" "signs" "[C"] ++ wsX10)
def wsX1_readSign : List Cond := .code yX1_readSign cX1_readSign 2 (some .boolean) :: ([.fieldLink RX1 29 "VisitVans$Pad" "at" "I", .methodLink RX1 46 yX1_nextSign, .instanceMethod yX1_nextSign, .selects RX1 yX1_nextSign yX1_nextSign, .initialized RX1, .code yX1_nextSign cX1_nextSign 1 (some .char), .fieldLink RX1 25 "VisitVans$Pad" "length" "I", .fieldLink RX1 9 "VisitVans$Pad" "signs" "[C"] ++ wsX10)
def wsX1_formOf : List Cond := .code yX1_formOf cX1_formOf 1 (some (.object "java/lang/String")) :: ([])
def wsJ0_isEmpty_aae02 : List Cond := .code yJ0_isEmpty_aae02 cJ0_isEmpty_aae02 1 (some .boolean) :: ([.fieldLink RJ0 9 "java/lang/String" "value" "[B"])
def wsJ0_coder_7d493 : List Cond := .code yJ0_coder_7d493 cJ0_coder_7d493 1 (some .byte) :: ([.fieldLink RJ0 38 "java/lang/String" "COMPACT_STRINGS" "Z", .fieldLink RJ0 15 "java/lang/String" "coder" "B"])
def wsJ0_length_8abf5 : List Cond := .code yJ0_length_8abf5 cJ0_length_8abf5 1 (some .int) :: ([.fieldLink RJ0 9 "java/lang/String" "value" "[B", .methodLink RJ0 335 yJ0_coder_7d493, .instanceMethod yJ0_coder_7d493, .selects RJ0 yJ0_coder_7d493 yJ0_coder_7d493, .initialized RJ0, .code yJ0_coder_7d493 cJ0_coder_7d493 1 (some .byte), .fieldLink RJ0 38 "java/lang/String" "COMPACT_STRINGS" "Z", .fieldLink RJ0 15 "java/lang/String" "coder" "B"])
def wsJ0_isLatin1_aae02 : List Cond := .code yJ0_isLatin1_aae02 cJ0_isLatin1_aae02 1 (some .boolean) :: ([.fieldLink RJ0 38 "java/lang/String" "COMPACT_STRINGS" "Z", .fieldLink RJ0 15 "java/lang/String" "coder" "B"])
def wsJ3_checkIndex_8e157 : List Cond := .code yJ3_checkIndex_8e157 cJ3_checkIndex_8e157 3 (some .int) :: ([])
def wsJ0_checkIndex_df160 : List Cond := .code yJ0_checkIndex_df160 cJ0_checkIndex_df160 2 none :: ([.fieldLink RJ0 1053 "jdk/internal/util/Preconditions" "SIOOBE_FORMATTER" "Ljava/util/function/BiFunction;", .methodLink RJ0 1059 yJ3_checkIndex_8e157, .static yJ3_checkIndex_8e157, .initialized RJ3, .code yJ3_checkIndex_8e157 cJ3_checkIndex_8e157 3 (some .int)])
def wsJ1_charAt_3b067 : List Cond := .code yJ1_charAt_3b067 cJ1_charAt_3b067 2 (some .char) :: ([.methodLink RJ1 9 yJ0_checkIndex_df160, .static yJ0_checkIndex_df160, .initialized RJ0, .code yJ0_checkIndex_df160 cJ0_checkIndex_df160 2 none, .fieldLink RJ0 1053 "jdk/internal/util/Preconditions" "SIOOBE_FORMATTER" "Ljava/util/function/BiFunction;", .methodLink RJ0 1059 yJ3_checkIndex_8e157, .static yJ3_checkIndex_8e157, .initialized RJ3, .code yJ3_checkIndex_8e157 cJ3_checkIndex_8e157 3 (some .int)])
def wsJ2_length_9d52b : List Cond := .code yJ2_length_9d52b cJ2_length_9d52b 1 (some .int) :: ([])
def wsJ2_checkIndex_2214a : List Cond := .code yJ2_checkIndex_2214a cJ2_checkIndex_2214a 2 none :: ([.methodLink RJ2 48 yJ2_length_9d52b, .static yJ2_length_9d52b, .initialized RJ2, .code yJ2_length_9d52b cJ2_length_9d52b 1 (some .int), .methodLink RJ2 414 yJ0_checkIndex_df160, .static yJ0_checkIndex_df160, .initialized RJ0, .code yJ0_checkIndex_df160 cJ0_checkIndex_df160 2 none, .fieldLink RJ0 1053 "jdk/internal/util/Preconditions" "SIOOBE_FORMATTER" "Ljava/util/function/BiFunction;", .methodLink RJ0 1059 yJ3_checkIndex_8e157, .static yJ3_checkIndex_8e157, .initialized RJ3, .code yJ3_checkIndex_8e157 cJ3_checkIndex_8e157 3 (some .int)])
def wsJ2_getChar_3b067 : List Cond := .code yJ2_getChar_3b067 cJ2_getChar_3b067 2 (some .char) :: ([.fieldLink RJ2 44 "java/lang/StringUTF16" "$assertionsDisabled" "Z", .fieldLink RJ2 59 "java/lang/StringUTF16" "HI_BYTE_SHIFT" "I", .fieldLink RJ2 63 "java/lang/StringUTF16" "LO_BYTE_SHIFT" "I", .methodLink RJ2 48 yJ2_length_9d52b, .static yJ2_length_9d52b, .initialized RJ2, .code yJ2_length_9d52b cJ2_length_9d52b 1 (some .int)])
def wsJ2_charAt_3b067 : List Cond := .code yJ2_charAt_3b067 cJ2_charAt_3b067 2 (some .char) :: ([.methodLink RJ2 67 yJ2_checkIndex_2214a, .static yJ2_checkIndex_2214a, .initialized RJ2, .code yJ2_checkIndex_2214a cJ2_checkIndex_2214a 2 none, .methodLink RJ2 48 yJ2_length_9d52b, .static yJ2_length_9d52b, .code yJ2_length_9d52b cJ2_length_9d52b 1 (some .int), .methodLink RJ2 414 yJ0_checkIndex_df160, .static yJ0_checkIndex_df160, .initialized RJ0, .code yJ0_checkIndex_df160 cJ0_checkIndex_df160 2 none, .fieldLink RJ0 1053 "jdk/internal/util/Preconditions" "SIOOBE_FORMATTER" "Ljava/util/function/BiFunction;", .methodLink RJ0 1059 yJ3_checkIndex_8e157, .static yJ3_checkIndex_8e157, .initialized RJ3, .code yJ3_checkIndex_8e157 cJ3_checkIndex_8e157 3 (some .int), .methodLink RJ2 71 yJ2_getChar_3b067, .static yJ2_getChar_3b067, .code yJ2_getChar_3b067 cJ2_getChar_3b067 2 (some .char), .fieldLink RJ2 44 "java/lang/StringUTF16" "$assertionsDisabled" "Z", .fieldLink RJ2 59 "java/lang/StringUTF16" "HI_BYTE_SHIFT" "I", .fieldLink RJ2 63 "java/lang/StringUTF16" "LO_BYTE_SHIFT" "I"])
def wsJ0_charAt_5068e_r1 : List Cond := [Cond.fieldLink RJ0 9 "java/lang/String" "value" "[B", Cond.methodLink RJ0 492 yJ0_isLatin1_aae02, Cond.instanceMethod yJ0_isLatin1_aae02, Cond.selects RJ0 yJ0_isLatin1_aae02 yJ0_isLatin1_aae02, Cond.initialized RJ0, Cond.code yJ0_isLatin1_aae02 cJ0_isLatin1_aae02 1 (some .boolean), Cond.fieldLink RJ0 38 "java/lang/String" "COMPACT_STRINGS" "Z", Cond.fieldLink RJ0 15 "java/lang/String" "coder" "B", Cond.methodLink RJ0 495 yJ1_charAt_3b067, Cond.static yJ1_charAt_3b067, Cond.initialized RJ1, Cond.code yJ1_charAt_3b067 cJ1_charAt_3b067 2 (some .char), Cond.methodLink RJ1 9 yJ0_checkIndex_df160, Cond.static yJ0_checkIndex_df160, Cond.code yJ0_checkIndex_df160 cJ0_checkIndex_df160 2 none, Cond.fieldLink RJ0 1053 "jdk/internal/util/Preconditions" "SIOOBE_FORMATTER" "Ljava/util/function/BiFunction;", Cond.methodLink RJ0 1059 yJ3_checkIndex_8e157, Cond.static yJ3_checkIndex_8e157, Cond.initialized RJ3, Cond.code yJ3_checkIndex_8e157 cJ3_checkIndex_8e157 3 (some .int), Cond.methodLink RJ0 498 yJ2_charAt_3b067, Cond.static yJ2_charAt_3b067, Cond.initialized RJ2, Cond.code yJ2_charAt_3b067 cJ2_charAt_3b067 2 (some .char)]
def wsJ0_charAt_5068e_r2 : List Cond := [Cond.methodLink RJ2 67 yJ2_checkIndex_2214a, Cond.static yJ2_checkIndex_2214a, Cond.code yJ2_checkIndex_2214a cJ2_checkIndex_2214a 2 none, Cond.methodLink RJ2 48 yJ2_length_9d52b, Cond.static yJ2_length_9d52b, Cond.code yJ2_length_9d52b cJ2_length_9d52b 1 (some .int), Cond.methodLink RJ2 414 yJ0_checkIndex_df160, Cond.methodLink RJ2 71 yJ2_getChar_3b067, Cond.static yJ2_getChar_3b067, Cond.code yJ2_getChar_3b067 cJ2_getChar_3b067 2 (some .char), Cond.fieldLink RJ2 44 "java/lang/StringUTF16" "$assertionsDisabled" "Z", Cond.fieldLink RJ2 59 "java/lang/StringUTF16" "HI_BYTE_SHIFT" "I", Cond.fieldLink RJ2 63 "java/lang/StringUTF16" "LO_BYTE_SHIFT" "I"]
def wsJ0_charAt_5068e : List Cond := .code yJ0_charAt_5068e cJ0_charAt_5068e 2 (some .char) :: ((wsJ0_charAt_5068e_r1 ++ wsJ0_charAt_5068e_r2))
def wsX1_nextDigit : List Cond := .code yX1_nextDigit cX1_nextDigit 2 (some .int) :: ([.methodLink RX1 46 yX1_nextSign, .instanceMethod yX1_nextSign, .selects RX1 yX1_nextSign yX1_nextSign, .initialized RX1, .code yX1_nextSign cX1_nextSign 1 (some .char), .fieldLink RX1 29 "VisitVans$Pad" "at" "I", .fieldLink RX1 25 "VisitVans$Pad" "length" "I", .fieldLink RX1 9 "VisitVans$Pad" "signs" "[C", .static yX4_within, .initialized RX4, .code yX4_within cX4_within 3 (some .boolean)] ++ wsX10)
def wsX1_tell : List Cond := .code yX1_tell cX1_tell 2 none :: ([.fieldLink RX1 63 "VisitVans$Pad" "toldCount" "I", .fieldLink RX1 15 "VisitVans$Pad" "told" "[I"] ++ wsX10)
def wsX1_readNumber : List Cond := .code yX1_readNumber cX1_readNumber 3 (some .boolean) :: ([.fieldLink RX1 29 "VisitVans$Pad" "at" "I", .methodLink RX1 95 yX1_nextDigit, .instanceMethod yX1_nextDigit, .selects RX1 yX1_nextDigit yX1_nextDigit, .initialized RX1, .code yX1_nextDigit cX1_nextDigit 2 (some .int), .methodLink RX1 46 yX1_nextSign, .instanceMethod yX1_nextSign, .selects RX1 yX1_nextSign yX1_nextSign, .code yX1_nextSign cX1_nextSign 1 (some .char), .fieldLink RX1 25 "VisitVans$Pad" "length" "I", .fieldLink RX1 9 "VisitVans$Pad" "signs" "[C", .static yX4_within, .initialized RX4, .code yX4_within cX4_within 3 (some .boolean), .methodLink RX1 98 yX1_tell, .instanceMethod yX1_tell, .selects RX1 yX1_tell yX1_tell, .code yX1_tell cX1_tell 2 none, .fieldLink RX1 63 "VisitVans$Pad" "toldCount" "I", .fieldLink RX1 15 "VisitVans$Pad" "told" "[I"] ++ wsX10)
def wsX1_readDigit : List Cond := .code yX1_readDigit cX1_readDigit 2 (some .boolean) :: ([.fieldLink RX1 29 "VisitVans$Pad" "at" "I", .methodLink RX1 95 yX1_nextDigit, .instanceMethod yX1_nextDigit, .selects RX1 yX1_nextDigit yX1_nextDigit, .initialized RX1, .code yX1_nextDigit cX1_nextDigit 2 (some .int), .methodLink RX1 46 yX1_nextSign, .instanceMethod yX1_nextSign, .selects RX1 yX1_nextSign yX1_nextSign, .code yX1_nextSign cX1_nextSign 1 (some .char), .fieldLink RX1 25 "VisitVans$Pad" "length" "I", .fieldLink RX1 9 "VisitVans$Pad" "signs" "[C", .static yX4_within, .initialized RX4, .code yX4_within cX4_within 3 (some .boolean), .methodLink RX1 98 yX1_tell, .instanceMethod yX1_tell, .selects RX1 yX1_tell yX1_tell, .code yX1_tell cX1_tell 2 none, .fieldLink RX1 63 "VisitVans$Pad" "toldCount" "I", .fieldLink RX1 15 "VisitVans$Pad" "told" "[I"] ++ wsX10)
def wsX1_readSkills : List Cond := .code yX1_readSkills cX1_readSkills 3 (some .boolean) :: ([.fieldLink RX1 29 "VisitVans$Pad" "at" "I", .methodLink RX1 95 yX1_nextDigit, .instanceMethod yX1_nextDigit, .selects RX1 yX1_nextDigit yX1_nextDigit, .initialized RX1, .code yX1_nextDigit cX1_nextDigit 2 (some .int), .methodLink RX1 46 yX1_nextSign, .instanceMethod yX1_nextSign, .selects RX1 yX1_nextSign yX1_nextSign, .code yX1_nextSign cX1_nextSign 1 (some .char), .fieldLink RX1 25 "VisitVans$Pad" "length" "I", .fieldLink RX1 9 "VisitVans$Pad" "signs" "[C", .static yX4_within, .initialized RX4, .code yX4_within cX4_within 3 (some .boolean), .methodLink RX1 98 yX1_tell, .instanceMethod yX1_tell, .selects RX1 yX1_tell yX1_tell, .code yX1_tell cX1_tell 2 none, .fieldLink RX1 63 "VisitVans$Pad" "toldCount" "I", .fieldLink RX1 15 "VisitVans$Pad" "told" "[I"] ++ wsX10)
def wsX1_readPiece_r1 : List Cond := [Cond.methodLink RX1 86 yX1_readNumber, Cond.instanceMethod yX1_readNumber, Cond.selects RX1 yX1_readNumber yX1_readNumber, Cond.initialized RX1, Cond.code yX1_readNumber cX1_readNumber 3 (some .boolean), Cond.fieldLink RX1 29 "VisitVans$Pad" "at" "I", Cond.methodLink RX1 95 yX1_nextDigit, Cond.instanceMethod yX1_nextDigit, Cond.selects RX1 yX1_nextDigit yX1_nextDigit, Cond.code yX1_nextDigit cX1_nextDigit 2 (some .int), Cond.methodLink RX1 46 yX1_nextSign, Cond.instanceMethod yX1_nextSign, Cond.selects RX1 yX1_nextSign yX1_nextSign, Cond.code yX1_nextSign cX1_nextSign 1 (some .char), Cond.fieldLink RX1 25 "VisitVans$Pad" "length" "I", Cond.fieldLink RX1 9 "VisitVans$Pad" "signs" "[C", Cond.static yX4_within, Cond.initialized RX4, Cond.code yX4_within cX4_within 3 (some .boolean), Cond.methodLink RX1 98 yX1_tell, Cond.instanceMethod yX1_tell, Cond.selects RX1 yX1_tell yX1_tell, Cond.code yX1_tell cX1_tell 2 none, Cond.fieldLink RX1 63 "VisitVans$Pad" "toldCount" "I"]
def wsX1_readPiece_r2 : List Cond := [Cond.fieldLink RX1 15 "VisitVans$Pad" "told" "[I", Cond.methodLink RX1 89 yX1_readDigit, Cond.instanceMethod yX1_readDigit, Cond.selects RX1 yX1_readDigit yX1_readDigit, Cond.code yX1_readDigit cX1_readDigit 2 (some .boolean), Cond.methodLink RX1 92 yX1_readSkills, Cond.instanceMethod yX1_readSkills, Cond.selects RX1 yX1_readSkills yX1_readSkills, Cond.code yX1_readSkills cX1_readSkills 3 (some .boolean), Cond.methodLink RX1 42 yX1_readSign, Cond.instanceMethod yX1_readSign, Cond.selects RX1 yX1_readSign yX1_readSign, Cond.code yX1_readSign cX1_readSign 2 (some .boolean)]
def wsX1_readPiece : List Cond := .code yX1_readPiece cX1_readPiece 2 (some .boolean) :: ((wsX1_readPiece_r1 ++ wsX1_readPiece_r2) ++ wsX10)
def wsX1_readOrder_r1 : List Cond := [Cond.fieldLink RX1 29 "VisitVans$Pad" "at" "I", Cond.fieldLink RX1 50 "VisitVans$Pad" "kind" "C", Cond.fieldLink RX1 63 "VisitVans$Pad" "toldCount" "I", Cond.methodLink RX1 42 yX1_readSign, Cond.instanceMethod yX1_readSign, Cond.selects RX1 yX1_readSign yX1_readSign, Cond.initialized RX1, Cond.code yX1_readSign cX1_readSign 2 (some .boolean), Cond.methodLink RX1 46 yX1_nextSign, Cond.instanceMethod yX1_nextSign, Cond.selects RX1 yX1_nextSign yX1_nextSign, Cond.code yX1_nextSign cX1_nextSign 1 (some .char), Cond.fieldLink RX1 25 "VisitVans$Pad" "length" "I", Cond.fieldLink RX1 9 "VisitVans$Pad" "signs" "[C", Cond.methodLink RX1 54 yX1_formOf, Cond.static yX1_formOf, Cond.code yX1_formOf cX1_formOf 1 (some (.object "java/lang/String")), Cond.methodLink RX1 58 yJ0_isEmpty_aae02, Cond.instanceMethod yJ0_isEmpty_aae02, Cond.selects RJ0 yJ0_isEmpty_aae02 yJ0_isEmpty_aae02, Cond.initialized RJ0, Cond.code yJ0_isEmpty_aae02 cJ0_isEmpty_aae02 1 (some .boolean), Cond.fieldLink RJ0 9 "java/lang/String" "value" "[B", Cond.methodLink RX1 66 yJ0_length_8abf5]
def wsX1_readOrder_r2 : List Cond := [Cond.instanceMethod yJ0_length_8abf5, Cond.selects RJ0 yJ0_length_8abf5 yJ0_length_8abf5, Cond.code yJ0_length_8abf5 cJ0_length_8abf5 1 (some .int), Cond.methodLink RJ0 335 yJ0_coder_7d493, Cond.instanceMethod yJ0_coder_7d493, Cond.selects RJ0 yJ0_coder_7d493 yJ0_coder_7d493, Cond.code yJ0_coder_7d493 cJ0_coder_7d493 1 (some .byte), Cond.fieldLink RJ0 38 "java/lang/String" "COMPACT_STRINGS" "Z", Cond.fieldLink RJ0 15 "java/lang/String" "coder" "B", Cond.methodLink RX1 69 yJ0_charAt_5068e, Cond.instanceMethod yJ0_charAt_5068e, Cond.selects RJ0 yJ0_charAt_5068e yJ0_charAt_5068e, Cond.code yJ0_charAt_5068e cJ0_charAt_5068e 2 (some .char), Cond.methodLink RJ0 492 yJ0_isLatin1_aae02, Cond.instanceMethod yJ0_isLatin1_aae02, Cond.selects RJ0 yJ0_isLatin1_aae02 yJ0_isLatin1_aae02, Cond.code yJ0_isLatin1_aae02 cJ0_isLatin1_aae02 1 (some .boolean), Cond.methodLink RJ0 495 yJ1_charAt_3b067, Cond.static yJ1_charAt_3b067, Cond.initialized RJ1, Cond.code yJ1_charAt_3b067 cJ1_charAt_3b067 2 (some .char), Cond.methodLink RJ1 9 yJ0_checkIndex_df160, Cond.static yJ0_checkIndex_df160, Cond.code yJ0_checkIndex_df160 cJ0_checkIndex_df160 2 none]
def wsX1_readOrder_r3 : List Cond := [Cond.fieldLink RJ0 1053 "jdk/internal/util/Preconditions" "SIOOBE_FORMATTER" "Ljava/util/function/BiFunction;", Cond.methodLink RJ0 1059 yJ3_checkIndex_8e157, Cond.static yJ3_checkIndex_8e157, Cond.initialized RJ3, Cond.code yJ3_checkIndex_8e157 cJ3_checkIndex_8e157 3 (some .int), Cond.methodLink RJ0 498 yJ2_charAt_3b067, Cond.static yJ2_charAt_3b067, Cond.initialized RJ2, Cond.code yJ2_charAt_3b067 cJ2_charAt_3b067 2 (some .char), Cond.methodLink RJ2 67 yJ2_checkIndex_2214a, Cond.static yJ2_checkIndex_2214a, Cond.code yJ2_checkIndex_2214a cJ2_checkIndex_2214a 2 none, Cond.methodLink RJ2 48 yJ2_length_9d52b, Cond.static yJ2_length_9d52b, Cond.code yJ2_length_9d52b cJ2_length_9d52b 1 (some .int), Cond.methodLink RJ2 414 yJ0_checkIndex_df160, Cond.methodLink RJ2 71 yJ2_getChar_3b067, Cond.static yJ2_getChar_3b067, Cond.code yJ2_getChar_3b067 cJ2_getChar_3b067 2 (some .char), Cond.fieldLink RJ2 44 "java/lang/StringUTF16" "$assertionsDisabled" "Z", Cond.fieldLink RJ2 59 "java/lang/StringUTF16" "HI_BYTE_SHIFT" "I", Cond.fieldLink RJ2 63 "java/lang/StringUTF16" "LO_BYTE_SHIFT" "I", Cond.methodLink RX1 73 yX1_readPiece, Cond.instanceMethod yX1_readPiece]
def wsX1_readOrder_r4 : List Cond := [Cond.selects RX1 yX1_readPiece yX1_readPiece, Cond.code yX1_readPiece cX1_readPiece 2 (some .boolean), Cond.methodLink RX1 86 yX1_readNumber, Cond.instanceMethod yX1_readNumber, Cond.selects RX1 yX1_readNumber yX1_readNumber, Cond.code yX1_readNumber cX1_readNumber 3 (some .boolean), Cond.methodLink RX1 95 yX1_nextDigit, Cond.instanceMethod yX1_nextDigit, Cond.selects RX1 yX1_nextDigit yX1_nextDigit, Cond.code yX1_nextDigit cX1_nextDigit 2 (some .int), Cond.static yX4_within, Cond.initialized RX4, Cond.code yX4_within cX4_within 3 (some .boolean), Cond.methodLink RX1 98 yX1_tell, Cond.instanceMethod yX1_tell, Cond.selects RX1 yX1_tell yX1_tell, Cond.code yX1_tell cX1_tell 2 none, Cond.fieldLink RX1 15 "VisitVans$Pad" "told" "[I", Cond.methodLink RX1 89 yX1_readDigit, Cond.instanceMethod yX1_readDigit, Cond.selects RX1 yX1_readDigit yX1_readDigit, Cond.code yX1_readDigit cX1_readDigit 2 (some .boolean), Cond.methodLink RX1 92 yX1_readSkills, Cond.instanceMethod yX1_readSkills]
def wsX1_readOrder_r5 : List Cond := [Cond.selects RX1 yX1_readSkills yX1_readSkills, Cond.code yX1_readSkills cX1_readSkills 3 (some .boolean)]
def wsX1_readOrder : List Cond := .code yX1_readOrder cX1_readOrder 4 (some .boolean) :: ((wsX1_readOrder_r1 ++ (wsX1_readOrder_r2 ++ (wsX1_readOrder_r3 ++ (wsX1_readOrder_r4 ++ wsX1_readOrder_r5)))) ++ wsX10)
def wsX1_firstFault_r1 : List Cond := [Cond.fieldLink RX1 29 "VisitVans$Pad" "at" "I", Cond.methodLink RX1 32 yX1_start, Cond.instanceMethod yX1_start, Cond.selects RX1 yX1_start yX1_start, Cond.initialized RX1, Cond.code yX1_start cX1_start 1 none, Cond.methodLink RX1 35 yX1_readOrder, Cond.instanceMethod yX1_readOrder, Cond.selects RX1 yX1_readOrder yX1_readOrder, Cond.code yX1_readOrder cX1_readOrder 4 (some .boolean), Cond.fieldLink RX1 50 "VisitVans$Pad" "kind" "C", Cond.fieldLink RX1 63 "VisitVans$Pad" "toldCount" "I", Cond.methodLink RX1 42 yX1_readSign, Cond.instanceMethod yX1_readSign, Cond.selects RX1 yX1_readSign yX1_readSign, Cond.code yX1_readSign cX1_readSign 2 (some .boolean), Cond.methodLink RX1 46 yX1_nextSign, Cond.instanceMethod yX1_nextSign, Cond.selects RX1 yX1_nextSign yX1_nextSign, Cond.code yX1_nextSign cX1_nextSign 1 (some .char), Cond.fieldLink RX1 25 "VisitVans$Pad" "length" "I", Cond.fieldLink RX1 9 "VisitVans$Pad" "signs" "[C", Cond.methodLink RX1 54 yX1_formOf, Cond.static yX1_formOf]
def wsX1_firstFault_r2 : List Cond := [Cond.code yX1_formOf cX1_formOf 1 (some (.object "java/lang/String")), Cond.methodLink RX1 58 yJ0_isEmpty_aae02, Cond.instanceMethod yJ0_isEmpty_aae02, Cond.selects RJ0 yJ0_isEmpty_aae02 yJ0_isEmpty_aae02, Cond.initialized RJ0, Cond.code yJ0_isEmpty_aae02 cJ0_isEmpty_aae02 1 (some .boolean), Cond.fieldLink RJ0 9 "java/lang/String" "value" "[B", Cond.methodLink RX1 66 yJ0_length_8abf5, Cond.instanceMethod yJ0_length_8abf5, Cond.selects RJ0 yJ0_length_8abf5 yJ0_length_8abf5, Cond.code yJ0_length_8abf5 cJ0_length_8abf5 1 (some .int), Cond.methodLink RJ0 335 yJ0_coder_7d493, Cond.instanceMethod yJ0_coder_7d493, Cond.selects RJ0 yJ0_coder_7d493 yJ0_coder_7d493, Cond.code yJ0_coder_7d493 cJ0_coder_7d493 1 (some .byte), Cond.fieldLink RJ0 38 "java/lang/String" "COMPACT_STRINGS" "Z", Cond.fieldLink RJ0 15 "java/lang/String" "coder" "B", Cond.methodLink RX1 69 yJ0_charAt_5068e, Cond.instanceMethod yJ0_charAt_5068e, Cond.selects RJ0 yJ0_charAt_5068e yJ0_charAt_5068e, Cond.code yJ0_charAt_5068e cJ0_charAt_5068e 2 (some .char), Cond.methodLink RJ0 492 yJ0_isLatin1_aae02, Cond.instanceMethod yJ0_isLatin1_aae02, Cond.selects RJ0 yJ0_isLatin1_aae02 yJ0_isLatin1_aae02]
def wsX1_firstFault_r3 : List Cond := [Cond.code yJ0_isLatin1_aae02 cJ0_isLatin1_aae02 1 (some .boolean), Cond.methodLink RJ0 495 yJ1_charAt_3b067, Cond.static yJ1_charAt_3b067, Cond.initialized RJ1, Cond.code yJ1_charAt_3b067 cJ1_charAt_3b067 2 (some .char), Cond.methodLink RJ1 9 yJ0_checkIndex_df160, Cond.static yJ0_checkIndex_df160, Cond.code yJ0_checkIndex_df160 cJ0_checkIndex_df160 2 none, Cond.fieldLink RJ0 1053 "jdk/internal/util/Preconditions" "SIOOBE_FORMATTER" "Ljava/util/function/BiFunction;", Cond.methodLink RJ0 1059 yJ3_checkIndex_8e157, Cond.static yJ3_checkIndex_8e157, Cond.initialized RJ3, Cond.code yJ3_checkIndex_8e157 cJ3_checkIndex_8e157 3 (some .int), Cond.methodLink RJ0 498 yJ2_charAt_3b067, Cond.static yJ2_charAt_3b067, Cond.initialized RJ2, Cond.code yJ2_charAt_3b067 cJ2_charAt_3b067 2 (some .char), Cond.methodLink RJ2 67 yJ2_checkIndex_2214a, Cond.static yJ2_checkIndex_2214a, Cond.code yJ2_checkIndex_2214a cJ2_checkIndex_2214a 2 none, Cond.methodLink RJ2 48 yJ2_length_9d52b, Cond.static yJ2_length_9d52b, Cond.code yJ2_length_9d52b cJ2_length_9d52b 1 (some .int), Cond.methodLink RJ2 414 yJ0_checkIndex_df160]
def wsX1_firstFault_r4 : List Cond := [Cond.methodLink RJ2 71 yJ2_getChar_3b067, Cond.static yJ2_getChar_3b067, Cond.code yJ2_getChar_3b067 cJ2_getChar_3b067 2 (some .char), Cond.fieldLink RJ2 44 "java/lang/StringUTF16" "$assertionsDisabled" "Z", Cond.fieldLink RJ2 59 "java/lang/StringUTF16" "HI_BYTE_SHIFT" "I", Cond.fieldLink RJ2 63 "java/lang/StringUTF16" "LO_BYTE_SHIFT" "I", Cond.methodLink RX1 73 yX1_readPiece, Cond.instanceMethod yX1_readPiece, Cond.selects RX1 yX1_readPiece yX1_readPiece, Cond.code yX1_readPiece cX1_readPiece 2 (some .boolean), Cond.methodLink RX1 86 yX1_readNumber, Cond.instanceMethod yX1_readNumber, Cond.selects RX1 yX1_readNumber yX1_readNumber, Cond.code yX1_readNumber cX1_readNumber 3 (some .boolean), Cond.methodLink RX1 95 yX1_nextDigit, Cond.instanceMethod yX1_nextDigit, Cond.selects RX1 yX1_nextDigit yX1_nextDigit, Cond.code yX1_nextDigit cX1_nextDigit 2 (some .int), Cond.static yX4_within, Cond.initialized RX4, Cond.code yX4_within cX4_within 3 (some .boolean), Cond.methodLink RX1 98 yX1_tell, Cond.instanceMethod yX1_tell, Cond.selects RX1 yX1_tell yX1_tell]
def wsX1_firstFault_r5 : List Cond := [Cond.code yX1_tell cX1_tell 2 none, Cond.fieldLink RX1 15 "VisitVans$Pad" "told" "[I", Cond.methodLink RX1 89 yX1_readDigit, Cond.instanceMethod yX1_readDigit, Cond.selects RX1 yX1_readDigit yX1_readDigit, Cond.code yX1_readDigit cX1_readDigit 2 (some .boolean), Cond.methodLink RX1 92 yX1_readSkills, Cond.instanceMethod yX1_readSkills, Cond.selects RX1 yX1_readSkills yX1_readSkills, Cond.code yX1_readSkills cX1_readSkills 3 (some .boolean), Cond.methodLink RX1 39 yX1_hasMore, Cond.instanceMethod yX1_hasMore, Cond.selects RX1 yX1_hasMore yX1_hasMore, Cond.code yX1_hasMore cX1_hasMore 1 (some .boolean)]
def wsX1_firstFault : List Cond := .code yX1_firstFault cX1_firstFault 3 (some .int) :: ((wsX1_firstFault_r1 ++ (wsX1_firstFault_r2 ++ (wsX1_firstFault_r3 ++ (wsX1_firstFault_r4 ++ wsX1_firstFault_r5)))) ++ wsX10)
def wsX2_init : List Cond := .code yX2_init cX2_init 1 none :: ([.methodLink RX2 3 objectInit, .instanceMethod objectInit, .code objectInit ⟨#[0xb1]⟩ 1 none, .arrayClass .int, .fieldLink RX2 9 "VisitVans$Plan" "order" "[I", .fieldLink RX2 15 "VisitVans$Plan" "outcomes" "[I", .fieldLink RX2 18 "VisitVans$Plan" "drives" "[I", .fieldLink RX2 21 "VisitVans$Plan" "left" "[I", .fieldLink RX2 24 "VisitVans$Plan" "events" "[I"] ++ wsX20)
def wsX3_vanFact : List Cond := .code yX3_vanFact cX3_vanFact 3 (some .int) :: ([.fieldLink RX3 26 "VisitVans$Road" "vans" "[I"] ++ wsX30)
def wsX3_partsOf : List Cond := .code yX3_partsOf cX3_partsOf 3 (some .int) :: ([.fieldLink RX3 29 "VisitVans$Road" "parts" "[I"] ++ wsX30)
def wsX2_sendVansHome : List Cond := .code yX2_sendVansHome cX2_sendVansHome 5 none :: ([.fieldLink RX2 37 "VisitVans$Plan" "vanCount" "I", .fieldLink RX2 18 "VisitVans$Plan" "drives" "[I", .fieldLink RX2 21 "VisitVans$Plan" "left" "[I", .methodLink RX2 65 yX3_vanFact, .instanceMethod yX3_vanFact, .selects RX3 yX3_vanFact yX3_vanFact, .initialized RX3, .code yX3_vanFact cX3_vanFact 3 (some .int), .fieldLink RX3 26 "VisitVans$Road" "vans" "[I", .methodLink RX2 68 yX3_partsOf, .instanceMethod yX3_partsOf, .selects RX3 yX3_partsOf yX3_partsOf, .code yX3_partsOf cX3_partsOf 3 (some .int), .fieldLink RX3 29 "VisitVans$Road" "parts" "[I"] ++ wsX20 ++ wsX30)
def wsX3_visitFact : List Cond := .code yX3_visitFact cX3_visitFact 3 (some .int) :: ([.fieldLink RX3 23 "VisitVans$Road" "visits" "[I"] ++ wsX30)
def wsX2_orderByEnds : List Cond := .code yX2_orderByEnds cX2_orderByEnds 5 none :: ([.fieldLink RX2 33 "VisitVans$Plan" "visitCount" "I", .fieldLink RX2 9 "VisitVans$Plan" "order" "[I", .methodLink RX2 71 yX3_visitFact, .instanceMethod yX3_visitFact, .selects RX3 yX3_visitFact yX3_visitFact, .initialized RX3, .code yX3_visitFact cX3_visitFact 3 (some .int), .fieldLink RX3 23 "VisitVans$Road" "visits" "[I"] ++ wsX20 ++ wsX30)
def wsX2_hasSkill : List Cond := .code yX2_hasSkill cX2_hasSkill 4 (some .boolean) :: ([.methodLink RX2 65 yX3_vanFact, .instanceMethod yX3_vanFact, .selects RX3 yX3_vanFact yX3_vanFact, .initialized RX3, .code yX3_vanFact cX3_vanFact 3 (some .int), .fieldLink RX3 26 "VisitVans$Road" "vans" "[I", .methodLink RX2 71 yX3_visitFact, .instanceMethod yX3_visitFact, .selects RX3 yX3_visitFact yX3_visitFact, .code yX3_visitFact cX3_visitFact 3 (some .int), .fieldLink RX3 23 "VisitVans$Road" "visits" "[I"] ++ wsX30)
def wsX2_partsLeft : List Cond := .code yX2_partsLeft cX2_partsLeft 3 (some .int) :: ([.fieldLink RX2 21 "VisitVans$Plan" "left" "[I"] ++ wsX20)
def wsX2_hasParts : List Cond := .code yX2_hasParts cX2_hasParts 4 (some .boolean) :: ([.methodLink RX2 71 yX3_visitFact, .instanceMethod yX3_visitFact, .selects RX3 yX3_visitFact yX3_visitFact, .initialized RX3, .code yX3_visitFact cX3_visitFact 3 (some .int), .fieldLink RX3 23 "VisitVans$Road" "visits" "[I", .methodLink RX2 102 yX2_partsLeft, .instanceMethod yX2_partsLeft, .selects RX2 yX2_partsLeft yX2_partsLeft, .initialized RX2, .code yX2_partsLeft cX2_partsLeft 3 (some .int), .fieldLink RX2 21 "VisitVans$Plan" "left" "[I"] ++ wsX30 ++ wsX20)
def wsX2_driveFact : List Cond := .code yX2_driveFact cX2_driveFact 3 (some .int) :: ([.fieldLink RX2 18 "VisitVans$Plan" "drives" "[I"] ++ wsX20)
def wsX2_comes : List Cond := .code yX2_comes cX2_comes 5 (some .int) :: ([.methodLink RX2 105 Lib.Math.abs.name, .static Lib.Math.abs.name, .initialized "java/lang/Math", .code Lib.Math.abs.name Lib.Math.abs.code 1 (some .int), .fieldLink RX2 74 "VisitVans$Road" "settings" "[I", .methodLink RX2 71 yX3_visitFact, .instanceMethod yX3_visitFact, .selects RX3 yX3_visitFact yX3_visitFact, .initialized RX3, .code yX3_visitFact cX3_visitFact 3 (some .int), .fieldLink RX3 23 "VisitVans$Road" "visits" "[I", .methodLink RX2 57 yX2_driveFact, .instanceMethod yX2_driveFact, .selects RX2 yX2_driveFact yX2_driveFact, .initialized RX2, .code yX2_driveFact cX2_driveFact 3 (some .int), .fieldLink RX2 18 "VisitVans$Plan" "drives" "[I"] ++ wsX30 ++ wsX20)
def wsX2_firstToBegin_r1 : List Cond := [Cond.fieldLink RX2 37 "VisitVans$Plan" "vanCount" "I", Cond.methodLink RX2 60 Lib.Math.max.name, Cond.static Lib.Math.max.name, Cond.initialized "java/lang/Math", Cond.code Lib.Math.max.name Lib.Math.max.code 2 (some .int), Cond.methodLink RX2 71 yX3_visitFact, Cond.instanceMethod yX3_visitFact, Cond.selects RX3 yX3_visitFact yX3_visitFact, Cond.initialized RX3, Cond.code yX3_visitFact cX3_visitFact 3 (some .int), Cond.fieldLink RX3 23 "VisitVans$Road" "visits" "[I", Cond.methodLink RX2 95 yX2_hasSkill, Cond.instanceMethod yX2_hasSkill, Cond.selects RX2 yX2_hasSkill yX2_hasSkill, Cond.initialized RX2, Cond.code yX2_hasSkill cX2_hasSkill 4 (some .boolean), Cond.methodLink RX2 65 yX3_vanFact, Cond.instanceMethod yX3_vanFact, Cond.selects RX3 yX3_vanFact yX3_vanFact, Cond.code yX3_vanFact cX3_vanFact 3 (some .int), Cond.fieldLink RX3 26 "VisitVans$Road" "vans" "[I", Cond.methodLink RX2 99 yX2_hasParts, Cond.instanceMethod yX2_hasParts, Cond.selects RX2 yX2_hasParts yX2_hasParts]
def wsX2_firstToBegin_r2 : List Cond := [Cond.code yX2_hasParts cX2_hasParts 4 (some .boolean), Cond.methodLink RX2 102 yX2_partsLeft, Cond.instanceMethod yX2_partsLeft, Cond.selects RX2 yX2_partsLeft yX2_partsLeft, Cond.code yX2_partsLeft cX2_partsLeft 3 (some .int), Cond.fieldLink RX2 21 "VisitVans$Plan" "left" "[I", Cond.methodLink RX2 89 yX2_comes, Cond.instanceMethod yX2_comes, Cond.selects RX2 yX2_comes yX2_comes, Cond.code yX2_comes cX2_comes 5 (some .int), Cond.methodLink RX2 105 Lib.Math.abs.name, Cond.static Lib.Math.abs.name, Cond.code Lib.Math.abs.name Lib.Math.abs.code 1 (some .int), Cond.fieldLink RX2 74 "VisitVans$Road" "settings" "[I", Cond.methodLink RX2 57 yX2_driveFact, Cond.instanceMethod yX2_driveFact, Cond.selects RX2 yX2_driveFact yX2_driveFact, Cond.code yX2_driveFact cX2_driveFact 3 (some .int), Cond.fieldLink RX2 18 "VisitVans$Plan" "drives" "[I"]
def wsX2_firstToBegin : List Cond := .code yX2_firstToBegin cX2_firstToBegin 10 (some .int) :: ((wsX2_firstToBegin_r1 ++ wsX2_firstToBegin_r2) ++ wsX20 ++ wsX30)
def wsX2_reason_r1 : List Cond := [Cond.fieldLink RX2 37 "VisitVans$Plan" "vanCount" "I", Cond.methodLink RX2 95 yX2_hasSkill, Cond.instanceMethod yX2_hasSkill, Cond.selects RX2 yX2_hasSkill yX2_hasSkill, Cond.initialized RX2, Cond.code yX2_hasSkill cX2_hasSkill 4 (some .boolean), Cond.methodLink RX2 65 yX3_vanFact, Cond.instanceMethod yX3_vanFact, Cond.selects RX3 yX3_vanFact yX3_vanFact, Cond.initialized RX3, Cond.code yX3_vanFact cX3_vanFact 3 (some .int), Cond.fieldLink RX3 26 "VisitVans$Road" "vans" "[I", Cond.methodLink RX2 71 yX3_visitFact, Cond.instanceMethod yX3_visitFact, Cond.selects RX3 yX3_visitFact yX3_visitFact, Cond.code yX3_visitFact cX3_visitFact 3 (some .int), Cond.fieldLink RX3 23 "VisitVans$Road" "visits" "[I", Cond.methodLink RX2 99 yX2_hasParts, Cond.instanceMethod yX2_hasParts, Cond.selects RX2 yX2_hasParts yX2_hasParts, Cond.code yX2_hasParts cX2_hasParts 4 (some .boolean), Cond.methodLink RX2 102 yX2_partsLeft, Cond.instanceMethod yX2_partsLeft, Cond.selects RX2 yX2_partsLeft yX2_partsLeft]
def wsX2_reason_r2 : List Cond := [Cond.code yX2_partsLeft cX2_partsLeft 3 (some .int), Cond.fieldLink RX2 21 "VisitVans$Plan" "left" "[I"]
def wsX2_reason : List Cond := .code yX2_reason cX2_reason 5 (some .int) :: ((wsX2_reason_r1 ++ wsX2_reason_r2) ++ wsX20 ++ wsX30)
def wsX2_putOutcome : List Cond := .code yX2_putOutcome cX2_putOutcome 7 none :: ([.fieldLink RX2 15 "VisitVans$Plan" "outcomes" "[I"] ++ wsX20)
def wsX2_outcome : List Cond := .code yX2_outcome cX2_outcome 3 (some .int) :: ([.fieldLink RX2 15 "VisitVans$Plan" "outcomes" "[I"] ++ wsX20)
def wsX2_addEvent : List Cond := .code yX2_addEvent cX2_addEvent 8 none :: ([.fieldLink RX2 24 "VisitVans$Plan" "events" "[I", .fieldLink RX2 18 "VisitVans$Plan" "drives" "[I", .methodLink RX2 57 yX2_driveFact, .instanceMethod yX2_driveFact, .selects RX2 yX2_driveFact yX2_driveFact, .initialized RX2, .code yX2_driveFact cX2_driveFact 3 (some .int)] ++ wsX20)
def wsX2_drive_r1 : List Cond := [Cond.fieldLink RX2 18 "VisitVans$Plan" "drives" "[I", Cond.fieldLink RX2 21 "VisitVans$Plan" "left" "[I", Cond.methodLink RX2 89 yX2_comes, Cond.instanceMethod yX2_comes, Cond.selects RX2 yX2_comes yX2_comes, Cond.initialized RX2, Cond.code yX2_comes cX2_comes 5 (some .int), Cond.methodLink RX2 105 Lib.Math.abs.name, Cond.static Lib.Math.abs.name, Cond.initialized "java/lang/Math", Cond.code Lib.Math.abs.name Lib.Math.abs.code 1 (some .int), Cond.fieldLink RX2 74 "VisitVans$Road" "settings" "[I", Cond.methodLink RX2 71 yX3_visitFact, Cond.instanceMethod yX3_visitFact, Cond.selects RX3 yX3_visitFact yX3_visitFact, Cond.initialized RX3, Cond.code yX3_visitFact cX3_visitFact 3 (some .int), Cond.fieldLink RX3 23 "VisitVans$Road" "visits" "[I", Cond.methodLink RX2 57 yX2_driveFact, Cond.instanceMethod yX2_driveFact, Cond.selects RX2 yX2_driveFact yX2_driveFact, Cond.code yX2_driveFact cX2_driveFact 3 (some .int), Cond.methodLink RX2 49 yX2_outcome, Cond.instanceMethod yX2_outcome]
def wsX2_drive_r2 : List Cond := [Cond.selects RX2 yX2_outcome yX2_outcome, Cond.code yX2_outcome cX2_outcome 3 (some .int), Cond.fieldLink RX2 15 "VisitVans$Plan" "outcomes" "[I", Cond.methodLink RX2 108 yX2_addEvent, Cond.instanceMethod yX2_addEvent, Cond.selects RX2 yX2_addEvent yX2_addEvent, Cond.code yX2_addEvent cX2_addEvent 8 none, Cond.fieldLink RX2 24 "VisitVans$Plan" "events" "[I"]
def wsX2_drive : List Cond := .code yX2_drive cX2_drive 9 none :: ((wsX2_drive_r1 ++ wsX2_drive_r2) ++ wsX20 ++ wsX30)
def wsX2_look_r1 : List Cond := [Cond.fieldLink RX2 74 "VisitVans$Road" "settings" "[I", Cond.methodLink RX2 60 Lib.Math.max.name, Cond.static Lib.Math.max.name, Cond.initialized "java/lang/Math", Cond.code Lib.Math.max.name Lib.Math.max.code 2 (some .int), Cond.methodLink RX2 77 yX2_firstToBegin, Cond.instanceMethod yX2_firstToBegin, Cond.selects RX2 yX2_firstToBegin yX2_firstToBegin, Cond.initialized RX2, Cond.code yX2_firstToBegin cX2_firstToBegin 10 (some .int), Cond.fieldLink RX2 37 "VisitVans$Plan" "vanCount" "I", Cond.methodLink RX2 71 yX3_visitFact, Cond.instanceMethod yX3_visitFact, Cond.selects RX3 yX3_visitFact yX3_visitFact, Cond.initialized RX3, Cond.code yX3_visitFact cX3_visitFact 3 (some .int), Cond.fieldLink RX3 23 "VisitVans$Road" "visits" "[I", Cond.methodLink RX2 95 yX2_hasSkill, Cond.instanceMethod yX2_hasSkill, Cond.selects RX2 yX2_hasSkill yX2_hasSkill, Cond.code yX2_hasSkill cX2_hasSkill 4 (some .boolean), Cond.methodLink RX2 65 yX3_vanFact, Cond.instanceMethod yX3_vanFact, Cond.selects RX3 yX3_vanFact yX3_vanFact]
def wsX2_look_r2 : List Cond := [Cond.code yX3_vanFact cX3_vanFact 3 (some .int), Cond.fieldLink RX3 26 "VisitVans$Road" "vans" "[I", Cond.methodLink RX2 99 yX2_hasParts, Cond.instanceMethod yX2_hasParts, Cond.selects RX2 yX2_hasParts yX2_hasParts, Cond.code yX2_hasParts cX2_hasParts 4 (some .boolean), Cond.methodLink RX2 102 yX2_partsLeft, Cond.instanceMethod yX2_partsLeft, Cond.selects RX2 yX2_partsLeft yX2_partsLeft, Cond.code yX2_partsLeft cX2_partsLeft 3 (some .int), Cond.fieldLink RX2 21 "VisitVans$Plan" "left" "[I", Cond.methodLink RX2 89 yX2_comes, Cond.instanceMethod yX2_comes, Cond.selects RX2 yX2_comes yX2_comes, Cond.code yX2_comes cX2_comes 5 (some .int), Cond.methodLink RX2 105 Lib.Math.abs.name, Cond.static Lib.Math.abs.name, Cond.code Lib.Math.abs.name Lib.Math.abs.code 1 (some .int), Cond.methodLink RX2 57 yX2_driveFact, Cond.instanceMethod yX2_driveFact, Cond.selects RX2 yX2_driveFact yX2_driveFact, Cond.code yX2_driveFact cX2_driveFact 3 (some .int), Cond.fieldLink RX2 18 "VisitVans$Plan" "drives" "[I", Cond.methodLink RX2 81 yX2_reason]
def wsX2_look_r3 : List Cond := [Cond.instanceMethod yX2_reason, Cond.selects RX2 yX2_reason yX2_reason, Cond.code yX2_reason cX2_reason 5 (some .int), Cond.methodLink RX2 85 yX2_putOutcome, Cond.instanceMethod yX2_putOutcome, Cond.selects RX2 yX2_putOutcome yX2_putOutcome, Cond.code yX2_putOutcome cX2_putOutcome 7 none, Cond.fieldLink RX2 15 "VisitVans$Plan" "outcomes" "[I", Cond.methodLink RX2 92 yX2_drive, Cond.instanceMethod yX2_drive, Cond.selects RX2 yX2_drive yX2_drive, Cond.code yX2_drive cX2_drive 9 none, Cond.methodLink RX2 49 yX2_outcome, Cond.instanceMethod yX2_outcome, Cond.selects RX2 yX2_outcome yX2_outcome, Cond.code yX2_outcome cX2_outcome 3 (some .int), Cond.methodLink RX2 108 yX2_addEvent, Cond.instanceMethod yX2_addEvent, Cond.selects RX2 yX2_addEvent yX2_addEvent, Cond.code yX2_addEvent cX2_addEvent 8 none, Cond.fieldLink RX2 24 "VisitVans$Plan" "events" "[I"]
def wsX2_look : List Cond := .code yX2_look cX2_look 8 none :: ((wsX2_look_r1 ++ (wsX2_look_r2 ++ wsX2_look_r3)) ++ wsX30 ++ wsX20)
def wsX2_make_r1 : List Cond := [Cond.fieldLink RX2 27 "VisitVans$Road" "visitCount" "I", Cond.fieldLink RX2 33 "VisitVans$Plan" "visitCount" "I", Cond.fieldLink RX2 34 "VisitVans$Road" "vanCount" "I", Cond.fieldLink RX2 37 "VisitVans$Plan" "vanCount" "I", Cond.fieldLink RX2 9 "VisitVans$Plan" "order" "[I", Cond.methodLink RX2 38 yX2_sendVansHome, Cond.instanceMethod yX2_sendVansHome, Cond.selects RX2 yX2_sendVansHome yX2_sendVansHome, Cond.initialized RX2, Cond.code yX2_sendVansHome cX2_sendVansHome 5 none, Cond.fieldLink RX2 18 "VisitVans$Plan" "drives" "[I", Cond.fieldLink RX2 21 "VisitVans$Plan" "left" "[I", Cond.methodLink RX2 65 yX3_vanFact, Cond.instanceMethod yX3_vanFact, Cond.selects RX3 yX3_vanFact yX3_vanFact, Cond.initialized RX3, Cond.code yX3_vanFact cX3_vanFact 3 (some .int), Cond.fieldLink RX3 26 "VisitVans$Road" "vans" "[I", Cond.methodLink RX2 68 yX3_partsOf, Cond.instanceMethod yX3_partsOf, Cond.selects RX3 yX3_partsOf yX3_partsOf, Cond.code yX3_partsOf cX3_partsOf 3 (some .int), Cond.fieldLink RX3 29 "VisitVans$Road" "parts" "[I", Cond.methodLink RX2 42 yX2_orderByEnds]
def wsX2_make_r2 : List Cond := [Cond.instanceMethod yX2_orderByEnds, Cond.selects RX2 yX2_orderByEnds yX2_orderByEnds, Cond.code yX2_orderByEnds cX2_orderByEnds 5 none, Cond.methodLink RX2 71 yX3_visitFact, Cond.instanceMethod yX3_visitFact, Cond.selects RX3 yX3_visitFact yX3_visitFact, Cond.code yX3_visitFact cX3_visitFact 3 (some .int), Cond.fieldLink RX3 23 "VisitVans$Road" "visits" "[I", Cond.methodLink RX2 45 yX2_look, Cond.instanceMethod yX2_look, Cond.selects RX2 yX2_look yX2_look, Cond.code yX2_look cX2_look 8 none, Cond.fieldLink RX2 74 "VisitVans$Road" "settings" "[I", Cond.methodLink RX2 60 Lib.Math.max.name, Cond.static Lib.Math.max.name, Cond.initialized "java/lang/Math", Cond.code Lib.Math.max.name Lib.Math.max.code 2 (some .int), Cond.methodLink RX2 77 yX2_firstToBegin, Cond.instanceMethod yX2_firstToBegin, Cond.selects RX2 yX2_firstToBegin yX2_firstToBegin, Cond.code yX2_firstToBegin cX2_firstToBegin 10 (some .int), Cond.methodLink RX2 95 yX2_hasSkill, Cond.instanceMethod yX2_hasSkill, Cond.selects RX2 yX2_hasSkill yX2_hasSkill]
def wsX2_make_r3 : List Cond := [Cond.code yX2_hasSkill cX2_hasSkill 4 (some .boolean), Cond.methodLink RX2 99 yX2_hasParts, Cond.instanceMethod yX2_hasParts, Cond.selects RX2 yX2_hasParts yX2_hasParts, Cond.code yX2_hasParts cX2_hasParts 4 (some .boolean), Cond.methodLink RX2 102 yX2_partsLeft, Cond.instanceMethod yX2_partsLeft, Cond.selects RX2 yX2_partsLeft yX2_partsLeft, Cond.code yX2_partsLeft cX2_partsLeft 3 (some .int), Cond.methodLink RX2 89 yX2_comes, Cond.instanceMethod yX2_comes, Cond.selects RX2 yX2_comes yX2_comes, Cond.code yX2_comes cX2_comes 5 (some .int), Cond.methodLink RX2 105 Lib.Math.abs.name, Cond.static Lib.Math.abs.name, Cond.code Lib.Math.abs.name Lib.Math.abs.code 1 (some .int), Cond.methodLink RX2 57 yX2_driveFact, Cond.instanceMethod yX2_driveFact, Cond.selects RX2 yX2_driveFact yX2_driveFact, Cond.code yX2_driveFact cX2_driveFact 3 (some .int), Cond.methodLink RX2 81 yX2_reason, Cond.instanceMethod yX2_reason, Cond.selects RX2 yX2_reason yX2_reason, Cond.code yX2_reason cX2_reason 5 (some .int)]
def wsX2_make_r4 : List Cond := [Cond.methodLink RX2 85 yX2_putOutcome, Cond.instanceMethod yX2_putOutcome, Cond.selects RX2 yX2_putOutcome yX2_putOutcome, Cond.code yX2_putOutcome cX2_putOutcome 7 none, Cond.fieldLink RX2 15 "VisitVans$Plan" "outcomes" "[I", Cond.methodLink RX2 92 yX2_drive, Cond.instanceMethod yX2_drive, Cond.selects RX2 yX2_drive yX2_drive, Cond.code yX2_drive cX2_drive 9 none, Cond.methodLink RX2 49 yX2_outcome, Cond.instanceMethod yX2_outcome, Cond.selects RX2 yX2_outcome yX2_outcome, Cond.code yX2_outcome cX2_outcome 3 (some .int), Cond.methodLink RX2 108 yX2_addEvent, Cond.instanceMethod yX2_addEvent, Cond.selects RX2 yX2_addEvent yX2_addEvent, Cond.code yX2_addEvent cX2_addEvent 8 none, Cond.fieldLink RX2 24 "VisitVans$Plan" "events" "[I"]
def wsX2_make : List Cond := .code yX2_make cX2_make 3 none :: ((wsX2_make_r1 ++ (wsX2_make_r2 ++ (wsX2_make_r3 ++ wsX2_make_r4))) ++ wsX30 ++ wsX20)
def wsX2_eventFact : List Cond := .code yX2_eventFact cX2_eventFact 4 (some .int) :: ([.fieldLink RX2 24 "VisitVans$Plan" "events" "[I"] ++ wsX20)
def wsX2_promisesThatAre : List Cond := .code yX2_promisesThatAre cX2_promisesThatAre 4 (some .int) :: ([.fieldLink RX2 33 "VisitVans$Plan" "visitCount" "I", .methodLink RX2 49 yX2_outcome, .instanceMethod yX2_outcome, .selects RX2 yX2_outcome yX2_outcome, .initialized RX2, .code yX2_outcome cX2_outcome 3 (some .int), .fieldLink RX2 15 "VisitVans$Plan" "outcomes" "[I"] ++ wsX20)
def wsX2_visitsMade : List Cond := .code yX2_visitsMade cX2_visitsMade 1 (some .int) :: ([.methodLink RX2 53 yX2_promisesThatAre, .instanceMethod yX2_promisesThatAre, .selects RX2 yX2_promisesThatAre yX2_promisesThatAre, .initialized RX2, .code yX2_promisesThatAre cX2_promisesThatAre 4 (some .int), .fieldLink RX2 33 "VisitVans$Plan" "visitCount" "I", .methodLink RX2 49 yX2_outcome, .instanceMethod yX2_outcome, .selects RX2 yX2_outcome yX2_outcome, .code yX2_outcome cX2_outcome 3 (some .int), .fieldLink RX2 15 "VisitVans$Plan" "outcomes" "[I"] ++ wsX20)
def wsX2_sumOverVans : List Cond := .code yX2_sumOverVans cX2_sumOverVans 4 (some .int) :: ([.fieldLink RX2 37 "VisitVans$Plan" "vanCount" "I", .methodLink RX2 57 yX2_driveFact, .instanceMethod yX2_driveFact, .selects RX2 yX2_driveFact yX2_driveFact, .initialized RX2, .code yX2_driveFact cX2_driveFact 3 (some .int), .fieldLink RX2 18 "VisitVans$Plan" "drives" "[I"] ++ wsX20)
def wsX2_lastFree : List Cond := .code yX2_lastFree cX2_lastFree 3 (some .int) :: ([.fieldLink RX2 37 "VisitVans$Plan" "vanCount" "I", .methodLink RX2 60 Lib.Math.max.name, .static Lib.Math.max.name, .initialized "java/lang/Math", .code Lib.Math.max.name Lib.Math.max.code 2 (some .int), .methodLink RX2 57 yX2_driveFact, .instanceMethod yX2_driveFact, .selects RX2 yX2_driveFact yX2_driveFact, .initialized RX2, .code yX2_driveFact cX2_driveFact 3 (some .int), .fieldLink RX2 18 "VisitVans$Plan" "drives" "[I"] ++ wsX20)
def wsX3_hasVisit : List Cond := .code yX3_hasVisit cX3_hasVisit 2 (some .boolean) :: ([.fieldLink RX3 38 "VisitVans$Road" "visitCount" "I"] ++ wsX30)
def wsX3_hasVan : List Cond := .code yX3_hasVan cX3_hasVan 2 (some .boolean) :: ([.fieldLink RX3 42 "VisitVans$Road" "vanCount" "I"] ++ wsX30)
def wsX3_changeSetting : List Cond := .code yX3_changeSetting cX3_changeSetting 4 (some .int) :: ([.fieldLink RX3 18 "VisitVans$Road" "settings" "[I", .static yX4_within, .initialized RX4, .code yX4_within cX4_within 3 (some .boolean)] ++ wsX30)
def wsX4_isPart : List Cond := .code yX4_isPart cX4_isPart 1 (some .boolean) :: ([.methodLink RX4 81 yX4_within, .static yX4_within, .initialized RX4, .code yX4_within cX4_within 3 (some .boolean)])
def wsX4_visitError : List Cond := .code yX4_visitError cX4_visitError 6 (some .int) :: ([.methodLink RX4 81 yX4_within, .static yX4_within, .initialized RX4, .code yX4_within cX4_within 3 (some .boolean), .methodLink RX4 100 yX4_isPart, .static yX4_isPart, .code yX4_isPart cX4_isPart 1 (some .boolean)])
def wsX3_putVisit : List Cond := .code yX3_putVisit cX3_putVisit 8 (some .int) :: ([.fieldLink RX3 38 "VisitVans$Road" "visitCount" "I", .fieldLink RX3 23 "VisitVans$Road" "visits" "[I"] ++ wsX30)
def wsX3_addVisit : List Cond := .code yX3_addVisit cX3_addVisit 8 (some .int) :: ([.fieldLink RX3 38 "VisitVans$Road" "visitCount" "I", .static yX4_visitError, .initialized RX4, .code yX4_visitError cX4_visitError 6 (some .int), .methodLink RX4 81 yX4_within, .static yX4_within, .code yX4_within cX4_within 3 (some .boolean), .methodLink RX4 100 yX4_isPart, .static yX4_isPart, .code yX4_isPart cX4_isPart 1 (some .boolean), .methodLink RX3 59 yX3_putVisit, .instanceMethod yX3_putVisit, .selects RX3 yX3_putVisit yX3_putVisit, .initialized RX3, .code yX3_putVisit cX3_putVisit 8 (some .int), .fieldLink RX3 23 "VisitVans$Road" "visits" "[I"] ++ wsX30)
def wsX3_removeVisit : List Cond := .code yX3_removeVisit cX3_removeVisit 4 (some .int) :: ([.fieldLink RX3 38 "VisitVans$Road" "visitCount" "I", .fieldLink RX3 23 "VisitVans$Road" "visits" "[I", .methodLink RX3 32 arraycopyName, .native arraycopyName, .static arraycopyName, .initialized "java/lang/System", .methodLink RX3 62 yX3_hasVisit, .instanceMethod yX3_hasVisit, .selects RX3 yX3_hasVisit yX3_hasVisit, .initialized RX3, .code yX3_hasVisit cX3_hasVisit 2 (some .boolean)] ++ wsX30)
def wsX3_addVan : List Cond := .code yX3_addVan cX3_addVan 3 (some .int) :: ([.fieldLink RX3 42 "VisitVans$Road" "vanCount" "I", .fieldLink RX3 26 "VisitVans$Road" "vans" "[I", .static yX4_within, .initialized RX4, .code yX4_within cX4_within 3 (some .boolean)] ++ wsX30)
def wsX3_changeStock : List Cond := .code yX3_changeStock cX3_changeStock 5 (some .int) :: ([.fieldLink RX3 29 "VisitVans$Road" "parts" "[I", .methodLink RX3 66 yX3_hasVan, .instanceMethod yX3_hasVan, .selects RX3 yX3_hasVan yX3_hasVan, .initialized RX3, .code yX3_hasVan cX3_hasVan 2 (some .boolean), .fieldLink RX3 42 "VisitVans$Road" "vanCount" "I", .static yX4_isPart, .initialized RX4, .code yX4_isPart cX4_isPart 1 (some .boolean), .methodLink RX4 81 yX4_within, .static yX4_within, .code yX4_within cX4_within 3 (some .boolean)] ++ wsX30)
def wsX4_init_r1 : List Cond := [Cond.methodLink RX4 3 objectInit, Cond.instanceMethod objectInit, Cond.code objectInit ⟨#[0xb1]⟩ 1 none, Cond.classLink RX4 9 RX3, Cond.instantiable RX3 6, Cond.initialized RX3, Cond.fieldLink RX4 12 "VisitVans" "road" "LVisitVans$Road;", Cond.classLink RX4 16 RX2, Cond.instantiable RX2 7, Cond.initialized RX2, Cond.fieldLink RX4 19 "VisitVans" "plan" "LVisitVans$Plan;", Cond.fieldLink RX4 23 "VisitVans" "trialRoad" "LVisitVans$Road;", Cond.fieldLink RX4 26 "VisitVans" "trialPlan" "LVisitVans$Plan;", Cond.classLink RX4 29 RX0, Cond.instantiable RX0 3, Cond.initialized RX0, Cond.fieldLink RX4 32 "VisitVans" "history" "LVisitVans$History;", Cond.fieldLink RX4 36 "VisitVans" "slots" "[LVisitVans$Road;", Cond.arrayClass .boolean, Cond.fieldLink RX4 40 "VisitVans" "saved" "[Z", Cond.classLink RX4 44 RX1, Cond.instantiable RX1 6, Cond.initialized RX1, Cond.fieldLink RX4 47 "VisitVans" "pad" "LVisitVans$Pad;"]
def wsX4_init_r2 : List Cond := [Cond.instanceMethod yX3_init, Cond.code yX3_init cX3_init 1 none, Cond.methodLink RX3 3 objectInit, Cond.methodLink RX3 13 ⟨"[I", "clone", "()Ljava/lang/Object;"⟩, Cond.sameMethod "[I" "java/lang/Object" "clone" "()Ljava/lang/Object;", Cond.native ⟨"java/lang/Object", "clone", "()Ljava/lang/Object;"⟩, Cond.instanceMethod ⟨"java/lang/Object", "clone", "()Ljava/lang/Object;"⟩, Cond.selects "[I" ⟨"[I", "clone", "()Ljava/lang/Object;"⟩ ⟨"java/lang/Object", "clone", "()Ljava/lang/Object;"⟩, Cond.classLink RX3 14 "[I", Cond.fieldLink RX3 18 "VisitVans$Road" "settings" "[I", Cond.arrayClass .int, Cond.fieldLink RX3 23 "VisitVans$Road" "visits" "[I", Cond.fieldLink RX3 26 "VisitVans$Road" "vans" "[I", Cond.fieldLink RX3 29 "VisitVans$Road" "parts" "[I", Cond.instanceMethod yX2_init, Cond.code yX2_init cX2_init 1 none, Cond.methodLink RX2 3 objectInit, Cond.fieldLink RX2 9 "VisitVans$Plan" "order" "[I", Cond.fieldLink RX2 15 "VisitVans$Plan" "outcomes" "[I", Cond.fieldLink RX2 18 "VisitVans$Plan" "drives" "[I", Cond.fieldLink RX2 21 "VisitVans$Plan" "left" "[I", Cond.fieldLink RX2 24 "VisitVans$Plan" "events" "[I", Cond.methodLink RX4 31 yX0_init, Cond.instanceMethod yX0_init]
def wsX4_init_r3 : List Cond := [Cond.code yX0_init cX0_init 2 none, Cond.methodLink RX0 3 objectInit, Cond.classLink RX0 11 RX3, Cond.fieldLink RX0 13 "VisitVans$History" "states" "[LVisitVans$Road;", Cond.instanceMethod yX1_init, Cond.code yX1_init cX1_init 1 none, Cond.methodLink RX1 3 objectInit, Cond.arrayClass .char, Cond.fieldLink RX1 9 "VisitVans$Pad" "signs" "[C", Cond.fieldLink RX1 15 "VisitVans$Pad" "told" "[I"]
def wsX4_init : List Cond := .code yX4_init cX4_init 2 none :: ((wsX4_init_r1 ++ (wsX4_init_r2 ++ wsX4_init_r3)) ++ wsX30 ++ wsX40 ++ wsX20 ++ wsX00 ++ wsX10)
def wsX4_changed_r1 : List Cond := [Cond.fieldLink RX4 32 "VisitVans" "history" "LVisitVans$History;", Cond.fieldLink RX4 19 "VisitVans" "plan" "LVisitVans$Plan;", Cond.fieldLink RX4 12 "VisitVans" "road" "LVisitVans$Road;", Cond.methodLink RX4 182 yX0_keep, Cond.instanceMethod yX0_keep, Cond.selects RX0 yX0_keep yX0_keep, Cond.initialized RX0, Cond.code yX0_keep cX0_keep 1 none, Cond.fieldLink RX0 22 "VisitVans$History" "many" "I", Cond.fieldLink RX0 18 "VisitVans$History" "oldest" "I", Cond.methodLink RX4 157 yX2_make, Cond.instanceMethod yX2_make, Cond.selects RX2 yX2_make yX2_make, Cond.initialized RX2, Cond.code yX2_make cX2_make 3 none, Cond.fieldLink RX2 27 "VisitVans$Road" "visitCount" "I", Cond.fieldLink RX2 33 "VisitVans$Plan" "visitCount" "I", Cond.fieldLink RX2 34 "VisitVans$Road" "vanCount" "I", Cond.fieldLink RX2 37 "VisitVans$Plan" "vanCount" "I", Cond.fieldLink RX2 9 "VisitVans$Plan" "order" "[I", Cond.methodLink RX2 38 yX2_sendVansHome, Cond.instanceMethod yX2_sendVansHome, Cond.selects RX2 yX2_sendVansHome yX2_sendVansHome, Cond.code yX2_sendVansHome cX2_sendVansHome 5 none]
def wsX4_changed_r2 : List Cond := [Cond.fieldLink RX2 18 "VisitVans$Plan" "drives" "[I", Cond.fieldLink RX2 21 "VisitVans$Plan" "left" "[I", Cond.methodLink RX2 65 yX3_vanFact, Cond.instanceMethod yX3_vanFact, Cond.selects RX3 yX3_vanFact yX3_vanFact, Cond.initialized RX3, Cond.code yX3_vanFact cX3_vanFact 3 (some .int), Cond.fieldLink RX3 26 "VisitVans$Road" "vans" "[I", Cond.methodLink RX2 68 yX3_partsOf, Cond.instanceMethod yX3_partsOf, Cond.selects RX3 yX3_partsOf yX3_partsOf, Cond.code yX3_partsOf cX3_partsOf 3 (some .int), Cond.fieldLink RX3 29 "VisitVans$Road" "parts" "[I", Cond.methodLink RX2 42 yX2_orderByEnds, Cond.instanceMethod yX2_orderByEnds, Cond.selects RX2 yX2_orderByEnds yX2_orderByEnds, Cond.code yX2_orderByEnds cX2_orderByEnds 5 none, Cond.methodLink RX2 71 yX3_visitFact, Cond.instanceMethod yX3_visitFact, Cond.selects RX3 yX3_visitFact yX3_visitFact, Cond.code yX3_visitFact cX3_visitFact 3 (some .int), Cond.fieldLink RX3 23 "VisitVans$Road" "visits" "[I", Cond.methodLink RX2 45 yX2_look, Cond.instanceMethod yX2_look]
def wsX4_changed_r3 : List Cond := [Cond.selects RX2 yX2_look yX2_look, Cond.code yX2_look cX2_look 8 none, Cond.fieldLink RX2 74 "VisitVans$Road" "settings" "[I", Cond.methodLink RX2 60 Lib.Math.max.name, Cond.static Lib.Math.max.name, Cond.initialized "java/lang/Math", Cond.code Lib.Math.max.name Lib.Math.max.code 2 (some .int), Cond.methodLink RX2 77 yX2_firstToBegin, Cond.instanceMethod yX2_firstToBegin, Cond.selects RX2 yX2_firstToBegin yX2_firstToBegin, Cond.code yX2_firstToBegin cX2_firstToBegin 10 (some .int), Cond.methodLink RX2 95 yX2_hasSkill, Cond.instanceMethod yX2_hasSkill, Cond.selects RX2 yX2_hasSkill yX2_hasSkill, Cond.code yX2_hasSkill cX2_hasSkill 4 (some .boolean), Cond.methodLink RX2 99 yX2_hasParts, Cond.instanceMethod yX2_hasParts, Cond.selects RX2 yX2_hasParts yX2_hasParts, Cond.code yX2_hasParts cX2_hasParts 4 (some .boolean), Cond.methodLink RX2 102 yX2_partsLeft, Cond.instanceMethod yX2_partsLeft, Cond.selects RX2 yX2_partsLeft yX2_partsLeft, Cond.code yX2_partsLeft cX2_partsLeft 3 (some .int), Cond.methodLink RX2 89 yX2_comes]
def wsX4_changed_r4 : List Cond := [Cond.instanceMethod yX2_comes, Cond.selects RX2 yX2_comes yX2_comes, Cond.code yX2_comes cX2_comes 5 (some .int), Cond.methodLink RX2 105 Lib.Math.abs.name, Cond.static Lib.Math.abs.name, Cond.code Lib.Math.abs.name Lib.Math.abs.code 1 (some .int), Cond.methodLink RX2 57 yX2_driveFact, Cond.instanceMethod yX2_driveFact, Cond.selects RX2 yX2_driveFact yX2_driveFact, Cond.code yX2_driveFact cX2_driveFact 3 (some .int), Cond.methodLink RX2 81 yX2_reason, Cond.instanceMethod yX2_reason, Cond.selects RX2 yX2_reason yX2_reason, Cond.code yX2_reason cX2_reason 5 (some .int), Cond.methodLink RX2 85 yX2_putOutcome, Cond.instanceMethod yX2_putOutcome, Cond.selects RX2 yX2_putOutcome yX2_putOutcome, Cond.code yX2_putOutcome cX2_putOutcome 7 none, Cond.fieldLink RX2 15 "VisitVans$Plan" "outcomes" "[I", Cond.methodLink RX2 92 yX2_drive, Cond.instanceMethod yX2_drive, Cond.selects RX2 yX2_drive yX2_drive, Cond.code yX2_drive cX2_drive 9 none, Cond.methodLink RX2 49 yX2_outcome]
def wsX4_changed_r5 : List Cond := [Cond.instanceMethod yX2_outcome, Cond.selects RX2 yX2_outcome yX2_outcome, Cond.code yX2_outcome cX2_outcome 3 (some .int), Cond.methodLink RX2 108 yX2_addEvent, Cond.instanceMethod yX2_addEvent, Cond.selects RX2 yX2_addEvent yX2_addEvent, Cond.code yX2_addEvent cX2_addEvent 8 none, Cond.fieldLink RX2 24 "VisitVans$Plan" "events" "[I"]
def wsX4_changed : List Cond := .code yX4_changed cX4_changed 2 (some .int) :: ((wsX4_changed_r1 ++ (wsX4_changed_r2 ++ (wsX4_changed_r3 ++ (wsX4_changed_r4 ++ wsX4_changed_r5)))) ++ wsX40 ++ wsX00 ++ wsX30 ++ wsX20)
def wsX4_set_r1 : List Cond := [Cond.fieldLink RX4 32 "VisitVans" "history" "LVisitVans$History;", Cond.fieldLink RX4 12 "VisitVans" "road" "LVisitVans$Road;", Cond.methodLink RX4 51 yX0_note, Cond.instanceMethod yX0_note, Cond.selects RX0 yX0_note yX0_note, Cond.initialized RX0, Cond.code yX0_note cX0_note 2 none, Cond.fieldLink RX0 13 "VisitVans$History" "states" "[LVisitVans$Road;", Cond.fieldLink RX0 18 "VisitVans$History" "oldest" "I", Cond.fieldLink RX0 22 "VisitVans$History" "many" "I", Cond.methodLink RX0 25 yX3_copyFrom, Cond.instanceMethod yX3_copyFrom, Cond.selects RX3 yX3_copyFrom yX3_copyFrom, Cond.initialized RX3, Cond.code yX3_copyFrom cX3_copyFrom 2 none, Cond.fieldLink RX3 18 "VisitVans$Road" "settings" "[I", Cond.methodLink RX3 32 arraycopyName, Cond.native arraycopyName, Cond.static arraycopyName, Cond.initialized "java/lang/System", Cond.fieldLink RX3 23 "VisitVans$Road" "visits" "[I", Cond.fieldLink RX3 26 "VisitVans$Road" "vans" "[I", Cond.fieldLink RX3 29 "VisitVans$Road" "parts" "[I", Cond.fieldLink RX3 38 "VisitVans$Road" "visitCount" "I"]
def wsX4_set_r2 : List Cond := [Cond.fieldLink RX3 42 "VisitVans$Road" "vanCount" "I", Cond.methodLink RX4 55 yX3_changeSetting, Cond.instanceMethod yX3_changeSetting, Cond.selects RX3 yX3_changeSetting yX3_changeSetting, Cond.code yX3_changeSetting cX3_changeSetting 4 (some .int), Cond.static yX4_within, Cond.initialized RX4, Cond.code yX4_within cX4_within 3 (some .boolean), Cond.methodLink RX4 59 yX4_changed, Cond.instanceMethod yX4_changed, Cond.selects RX4 yX4_changed yX4_changed, Cond.code yX4_changed cX4_changed 2 (some .int), Cond.fieldLink RX4 19 "VisitVans" "plan" "LVisitVans$Plan;", Cond.methodLink RX4 182 yX0_keep, Cond.instanceMethod yX0_keep, Cond.selects RX0 yX0_keep yX0_keep, Cond.code yX0_keep cX0_keep 1 none, Cond.methodLink RX4 157 yX2_make, Cond.instanceMethod yX2_make, Cond.selects RX2 yX2_make yX2_make, Cond.initialized RX2, Cond.code yX2_make cX2_make 3 none, Cond.fieldLink RX2 27 "VisitVans$Road" "visitCount" "I", Cond.fieldLink RX2 33 "VisitVans$Plan" "visitCount" "I"]
def wsX4_set_r3 : List Cond := [Cond.fieldLink RX2 34 "VisitVans$Road" "vanCount" "I", Cond.fieldLink RX2 37 "VisitVans$Plan" "vanCount" "I", Cond.fieldLink RX2 9 "VisitVans$Plan" "order" "[I", Cond.methodLink RX2 38 yX2_sendVansHome, Cond.instanceMethod yX2_sendVansHome, Cond.selects RX2 yX2_sendVansHome yX2_sendVansHome, Cond.code yX2_sendVansHome cX2_sendVansHome 5 none, Cond.fieldLink RX2 18 "VisitVans$Plan" "drives" "[I", Cond.fieldLink RX2 21 "VisitVans$Plan" "left" "[I", Cond.methodLink RX2 65 yX3_vanFact, Cond.instanceMethod yX3_vanFact, Cond.selects RX3 yX3_vanFact yX3_vanFact, Cond.code yX3_vanFact cX3_vanFact 3 (some .int), Cond.methodLink RX2 68 yX3_partsOf, Cond.instanceMethod yX3_partsOf, Cond.selects RX3 yX3_partsOf yX3_partsOf, Cond.code yX3_partsOf cX3_partsOf 3 (some .int), Cond.methodLink RX2 42 yX2_orderByEnds, Cond.instanceMethod yX2_orderByEnds, Cond.selects RX2 yX2_orderByEnds yX2_orderByEnds, Cond.code yX2_orderByEnds cX2_orderByEnds 5 none, Cond.methodLink RX2 71 yX3_visitFact, Cond.instanceMethod yX3_visitFact, Cond.selects RX3 yX3_visitFact yX3_visitFact]
def wsX4_set_r4 : List Cond := [Cond.code yX3_visitFact cX3_visitFact 3 (some .int), Cond.methodLink RX2 45 yX2_look, Cond.instanceMethod yX2_look, Cond.selects RX2 yX2_look yX2_look, Cond.code yX2_look cX2_look 8 none, Cond.fieldLink RX2 74 "VisitVans$Road" "settings" "[I", Cond.methodLink RX2 60 Lib.Math.max.name, Cond.static Lib.Math.max.name, Cond.initialized "java/lang/Math", Cond.code Lib.Math.max.name Lib.Math.max.code 2 (some .int), Cond.methodLink RX2 77 yX2_firstToBegin, Cond.instanceMethod yX2_firstToBegin, Cond.selects RX2 yX2_firstToBegin yX2_firstToBegin, Cond.code yX2_firstToBegin cX2_firstToBegin 10 (some .int), Cond.methodLink RX2 95 yX2_hasSkill, Cond.instanceMethod yX2_hasSkill, Cond.selects RX2 yX2_hasSkill yX2_hasSkill, Cond.code yX2_hasSkill cX2_hasSkill 4 (some .boolean), Cond.methodLink RX2 99 yX2_hasParts, Cond.instanceMethod yX2_hasParts, Cond.selects RX2 yX2_hasParts yX2_hasParts, Cond.code yX2_hasParts cX2_hasParts 4 (some .boolean), Cond.methodLink RX2 102 yX2_partsLeft, Cond.instanceMethod yX2_partsLeft]
def wsX4_set_r5 : List Cond := [Cond.selects RX2 yX2_partsLeft yX2_partsLeft, Cond.code yX2_partsLeft cX2_partsLeft 3 (some .int), Cond.methodLink RX2 89 yX2_comes, Cond.instanceMethod yX2_comes, Cond.selects RX2 yX2_comes yX2_comes, Cond.code yX2_comes cX2_comes 5 (some .int), Cond.methodLink RX2 105 Lib.Math.abs.name, Cond.static Lib.Math.abs.name, Cond.code Lib.Math.abs.name Lib.Math.abs.code 1 (some .int), Cond.methodLink RX2 57 yX2_driveFact, Cond.instanceMethod yX2_driveFact, Cond.selects RX2 yX2_driveFact yX2_driveFact, Cond.code yX2_driveFact cX2_driveFact 3 (some .int), Cond.methodLink RX2 81 yX2_reason, Cond.instanceMethod yX2_reason, Cond.selects RX2 yX2_reason yX2_reason, Cond.code yX2_reason cX2_reason 5 (some .int), Cond.methodLink RX2 85 yX2_putOutcome, Cond.instanceMethod yX2_putOutcome, Cond.selects RX2 yX2_putOutcome yX2_putOutcome, Cond.code yX2_putOutcome cX2_putOutcome 7 none, Cond.fieldLink RX2 15 "VisitVans$Plan" "outcomes" "[I", Cond.methodLink RX2 92 yX2_drive, Cond.instanceMethod yX2_drive]
def wsX4_set_r6 : List Cond := [Cond.selects RX2 yX2_drive yX2_drive, Cond.code yX2_drive cX2_drive 9 none, Cond.methodLink RX2 49 yX2_outcome, Cond.instanceMethod yX2_outcome, Cond.selects RX2 yX2_outcome yX2_outcome, Cond.code yX2_outcome cX2_outcome 3 (some .int), Cond.methodLink RX2 108 yX2_addEvent, Cond.instanceMethod yX2_addEvent, Cond.selects RX2 yX2_addEvent yX2_addEvent, Cond.code yX2_addEvent cX2_addEvent 8 none, Cond.fieldLink RX2 24 "VisitVans$Plan" "events" "[I"]
def wsX4_set : List Cond := .code yX4_set cX4_set 3 (some .int) :: ((wsX4_set_r1 ++ (wsX4_set_r2 ++ (wsX4_set_r3 ++ (wsX4_set_r4 ++ (wsX4_set_r5 ++ wsX4_set_r6))))) ++ wsX40 ++ wsX00 ++ wsX30 ++ wsX20)
def wsX4_visit_r1 : List Cond := [Cond.fieldLink RX4 32 "VisitVans" "history" "LVisitVans$History;", Cond.fieldLink RX4 12 "VisitVans" "road" "LVisitVans$Road;", Cond.methodLink RX4 51 yX0_note, Cond.instanceMethod yX0_note, Cond.selects RX0 yX0_note yX0_note, Cond.initialized RX0, Cond.code yX0_note cX0_note 2 none, Cond.fieldLink RX0 13 "VisitVans$History" "states" "[LVisitVans$Road;", Cond.fieldLink RX0 18 "VisitVans$History" "oldest" "I", Cond.fieldLink RX0 22 "VisitVans$History" "many" "I", Cond.methodLink RX0 25 yX3_copyFrom, Cond.instanceMethod yX3_copyFrom, Cond.selects RX3 yX3_copyFrom yX3_copyFrom, Cond.initialized RX3, Cond.code yX3_copyFrom cX3_copyFrom 2 none, Cond.fieldLink RX3 18 "VisitVans$Road" "settings" "[I", Cond.methodLink RX3 32 arraycopyName, Cond.native arraycopyName, Cond.static arraycopyName, Cond.initialized "java/lang/System", Cond.fieldLink RX3 23 "VisitVans$Road" "visits" "[I", Cond.fieldLink RX3 26 "VisitVans$Road" "vans" "[I", Cond.fieldLink RX3 29 "VisitVans$Road" "parts" "[I", Cond.fieldLink RX3 38 "VisitVans$Road" "visitCount" "I"]
def wsX4_visit_r2 : List Cond := [Cond.fieldLink RX3 42 "VisitVans$Road" "vanCount" "I", Cond.methodLink RX4 63 yX3_addVisit, Cond.instanceMethod yX3_addVisit, Cond.selects RX3 yX3_addVisit yX3_addVisit, Cond.code yX3_addVisit cX3_addVisit 8 (some .int), Cond.static yX4_visitError, Cond.initialized RX4, Cond.code yX4_visitError cX4_visitError 6 (some .int), Cond.methodLink RX4 81 yX4_within, Cond.static yX4_within, Cond.code yX4_within cX4_within 3 (some .boolean), Cond.methodLink RX4 100 yX4_isPart, Cond.static yX4_isPart, Cond.code yX4_isPart cX4_isPart 1 (some .boolean), Cond.methodLink RX3 59 yX3_putVisit, Cond.instanceMethod yX3_putVisit, Cond.selects RX3 yX3_putVisit yX3_putVisit, Cond.code yX3_putVisit cX3_putVisit 8 (some .int), Cond.methodLink RX4 59 yX4_changed, Cond.instanceMethod yX4_changed, Cond.selects RX4 yX4_changed yX4_changed, Cond.code yX4_changed cX4_changed 2 (some .int), Cond.fieldLink RX4 19 "VisitVans" "plan" "LVisitVans$Plan;", Cond.methodLink RX4 182 yX0_keep]
def wsX4_visit_r3 : List Cond := [Cond.instanceMethod yX0_keep, Cond.selects RX0 yX0_keep yX0_keep, Cond.code yX0_keep cX0_keep 1 none, Cond.methodLink RX4 157 yX2_make, Cond.instanceMethod yX2_make, Cond.selects RX2 yX2_make yX2_make, Cond.initialized RX2, Cond.code yX2_make cX2_make 3 none, Cond.fieldLink RX2 27 "VisitVans$Road" "visitCount" "I", Cond.fieldLink RX2 33 "VisitVans$Plan" "visitCount" "I", Cond.fieldLink RX2 34 "VisitVans$Road" "vanCount" "I", Cond.fieldLink RX2 37 "VisitVans$Plan" "vanCount" "I", Cond.fieldLink RX2 9 "VisitVans$Plan" "order" "[I", Cond.methodLink RX2 38 yX2_sendVansHome, Cond.instanceMethod yX2_sendVansHome, Cond.selects RX2 yX2_sendVansHome yX2_sendVansHome, Cond.code yX2_sendVansHome cX2_sendVansHome 5 none, Cond.fieldLink RX2 18 "VisitVans$Plan" "drives" "[I", Cond.fieldLink RX2 21 "VisitVans$Plan" "left" "[I", Cond.methodLink RX2 65 yX3_vanFact, Cond.instanceMethod yX3_vanFact, Cond.selects RX3 yX3_vanFact yX3_vanFact, Cond.code yX3_vanFact cX3_vanFact 3 (some .int), Cond.methodLink RX2 68 yX3_partsOf]
def wsX4_visit_r4 : List Cond := [Cond.instanceMethod yX3_partsOf, Cond.selects RX3 yX3_partsOf yX3_partsOf, Cond.code yX3_partsOf cX3_partsOf 3 (some .int), Cond.methodLink RX2 42 yX2_orderByEnds, Cond.instanceMethod yX2_orderByEnds, Cond.selects RX2 yX2_orderByEnds yX2_orderByEnds, Cond.code yX2_orderByEnds cX2_orderByEnds 5 none, Cond.methodLink RX2 71 yX3_visitFact, Cond.instanceMethod yX3_visitFact, Cond.selects RX3 yX3_visitFact yX3_visitFact, Cond.code yX3_visitFact cX3_visitFact 3 (some .int), Cond.methodLink RX2 45 yX2_look, Cond.instanceMethod yX2_look, Cond.selects RX2 yX2_look yX2_look, Cond.code yX2_look cX2_look 8 none, Cond.fieldLink RX2 74 "VisitVans$Road" "settings" "[I", Cond.methodLink RX2 60 Lib.Math.max.name, Cond.static Lib.Math.max.name, Cond.initialized "java/lang/Math", Cond.code Lib.Math.max.name Lib.Math.max.code 2 (some .int), Cond.methodLink RX2 77 yX2_firstToBegin, Cond.instanceMethod yX2_firstToBegin, Cond.selects RX2 yX2_firstToBegin yX2_firstToBegin, Cond.code yX2_firstToBegin cX2_firstToBegin 10 (some .int)]
def wsX4_visit_r5 : List Cond := [Cond.methodLink RX2 95 yX2_hasSkill, Cond.instanceMethod yX2_hasSkill, Cond.selects RX2 yX2_hasSkill yX2_hasSkill, Cond.code yX2_hasSkill cX2_hasSkill 4 (some .boolean), Cond.methodLink RX2 99 yX2_hasParts, Cond.instanceMethod yX2_hasParts, Cond.selects RX2 yX2_hasParts yX2_hasParts, Cond.code yX2_hasParts cX2_hasParts 4 (some .boolean), Cond.methodLink RX2 102 yX2_partsLeft, Cond.instanceMethod yX2_partsLeft, Cond.selects RX2 yX2_partsLeft yX2_partsLeft, Cond.code yX2_partsLeft cX2_partsLeft 3 (some .int), Cond.methodLink RX2 89 yX2_comes, Cond.instanceMethod yX2_comes, Cond.selects RX2 yX2_comes yX2_comes, Cond.code yX2_comes cX2_comes 5 (some .int), Cond.methodLink RX2 105 Lib.Math.abs.name, Cond.static Lib.Math.abs.name, Cond.code Lib.Math.abs.name Lib.Math.abs.code 1 (some .int), Cond.methodLink RX2 57 yX2_driveFact, Cond.instanceMethod yX2_driveFact, Cond.selects RX2 yX2_driveFact yX2_driveFact, Cond.code yX2_driveFact cX2_driveFact 3 (some .int), Cond.methodLink RX2 81 yX2_reason]
def wsX4_visit_r6 : List Cond := [Cond.instanceMethod yX2_reason, Cond.selects RX2 yX2_reason yX2_reason, Cond.code yX2_reason cX2_reason 5 (some .int), Cond.methodLink RX2 85 yX2_putOutcome, Cond.instanceMethod yX2_putOutcome, Cond.selects RX2 yX2_putOutcome yX2_putOutcome, Cond.code yX2_putOutcome cX2_putOutcome 7 none, Cond.fieldLink RX2 15 "VisitVans$Plan" "outcomes" "[I", Cond.methodLink RX2 92 yX2_drive, Cond.instanceMethod yX2_drive, Cond.selects RX2 yX2_drive yX2_drive, Cond.code yX2_drive cX2_drive 9 none, Cond.methodLink RX2 49 yX2_outcome, Cond.instanceMethod yX2_outcome, Cond.selects RX2 yX2_outcome yX2_outcome, Cond.code yX2_outcome cX2_outcome 3 (some .int), Cond.methodLink RX2 108 yX2_addEvent, Cond.instanceMethod yX2_addEvent, Cond.selects RX2 yX2_addEvent yX2_addEvent, Cond.code yX2_addEvent cX2_addEvent 8 none, Cond.fieldLink RX2 24 "VisitVans$Plan" "events" "[I"]
def wsX4_visit : List Cond := .code yX4_visit cX4_visit 7 (some .int) :: ((wsX4_visit_r1 ++ (wsX4_visit_r2 ++ (wsX4_visit_r3 ++ (wsX4_visit_r4 ++ (wsX4_visit_r5 ++ wsX4_visit_r6))))) ++ wsX40 ++ wsX00 ++ wsX30 ++ wsX20)
def wsX4_drop_r1 : List Cond := [Cond.fieldLink RX4 32 "VisitVans" "history" "LVisitVans$History;", Cond.fieldLink RX4 12 "VisitVans" "road" "LVisitVans$Road;", Cond.methodLink RX4 51 yX0_note, Cond.instanceMethod yX0_note, Cond.selects RX0 yX0_note yX0_note, Cond.initialized RX0, Cond.code yX0_note cX0_note 2 none, Cond.fieldLink RX0 13 "VisitVans$History" "states" "[LVisitVans$Road;", Cond.fieldLink RX0 18 "VisitVans$History" "oldest" "I", Cond.fieldLink RX0 22 "VisitVans$History" "many" "I", Cond.methodLink RX0 25 yX3_copyFrom, Cond.instanceMethod yX3_copyFrom, Cond.selects RX3 yX3_copyFrom yX3_copyFrom, Cond.initialized RX3, Cond.code yX3_copyFrom cX3_copyFrom 2 none, Cond.fieldLink RX3 18 "VisitVans$Road" "settings" "[I", Cond.methodLink RX3 32 arraycopyName, Cond.native arraycopyName, Cond.static arraycopyName, Cond.initialized "java/lang/System", Cond.fieldLink RX3 23 "VisitVans$Road" "visits" "[I", Cond.fieldLink RX3 26 "VisitVans$Road" "vans" "[I", Cond.fieldLink RX3 29 "VisitVans$Road" "parts" "[I", Cond.fieldLink RX3 38 "VisitVans$Road" "visitCount" "I"]
def wsX4_drop_r2 : List Cond := [Cond.fieldLink RX3 42 "VisitVans$Road" "vanCount" "I", Cond.methodLink RX4 67 yX3_removeVisit, Cond.instanceMethod yX3_removeVisit, Cond.selects RX3 yX3_removeVisit yX3_removeVisit, Cond.code yX3_removeVisit cX3_removeVisit 4 (some .int), Cond.methodLink RX3 62 yX3_hasVisit, Cond.instanceMethod yX3_hasVisit, Cond.selects RX3 yX3_hasVisit yX3_hasVisit, Cond.code yX3_hasVisit cX3_hasVisit 2 (some .boolean), Cond.methodLink RX4 59 yX4_changed, Cond.instanceMethod yX4_changed, Cond.selects RX4 yX4_changed yX4_changed, Cond.initialized RX4, Cond.code yX4_changed cX4_changed 2 (some .int), Cond.fieldLink RX4 19 "VisitVans" "plan" "LVisitVans$Plan;", Cond.methodLink RX4 182 yX0_keep, Cond.instanceMethod yX0_keep, Cond.selects RX0 yX0_keep yX0_keep, Cond.code yX0_keep cX0_keep 1 none, Cond.methodLink RX4 157 yX2_make, Cond.instanceMethod yX2_make, Cond.selects RX2 yX2_make yX2_make, Cond.initialized RX2, Cond.code yX2_make cX2_make 3 none]
def wsX4_drop_r3 : List Cond := [Cond.fieldLink RX2 27 "VisitVans$Road" "visitCount" "I", Cond.fieldLink RX2 33 "VisitVans$Plan" "visitCount" "I", Cond.fieldLink RX2 34 "VisitVans$Road" "vanCount" "I", Cond.fieldLink RX2 37 "VisitVans$Plan" "vanCount" "I", Cond.fieldLink RX2 9 "VisitVans$Plan" "order" "[I", Cond.methodLink RX2 38 yX2_sendVansHome, Cond.instanceMethod yX2_sendVansHome, Cond.selects RX2 yX2_sendVansHome yX2_sendVansHome, Cond.code yX2_sendVansHome cX2_sendVansHome 5 none, Cond.fieldLink RX2 18 "VisitVans$Plan" "drives" "[I", Cond.fieldLink RX2 21 "VisitVans$Plan" "left" "[I", Cond.methodLink RX2 65 yX3_vanFact, Cond.instanceMethod yX3_vanFact, Cond.selects RX3 yX3_vanFact yX3_vanFact, Cond.code yX3_vanFact cX3_vanFact 3 (some .int), Cond.methodLink RX2 68 yX3_partsOf, Cond.instanceMethod yX3_partsOf, Cond.selects RX3 yX3_partsOf yX3_partsOf, Cond.code yX3_partsOf cX3_partsOf 3 (some .int), Cond.methodLink RX2 42 yX2_orderByEnds, Cond.instanceMethod yX2_orderByEnds, Cond.selects RX2 yX2_orderByEnds yX2_orderByEnds, Cond.code yX2_orderByEnds cX2_orderByEnds 5 none, Cond.methodLink RX2 71 yX3_visitFact]
def wsX4_drop_r4 : List Cond := [Cond.instanceMethod yX3_visitFact, Cond.selects RX3 yX3_visitFact yX3_visitFact, Cond.code yX3_visitFact cX3_visitFact 3 (some .int), Cond.methodLink RX2 45 yX2_look, Cond.instanceMethod yX2_look, Cond.selects RX2 yX2_look yX2_look, Cond.code yX2_look cX2_look 8 none, Cond.fieldLink RX2 74 "VisitVans$Road" "settings" "[I", Cond.methodLink RX2 60 Lib.Math.max.name, Cond.static Lib.Math.max.name, Cond.initialized "java/lang/Math", Cond.code Lib.Math.max.name Lib.Math.max.code 2 (some .int), Cond.methodLink RX2 77 yX2_firstToBegin, Cond.instanceMethod yX2_firstToBegin, Cond.selects RX2 yX2_firstToBegin yX2_firstToBegin, Cond.code yX2_firstToBegin cX2_firstToBegin 10 (some .int), Cond.methodLink RX2 95 yX2_hasSkill, Cond.instanceMethod yX2_hasSkill, Cond.selects RX2 yX2_hasSkill yX2_hasSkill, Cond.code yX2_hasSkill cX2_hasSkill 4 (some .boolean), Cond.methodLink RX2 99 yX2_hasParts, Cond.instanceMethod yX2_hasParts, Cond.selects RX2 yX2_hasParts yX2_hasParts, Cond.code yX2_hasParts cX2_hasParts 4 (some .boolean)]
def wsX4_drop_r5 : List Cond := [Cond.methodLink RX2 102 yX2_partsLeft, Cond.instanceMethod yX2_partsLeft, Cond.selects RX2 yX2_partsLeft yX2_partsLeft, Cond.code yX2_partsLeft cX2_partsLeft 3 (some .int), Cond.methodLink RX2 89 yX2_comes, Cond.instanceMethod yX2_comes, Cond.selects RX2 yX2_comes yX2_comes, Cond.code yX2_comes cX2_comes 5 (some .int), Cond.methodLink RX2 105 Lib.Math.abs.name, Cond.static Lib.Math.abs.name, Cond.code Lib.Math.abs.name Lib.Math.abs.code 1 (some .int), Cond.methodLink RX2 57 yX2_driveFact, Cond.instanceMethod yX2_driveFact, Cond.selects RX2 yX2_driveFact yX2_driveFact, Cond.code yX2_driveFact cX2_driveFact 3 (some .int), Cond.methodLink RX2 81 yX2_reason, Cond.instanceMethod yX2_reason, Cond.selects RX2 yX2_reason yX2_reason, Cond.code yX2_reason cX2_reason 5 (some .int), Cond.methodLink RX2 85 yX2_putOutcome, Cond.instanceMethod yX2_putOutcome, Cond.selects RX2 yX2_putOutcome yX2_putOutcome, Cond.code yX2_putOutcome cX2_putOutcome 7 none, Cond.fieldLink RX2 15 "VisitVans$Plan" "outcomes" "[I"]
def wsX4_drop_r6 : List Cond := [Cond.methodLink RX2 92 yX2_drive, Cond.instanceMethod yX2_drive, Cond.selects RX2 yX2_drive yX2_drive, Cond.code yX2_drive cX2_drive 9 none, Cond.methodLink RX2 49 yX2_outcome, Cond.instanceMethod yX2_outcome, Cond.selects RX2 yX2_outcome yX2_outcome, Cond.code yX2_outcome cX2_outcome 3 (some .int), Cond.methodLink RX2 108 yX2_addEvent, Cond.instanceMethod yX2_addEvent, Cond.selects RX2 yX2_addEvent yX2_addEvent, Cond.code yX2_addEvent cX2_addEvent 8 none, Cond.fieldLink RX2 24 "VisitVans$Plan" "events" "[I"]
def wsX4_drop : List Cond := .code yX4_drop cX4_drop 2 (some .int) :: ((wsX4_drop_r1 ++ (wsX4_drop_r2 ++ (wsX4_drop_r3 ++ (wsX4_drop_r4 ++ (wsX4_drop_r5 ++ wsX4_drop_r6))))) ++ wsX40 ++ wsX00 ++ wsX30 ++ wsX20)
def wsX4_van_r1 : List Cond := [Cond.fieldLink RX4 32 "VisitVans" "history" "LVisitVans$History;", Cond.fieldLink RX4 12 "VisitVans" "road" "LVisitVans$Road;", Cond.methodLink RX4 51 yX0_note, Cond.instanceMethod yX0_note, Cond.selects RX0 yX0_note yX0_note, Cond.initialized RX0, Cond.code yX0_note cX0_note 2 none, Cond.fieldLink RX0 13 "VisitVans$History" "states" "[LVisitVans$Road;", Cond.fieldLink RX0 18 "VisitVans$History" "oldest" "I", Cond.fieldLink RX0 22 "VisitVans$History" "many" "I", Cond.methodLink RX0 25 yX3_copyFrom, Cond.instanceMethod yX3_copyFrom, Cond.selects RX3 yX3_copyFrom yX3_copyFrom, Cond.initialized RX3, Cond.code yX3_copyFrom cX3_copyFrom 2 none, Cond.fieldLink RX3 18 "VisitVans$Road" "settings" "[I", Cond.methodLink RX3 32 arraycopyName, Cond.native arraycopyName, Cond.static arraycopyName, Cond.initialized "java/lang/System", Cond.fieldLink RX3 23 "VisitVans$Road" "visits" "[I", Cond.fieldLink RX3 26 "VisitVans$Road" "vans" "[I", Cond.fieldLink RX3 29 "VisitVans$Road" "parts" "[I", Cond.fieldLink RX3 38 "VisitVans$Road" "visitCount" "I"]
def wsX4_van_r2 : List Cond := [Cond.fieldLink RX3 42 "VisitVans$Road" "vanCount" "I", Cond.methodLink RX4 70 yX3_addVan, Cond.instanceMethod yX3_addVan, Cond.selects RX3 yX3_addVan yX3_addVan, Cond.code yX3_addVan cX3_addVan 3 (some .int), Cond.static yX4_within, Cond.initialized RX4, Cond.code yX4_within cX4_within 3 (some .boolean), Cond.methodLink RX4 59 yX4_changed, Cond.instanceMethod yX4_changed, Cond.selects RX4 yX4_changed yX4_changed, Cond.code yX4_changed cX4_changed 2 (some .int), Cond.fieldLink RX4 19 "VisitVans" "plan" "LVisitVans$Plan;", Cond.methodLink RX4 182 yX0_keep, Cond.instanceMethod yX0_keep, Cond.selects RX0 yX0_keep yX0_keep, Cond.code yX0_keep cX0_keep 1 none, Cond.methodLink RX4 157 yX2_make, Cond.instanceMethod yX2_make, Cond.selects RX2 yX2_make yX2_make, Cond.initialized RX2, Cond.code yX2_make cX2_make 3 none, Cond.fieldLink RX2 27 "VisitVans$Road" "visitCount" "I", Cond.fieldLink RX2 33 "VisitVans$Plan" "visitCount" "I"]
def wsX4_van_r3 : List Cond := [Cond.fieldLink RX2 34 "VisitVans$Road" "vanCount" "I", Cond.fieldLink RX2 37 "VisitVans$Plan" "vanCount" "I", Cond.fieldLink RX2 9 "VisitVans$Plan" "order" "[I", Cond.methodLink RX2 38 yX2_sendVansHome, Cond.instanceMethod yX2_sendVansHome, Cond.selects RX2 yX2_sendVansHome yX2_sendVansHome, Cond.code yX2_sendVansHome cX2_sendVansHome 5 none, Cond.fieldLink RX2 18 "VisitVans$Plan" "drives" "[I", Cond.fieldLink RX2 21 "VisitVans$Plan" "left" "[I", Cond.methodLink RX2 65 yX3_vanFact, Cond.instanceMethod yX3_vanFact, Cond.selects RX3 yX3_vanFact yX3_vanFact, Cond.code yX3_vanFact cX3_vanFact 3 (some .int), Cond.methodLink RX2 68 yX3_partsOf, Cond.instanceMethod yX3_partsOf, Cond.selects RX3 yX3_partsOf yX3_partsOf, Cond.code yX3_partsOf cX3_partsOf 3 (some .int), Cond.methodLink RX2 42 yX2_orderByEnds, Cond.instanceMethod yX2_orderByEnds, Cond.selects RX2 yX2_orderByEnds yX2_orderByEnds, Cond.code yX2_orderByEnds cX2_orderByEnds 5 none, Cond.methodLink RX2 71 yX3_visitFact, Cond.instanceMethod yX3_visitFact, Cond.selects RX3 yX3_visitFact yX3_visitFact]
def wsX4_van_r4 : List Cond := [Cond.code yX3_visitFact cX3_visitFact 3 (some .int), Cond.methodLink RX2 45 yX2_look, Cond.instanceMethod yX2_look, Cond.selects RX2 yX2_look yX2_look, Cond.code yX2_look cX2_look 8 none, Cond.fieldLink RX2 74 "VisitVans$Road" "settings" "[I", Cond.methodLink RX2 60 Lib.Math.max.name, Cond.static Lib.Math.max.name, Cond.initialized "java/lang/Math", Cond.code Lib.Math.max.name Lib.Math.max.code 2 (some .int), Cond.methodLink RX2 77 yX2_firstToBegin, Cond.instanceMethod yX2_firstToBegin, Cond.selects RX2 yX2_firstToBegin yX2_firstToBegin, Cond.code yX2_firstToBegin cX2_firstToBegin 10 (some .int), Cond.methodLink RX2 95 yX2_hasSkill, Cond.instanceMethod yX2_hasSkill, Cond.selects RX2 yX2_hasSkill yX2_hasSkill, Cond.code yX2_hasSkill cX2_hasSkill 4 (some .boolean), Cond.methodLink RX2 99 yX2_hasParts, Cond.instanceMethod yX2_hasParts, Cond.selects RX2 yX2_hasParts yX2_hasParts, Cond.code yX2_hasParts cX2_hasParts 4 (some .boolean), Cond.methodLink RX2 102 yX2_partsLeft, Cond.instanceMethod yX2_partsLeft]
def wsX4_van_r5 : List Cond := [Cond.selects RX2 yX2_partsLeft yX2_partsLeft, Cond.code yX2_partsLeft cX2_partsLeft 3 (some .int), Cond.methodLink RX2 89 yX2_comes, Cond.instanceMethod yX2_comes, Cond.selects RX2 yX2_comes yX2_comes, Cond.code yX2_comes cX2_comes 5 (some .int), Cond.methodLink RX2 105 Lib.Math.abs.name, Cond.static Lib.Math.abs.name, Cond.code Lib.Math.abs.name Lib.Math.abs.code 1 (some .int), Cond.methodLink RX2 57 yX2_driveFact, Cond.instanceMethod yX2_driveFact, Cond.selects RX2 yX2_driveFact yX2_driveFact, Cond.code yX2_driveFact cX2_driveFact 3 (some .int), Cond.methodLink RX2 81 yX2_reason, Cond.instanceMethod yX2_reason, Cond.selects RX2 yX2_reason yX2_reason, Cond.code yX2_reason cX2_reason 5 (some .int), Cond.methodLink RX2 85 yX2_putOutcome, Cond.instanceMethod yX2_putOutcome, Cond.selects RX2 yX2_putOutcome yX2_putOutcome, Cond.code yX2_putOutcome cX2_putOutcome 7 none, Cond.fieldLink RX2 15 "VisitVans$Plan" "outcomes" "[I", Cond.methodLink RX2 92 yX2_drive, Cond.instanceMethod yX2_drive]
def wsX4_van_r6 : List Cond := [Cond.selects RX2 yX2_drive yX2_drive, Cond.code yX2_drive cX2_drive 9 none, Cond.methodLink RX2 49 yX2_outcome, Cond.instanceMethod yX2_outcome, Cond.selects RX2 yX2_outcome yX2_outcome, Cond.code yX2_outcome cX2_outcome 3 (some .int), Cond.methodLink RX2 108 yX2_addEvent, Cond.instanceMethod yX2_addEvent, Cond.selects RX2 yX2_addEvent yX2_addEvent, Cond.code yX2_addEvent cX2_addEvent 8 none, Cond.fieldLink RX2 24 "VisitVans$Plan" "events" "[I"]
def wsX4_van : List Cond := .code yX4_van cX4_van 3 (some .int) :: ((wsX4_van_r1 ++ (wsX4_van_r2 ++ (wsX4_van_r3 ++ (wsX4_van_r4 ++ (wsX4_van_r5 ++ wsX4_van_r6))))) ++ wsX40 ++ wsX00 ++ wsX30 ++ wsX20)
def wsX4_load_r1 : List Cond := [Cond.fieldLink RX4 32 "VisitVans" "history" "LVisitVans$History;", Cond.fieldLink RX4 12 "VisitVans" "road" "LVisitVans$Road;", Cond.methodLink RX4 51 yX0_note, Cond.instanceMethod yX0_note, Cond.selects RX0 yX0_note yX0_note, Cond.initialized RX0, Cond.code yX0_note cX0_note 2 none, Cond.fieldLink RX0 13 "VisitVans$History" "states" "[LVisitVans$Road;", Cond.fieldLink RX0 18 "VisitVans$History" "oldest" "I", Cond.fieldLink RX0 22 "VisitVans$History" "many" "I", Cond.methodLink RX0 25 yX3_copyFrom, Cond.instanceMethod yX3_copyFrom, Cond.selects RX3 yX3_copyFrom yX3_copyFrom, Cond.initialized RX3, Cond.code yX3_copyFrom cX3_copyFrom 2 none, Cond.fieldLink RX3 18 "VisitVans$Road" "settings" "[I", Cond.methodLink RX3 32 arraycopyName, Cond.native arraycopyName, Cond.static arraycopyName, Cond.initialized "java/lang/System", Cond.fieldLink RX3 23 "VisitVans$Road" "visits" "[I", Cond.fieldLink RX3 26 "VisitVans$Road" "vans" "[I", Cond.fieldLink RX3 29 "VisitVans$Road" "parts" "[I", Cond.fieldLink RX3 38 "VisitVans$Road" "visitCount" "I"]
def wsX4_load_r2 : List Cond := [Cond.fieldLink RX3 42 "VisitVans$Road" "vanCount" "I", Cond.methodLink RX4 73 yX3_changeStock, Cond.instanceMethod yX3_changeStock, Cond.selects RX3 yX3_changeStock yX3_changeStock, Cond.code yX3_changeStock cX3_changeStock 5 (some .int), Cond.methodLink RX3 66 yX3_hasVan, Cond.instanceMethod yX3_hasVan, Cond.selects RX3 yX3_hasVan yX3_hasVan, Cond.code yX3_hasVan cX3_hasVan 2 (some .boolean), Cond.static yX4_isPart, Cond.initialized RX4, Cond.code yX4_isPart cX4_isPart 1 (some .boolean), Cond.methodLink RX4 81 yX4_within, Cond.static yX4_within, Cond.code yX4_within cX4_within 3 (some .boolean), Cond.methodLink RX4 59 yX4_changed, Cond.instanceMethod yX4_changed, Cond.selects RX4 yX4_changed yX4_changed, Cond.code yX4_changed cX4_changed 2 (some .int), Cond.fieldLink RX4 19 "VisitVans" "plan" "LVisitVans$Plan;", Cond.methodLink RX4 182 yX0_keep, Cond.instanceMethod yX0_keep, Cond.selects RX0 yX0_keep yX0_keep, Cond.code yX0_keep cX0_keep 1 none]
def wsX4_load_r3 : List Cond := [Cond.methodLink RX4 157 yX2_make, Cond.instanceMethod yX2_make, Cond.selects RX2 yX2_make yX2_make, Cond.initialized RX2, Cond.code yX2_make cX2_make 3 none, Cond.fieldLink RX2 27 "VisitVans$Road" "visitCount" "I", Cond.fieldLink RX2 33 "VisitVans$Plan" "visitCount" "I", Cond.fieldLink RX2 34 "VisitVans$Road" "vanCount" "I", Cond.fieldLink RX2 37 "VisitVans$Plan" "vanCount" "I", Cond.fieldLink RX2 9 "VisitVans$Plan" "order" "[I", Cond.methodLink RX2 38 yX2_sendVansHome, Cond.instanceMethod yX2_sendVansHome, Cond.selects RX2 yX2_sendVansHome yX2_sendVansHome, Cond.code yX2_sendVansHome cX2_sendVansHome 5 none, Cond.fieldLink RX2 18 "VisitVans$Plan" "drives" "[I", Cond.fieldLink RX2 21 "VisitVans$Plan" "left" "[I", Cond.methodLink RX2 65 yX3_vanFact, Cond.instanceMethod yX3_vanFact, Cond.selects RX3 yX3_vanFact yX3_vanFact, Cond.code yX3_vanFact cX3_vanFact 3 (some .int), Cond.methodLink RX2 68 yX3_partsOf, Cond.instanceMethod yX3_partsOf, Cond.selects RX3 yX3_partsOf yX3_partsOf, Cond.code yX3_partsOf cX3_partsOf 3 (some .int)]
def wsX4_load_r4 : List Cond := [Cond.methodLink RX2 42 yX2_orderByEnds, Cond.instanceMethod yX2_orderByEnds, Cond.selects RX2 yX2_orderByEnds yX2_orderByEnds, Cond.code yX2_orderByEnds cX2_orderByEnds 5 none, Cond.methodLink RX2 71 yX3_visitFact, Cond.instanceMethod yX3_visitFact, Cond.selects RX3 yX3_visitFact yX3_visitFact, Cond.code yX3_visitFact cX3_visitFact 3 (some .int), Cond.methodLink RX2 45 yX2_look, Cond.instanceMethod yX2_look, Cond.selects RX2 yX2_look yX2_look, Cond.code yX2_look cX2_look 8 none, Cond.fieldLink RX2 74 "VisitVans$Road" "settings" "[I", Cond.methodLink RX2 60 Lib.Math.max.name, Cond.static Lib.Math.max.name, Cond.initialized "java/lang/Math", Cond.code Lib.Math.max.name Lib.Math.max.code 2 (some .int), Cond.methodLink RX2 77 yX2_firstToBegin, Cond.instanceMethod yX2_firstToBegin, Cond.selects RX2 yX2_firstToBegin yX2_firstToBegin, Cond.code yX2_firstToBegin cX2_firstToBegin 10 (some .int), Cond.methodLink RX2 95 yX2_hasSkill, Cond.instanceMethod yX2_hasSkill, Cond.selects RX2 yX2_hasSkill yX2_hasSkill]
def wsX4_load_r5 : List Cond := [Cond.code yX2_hasSkill cX2_hasSkill 4 (some .boolean), Cond.methodLink RX2 99 yX2_hasParts, Cond.instanceMethod yX2_hasParts, Cond.selects RX2 yX2_hasParts yX2_hasParts, Cond.code yX2_hasParts cX2_hasParts 4 (some .boolean), Cond.methodLink RX2 102 yX2_partsLeft, Cond.instanceMethod yX2_partsLeft, Cond.selects RX2 yX2_partsLeft yX2_partsLeft, Cond.code yX2_partsLeft cX2_partsLeft 3 (some .int), Cond.methodLink RX2 89 yX2_comes, Cond.instanceMethod yX2_comes, Cond.selects RX2 yX2_comes yX2_comes, Cond.code yX2_comes cX2_comes 5 (some .int), Cond.methodLink RX2 105 Lib.Math.abs.name, Cond.static Lib.Math.abs.name, Cond.code Lib.Math.abs.name Lib.Math.abs.code 1 (some .int), Cond.methodLink RX2 57 yX2_driveFact, Cond.instanceMethod yX2_driveFact, Cond.selects RX2 yX2_driveFact yX2_driveFact, Cond.code yX2_driveFact cX2_driveFact 3 (some .int), Cond.methodLink RX2 81 yX2_reason, Cond.instanceMethod yX2_reason, Cond.selects RX2 yX2_reason yX2_reason, Cond.code yX2_reason cX2_reason 5 (some .int)]
def wsX4_load_r6 : List Cond := [Cond.methodLink RX2 85 yX2_putOutcome, Cond.instanceMethod yX2_putOutcome, Cond.selects RX2 yX2_putOutcome yX2_putOutcome, Cond.code yX2_putOutcome cX2_putOutcome 7 none, Cond.fieldLink RX2 15 "VisitVans$Plan" "outcomes" "[I", Cond.methodLink RX2 92 yX2_drive, Cond.instanceMethod yX2_drive, Cond.selects RX2 yX2_drive yX2_drive, Cond.code yX2_drive cX2_drive 9 none, Cond.methodLink RX2 49 yX2_outcome, Cond.instanceMethod yX2_outcome, Cond.selects RX2 yX2_outcome yX2_outcome, Cond.code yX2_outcome cX2_outcome 3 (some .int), Cond.methodLink RX2 108 yX2_addEvent, Cond.instanceMethod yX2_addEvent, Cond.selects RX2 yX2_addEvent yX2_addEvent, Cond.code yX2_addEvent cX2_addEvent 8 none, Cond.fieldLink RX2 24 "VisitVans$Plan" "events" "[I"]
def wsX4_load : List Cond := .code yX4_load cX4_load 4 (some .int) :: ((wsX4_load_r1 ++ (wsX4_load_r2 ++ (wsX4_load_r3 ++ (wsX4_load_r4 ++ (wsX4_load_r5 ++ wsX4_load_r6))))) ++ wsX40 ++ wsX00 ++ wsX30 ++ wsX20)
def wsX4_ofVisit : List Cond := .code yX4_ofVisit cX4_ofVisit 3 (some .int) :: ([.fieldLink RX4 12 "VisitVans" "road" "LVisitVans$Road;", .fieldLink RX4 19 "VisitVans" "plan" "LVisitVans$Plan;", .methodLink RX4 77 yX3_hasVisit, .instanceMethod yX3_hasVisit, .selects RX3 yX3_hasVisit yX3_hasVisit, .initialized RX3, .code yX3_hasVisit cX3_hasVisit 2 (some .boolean), .fieldLink RX3 38 "VisitVans$Road" "visitCount" "I", .methodLink RX4 81 yX4_within, .static yX4_within, .initialized RX4, .code yX4_within cX4_within 3 (some .boolean), .methodLink RX4 85 yX3_visitFact, .instanceMethod yX3_visitFact, .selects RX3 yX3_visitFact yX3_visitFact, .code yX3_visitFact cX3_visitFact 3 (some .int), .fieldLink RX3 23 "VisitVans$Road" "visits" "[I", .methodLink RX4 88 yX2_outcome, .instanceMethod yX2_outcome, .selects RX2 yX2_outcome yX2_outcome, .initialized RX2, .code yX2_outcome cX2_outcome 3 (some .int), .fieldLink RX2 15 "VisitVans$Plan" "outcomes" "[I"] ++ wsX40 ++ wsX30 ++ wsX20)
def wsX4_ofVan : List Cond := .code yX4_ofVan cX4_ofVan 3 (some .int) :: ([.fieldLink RX4 12 "VisitVans" "road" "LVisitVans$Road;", .fieldLink RX4 19 "VisitVans" "plan" "LVisitVans$Plan;", .methodLink RX4 91 yX3_hasVan, .instanceMethod yX3_hasVan, .selects RX3 yX3_hasVan yX3_hasVan, .initialized RX3, .code yX3_hasVan cX3_hasVan 2 (some .boolean), .fieldLink RX3 42 "VisitVans$Road" "vanCount" "I", .methodLink RX4 81 yX4_within, .static yX4_within, .initialized RX4, .code yX4_within cX4_within 3 (some .boolean), .methodLink RX4 94 yX3_vanFact, .instanceMethod yX3_vanFact, .selects RX3 yX3_vanFact yX3_vanFact, .code yX3_vanFact cX3_vanFact 3 (some .int), .fieldLink RX3 26 "VisitVans$Road" "vans" "[I", .methodLink RX4 97 yX2_driveFact, .instanceMethod yX2_driveFact, .selects RX2 yX2_driveFact yX2_driveFact, .initialized RX2, .code yX2_driveFact cX2_driveFact 3 (some .int), .fieldLink RX2 18 "VisitVans$Plan" "drives" "[I"] ++ wsX40 ++ wsX30 ++ wsX20)
def wsX4_stock_r1 : List Cond := [Cond.fieldLink RX4 12 "VisitVans" "road" "LVisitVans$Road;", Cond.fieldLink RX4 19 "VisitVans" "plan" "LVisitVans$Plan;", Cond.methodLink RX4 91 yX3_hasVan, Cond.instanceMethod yX3_hasVan, Cond.selects RX3 yX3_hasVan yX3_hasVan, Cond.initialized RX3, Cond.code yX3_hasVan cX3_hasVan 2 (some .boolean), Cond.fieldLink RX3 42 "VisitVans$Road" "vanCount" "I", Cond.methodLink RX4 100 yX4_isPart, Cond.static yX4_isPart, Cond.initialized RX4, Cond.code yX4_isPart cX4_isPart 1 (some .boolean), Cond.methodLink RX4 81 yX4_within, Cond.static yX4_within, Cond.code yX4_within cX4_within 3 (some .boolean), Cond.methodLink RX4 103 yX3_partsOf, Cond.instanceMethod yX3_partsOf, Cond.selects RX3 yX3_partsOf yX3_partsOf, Cond.code yX3_partsOf cX3_partsOf 3 (some .int), Cond.fieldLink RX3 29 "VisitVans$Road" "parts" "[I", Cond.methodLink RX4 106 yX2_partsLeft, Cond.instanceMethod yX2_partsLeft, Cond.selects RX2 yX2_partsLeft yX2_partsLeft, Cond.initialized RX2]
def wsX4_stock_r2 : List Cond := [Cond.code yX2_partsLeft cX2_partsLeft 3 (some .int), Cond.fieldLink RX2 21 "VisitVans$Plan" "left" "[I"]
def wsX4_stock : List Cond := .code yX4_stock cX4_stock 4 (some .int) :: ((wsX4_stock_r1 ++ wsX4_stock_r2) ++ wsX40 ++ wsX30 ++ wsX20)
def wsX4_event : List Cond := .code yX4_event cX4_event 4 (some .int) :: ([.fieldLink RX4 12 "VisitVans" "road" "LVisitVans$Road;", .fieldLink RX4 19 "VisitVans" "plan" "LVisitVans$Plan;", .methodLink RX4 91 yX3_hasVan, .instanceMethod yX3_hasVan, .selects RX3 yX3_hasVan yX3_hasVan, .initialized RX3, .code yX3_hasVan cX3_hasVan 2 (some .boolean), .fieldLink RX3 42 "VisitVans$Road" "vanCount" "I", .methodLink RX4 97 yX2_driveFact, .instanceMethod yX2_driveFact, .selects RX2 yX2_driveFact yX2_driveFact, .initialized RX2, .code yX2_driveFact cX2_driveFact 3 (some .int), .fieldLink RX2 18 "VisitVans$Plan" "drives" "[I", .methodLink RX4 81 yX4_within, .static yX4_within, .initialized RX4, .code yX4_within cX4_within 3 (some .boolean), .methodLink RX4 109 yX2_eventFact, .instanceMethod yX2_eventFact, .selects RX2 yX2_eventFact yX2_eventFact, .code yX2_eventFact cX2_eventFact 4 (some .int), .fieldLink RX2 24 "VisitVans$Plan" "events" "[I"] ++ wsX40 ++ wsX30 ++ wsX20)
def wsX4_count_r1 : List Cond := [Cond.fieldLink RX4 12 "VisitVans" "road" "LVisitVans$Road;", Cond.fieldLink RX4 112 "VisitVans$Road" "visitCount" "I", Cond.fieldLink RX4 116 "VisitVans$Road" "vanCount" "I", Cond.fieldLink RX4 19 "VisitVans" "plan" "LVisitVans$Plan;", Cond.fieldLink RX4 132 "VisitVans$Road" "settings" "[I", Cond.fieldLink RX4 47 "VisitVans" "pad" "LVisitVans$Pad;", Cond.fieldLink RX4 136 "VisitVans$Pad" "length" "I", Cond.fieldLink RX4 32 "VisitVans" "history" "LVisitVans$History;", Cond.fieldLink RX4 139 "VisitVans$History" "many" "I", Cond.methodLink RX4 119 yX2_promisesThatAre, Cond.instanceMethod yX2_promisesThatAre, Cond.selects RX2 yX2_promisesThatAre yX2_promisesThatAre, Cond.initialized RX2, Cond.code yX2_promisesThatAre cX2_promisesThatAre 4 (some .int), Cond.fieldLink RX2 33 "VisitVans$Plan" "visitCount" "I", Cond.methodLink RX2 49 yX2_outcome, Cond.instanceMethod yX2_outcome, Cond.selects RX2 yX2_outcome yX2_outcome, Cond.code yX2_outcome cX2_outcome 3 (some .int), Cond.fieldLink RX2 15 "VisitVans$Plan" "outcomes" "[I", Cond.methodLink RX4 122 yX2_visitsMade, Cond.instanceMethod yX2_visitsMade, Cond.selects RX2 yX2_visitsMade yX2_visitsMade, Cond.code yX2_visitsMade cX2_visitsMade 1 (some .int)]
def wsX4_count_r2 : List Cond := [Cond.methodLink RX2 53 yX2_promisesThatAre, Cond.methodLink RX4 126 yX2_sumOverVans, Cond.instanceMethod yX2_sumOverVans, Cond.selects RX2 yX2_sumOverVans yX2_sumOverVans, Cond.code yX2_sumOverVans cX2_sumOverVans 4 (some .int), Cond.fieldLink RX2 37 "VisitVans$Plan" "vanCount" "I", Cond.methodLink RX2 57 yX2_driveFact, Cond.instanceMethod yX2_driveFact, Cond.selects RX2 yX2_driveFact yX2_driveFact, Cond.code yX2_driveFact cX2_driveFact 3 (some .int), Cond.fieldLink RX2 18 "VisitVans$Plan" "drives" "[I", Cond.methodLink RX4 129 yX2_lastFree, Cond.instanceMethod yX2_lastFree, Cond.selects RX2 yX2_lastFree yX2_lastFree, Cond.code yX2_lastFree cX2_lastFree 3 (some .int), Cond.methodLink RX2 60 Lib.Math.max.name, Cond.static Lib.Math.max.name, Cond.initialized "java/lang/Math", Cond.code Lib.Math.max.name Lib.Math.max.code 2 (some .int)]
def wsX4_count : List Cond := .code yX4_count cX4_count 2 (some .int) :: ((wsX4_count_r1 ++ wsX4_count_r2) ++ wsX40 ++ wsX30 ++ wsX10 ++ wsX00 ++ wsX20)
def wsX4_wanted : List Cond := .code yX4_wanted cX4_wanted 4 (some .int) :: ([.fieldLink RX4 12 "VisitVans" "road" "LVisitVans$Road;", .fieldLink RX4 112 "VisitVans$Road" "visitCount" "I", .fieldLink RX4 19 "VisitVans" "plan" "LVisitVans$Plan;", .methodLink RX4 100 yX4_isPart, .static yX4_isPart, .initialized RX4, .code yX4_isPart cX4_isPart 1 (some .boolean), .methodLink RX4 81 yX4_within, .static yX4_within, .code yX4_within cX4_within 3 (some .boolean), .methodLink RX4 88 yX2_outcome, .instanceMethod yX2_outcome, .selects RX2 yX2_outcome yX2_outcome, .initialized RX2, .code yX2_outcome cX2_outcome 3 (some .int), .fieldLink RX2 15 "VisitVans$Plan" "outcomes" "[I", .methodLink RX4 85 yX3_visitFact, .instanceMethod yX3_visitFact, .selects RX3 yX3_visitFact yX3_visitFact, .initialized RX3, .code yX3_visitFact cX3_visitFact 3 (some .int), .fieldLink RX3 23 "VisitVans$Road" "visits" "[I"] ++ wsX40 ++ wsX30 ++ wsX20)
def wsX4_bitsOf : List Cond := .code yX4_bitsOf cX4_bitsOf 9 (some .long) :: ([.constantDouble RX4 205 (4611686018427387904)])
def wsX4_share : List Cond := .code yX4_share cX4_share 2 (some .int) :: ([.fieldLink RX4 12 "VisitVans" "road" "LVisitVans$Road;", .fieldLink RX4 112 "VisitVans$Road" "visitCount" "I", .fieldLink RX4 19 "VisitVans" "plan" "LVisitVans$Plan;", .methodLink RX4 122 yX2_visitsMade, .instanceMethod yX2_visitsMade, .selects RX2 yX2_visitsMade yX2_visitsMade, .initialized RX2, .code yX2_visitsMade cX2_visitsMade 1 (some .int), .methodLink RX2 53 yX2_promisesThatAre, .instanceMethod yX2_promisesThatAre, .selects RX2 yX2_promisesThatAre yX2_promisesThatAre, .code yX2_promisesThatAre cX2_promisesThatAre 4 (some .int), .fieldLink RX2 33 "VisitVans$Plan" "visitCount" "I", .methodLink RX2 49 yX2_outcome, .instanceMethod yX2_outcome, .selects RX2 yX2_outcome yX2_outcome, .code yX2_outcome cX2_outcome 3 (some .int), .fieldLink RX2 15 "VisitVans$Plan" "outcomes" "[I", .methodLink RX4 142 yX4_bitsOf, .static yX4_bitsOf, .initialized RX4, .code yX4_bitsOf cX4_bitsOf 9 (some .long), .constantDouble RX4 205 (4611686018427387904)] ++ wsX40 ++ wsX30 ++ wsX20)
def wsX4_meanWay_r1 : List Cond := [Cond.constantLong RX4 146 (-2), Cond.fieldLink RX4 19 "VisitVans" "plan" "LVisitVans$Plan;", Cond.methodLink RX4 122 yX2_visitsMade, Cond.instanceMethod yX2_visitsMade, Cond.selects RX2 yX2_visitsMade yX2_visitsMade, Cond.initialized RX2, Cond.code yX2_visitsMade cX2_visitsMade 1 (some .int), Cond.methodLink RX2 53 yX2_promisesThatAre, Cond.instanceMethod yX2_promisesThatAre, Cond.selects RX2 yX2_promisesThatAre yX2_promisesThatAre, Cond.code yX2_promisesThatAre cX2_promisesThatAre 4 (some .int), Cond.fieldLink RX2 33 "VisitVans$Plan" "visitCount" "I", Cond.methodLink RX2 49 yX2_outcome, Cond.instanceMethod yX2_outcome, Cond.selects RX2 yX2_outcome yX2_outcome, Cond.code yX2_outcome cX2_outcome 3 (some .int), Cond.fieldLink RX2 15 "VisitVans$Plan" "outcomes" "[I", Cond.methodLink RX4 126 yX2_sumOverVans, Cond.instanceMethod yX2_sumOverVans, Cond.selects RX2 yX2_sumOverVans yX2_sumOverVans, Cond.code yX2_sumOverVans cX2_sumOverVans 4 (some .int), Cond.fieldLink RX2 37 "VisitVans$Plan" "vanCount" "I", Cond.methodLink RX2 57 yX2_driveFact, Cond.instanceMethod yX2_driveFact]
def wsX4_meanWay_r2 : List Cond := [Cond.selects RX2 yX2_driveFact yX2_driveFact, Cond.code yX2_driveFact cX2_driveFact 3 (some .int), Cond.fieldLink RX2 18 "VisitVans$Plan" "drives" "[I", Cond.methodLink RX4 142 yX4_bitsOf, Cond.static yX4_bitsOf, Cond.initialized RX4, Cond.code yX4_bitsOf cX4_bitsOf 9 (some .long), Cond.constantDouble RX4 205 (4611686018427387904)]
def wsX4_meanWay : List Cond := .code yX4_meanWay cX4_meanWay 7 (some .long) :: ((wsX4_meanWay_r1 ++ wsX4_meanWay_r2) ++ wsX40 ++ wsX20)
def wsX4_would_r1 : List Cond := [Cond.fieldLink RX4 23 "VisitVans" "trialRoad" "LVisitVans$Road;", Cond.fieldLink RX4 12 "VisitVans" "road" "LVisitVans$Road;", Cond.fieldLink RX4 26 "VisitVans" "trialPlan" "LVisitVans$Plan;", Cond.methodLink RX4 148 yX4_visitError, Cond.static yX4_visitError, Cond.initialized RX4, Cond.code yX4_visitError cX4_visitError 6 (some .int), Cond.methodLink RX4 81 yX4_within, Cond.static yX4_within, Cond.code yX4_within cX4_within 3 (some .boolean), Cond.methodLink RX4 100 yX4_isPart, Cond.static yX4_isPart, Cond.code yX4_isPart cX4_isPart 1 (some .boolean), Cond.methodLink RX4 151 yX3_copyFrom, Cond.instanceMethod yX3_copyFrom, Cond.selects RX3 yX3_copyFrom yX3_copyFrom, Cond.initialized RX3, Cond.code yX3_copyFrom cX3_copyFrom 2 none, Cond.fieldLink RX3 18 "VisitVans$Road" "settings" "[I", Cond.methodLink RX3 32 arraycopyName, Cond.native arraycopyName, Cond.static arraycopyName, Cond.initialized "java/lang/System", Cond.fieldLink RX3 23 "VisitVans$Road" "visits" "[I"]
def wsX4_would_r2 : List Cond := [Cond.fieldLink RX3 26 "VisitVans$Road" "vans" "[I", Cond.fieldLink RX3 29 "VisitVans$Road" "parts" "[I", Cond.fieldLink RX3 38 "VisitVans$Road" "visitCount" "I", Cond.fieldLink RX3 42 "VisitVans$Road" "vanCount" "I", Cond.methodLink RX4 154 yX3_putVisit, Cond.instanceMethod yX3_putVisit, Cond.selects RX3 yX3_putVisit yX3_putVisit, Cond.code yX3_putVisit cX3_putVisit 8 (some .int), Cond.methodLink RX4 157 yX2_make, Cond.instanceMethod yX2_make, Cond.selects RX2 yX2_make yX2_make, Cond.initialized RX2, Cond.code yX2_make cX2_make 3 none, Cond.fieldLink RX2 27 "VisitVans$Road" "visitCount" "I", Cond.fieldLink RX2 33 "VisitVans$Plan" "visitCount" "I", Cond.fieldLink RX2 34 "VisitVans$Road" "vanCount" "I", Cond.fieldLink RX2 37 "VisitVans$Plan" "vanCount" "I", Cond.fieldLink RX2 9 "VisitVans$Plan" "order" "[I", Cond.methodLink RX2 38 yX2_sendVansHome, Cond.instanceMethod yX2_sendVansHome, Cond.selects RX2 yX2_sendVansHome yX2_sendVansHome, Cond.code yX2_sendVansHome cX2_sendVansHome 5 none, Cond.fieldLink RX2 18 "VisitVans$Plan" "drives" "[I", Cond.fieldLink RX2 21 "VisitVans$Plan" "left" "[I"]
def wsX4_would_r3 : List Cond := [Cond.methodLink RX2 65 yX3_vanFact, Cond.instanceMethod yX3_vanFact, Cond.selects RX3 yX3_vanFact yX3_vanFact, Cond.code yX3_vanFact cX3_vanFact 3 (some .int), Cond.methodLink RX2 68 yX3_partsOf, Cond.instanceMethod yX3_partsOf, Cond.selects RX3 yX3_partsOf yX3_partsOf, Cond.code yX3_partsOf cX3_partsOf 3 (some .int), Cond.methodLink RX2 42 yX2_orderByEnds, Cond.instanceMethod yX2_orderByEnds, Cond.selects RX2 yX2_orderByEnds yX2_orderByEnds, Cond.code yX2_orderByEnds cX2_orderByEnds 5 none, Cond.methodLink RX2 71 yX3_visitFact, Cond.instanceMethod yX3_visitFact, Cond.selects RX3 yX3_visitFact yX3_visitFact, Cond.code yX3_visitFact cX3_visitFact 3 (some .int), Cond.methodLink RX2 45 yX2_look, Cond.instanceMethod yX2_look, Cond.selects RX2 yX2_look yX2_look, Cond.code yX2_look cX2_look 8 none, Cond.fieldLink RX2 74 "VisitVans$Road" "settings" "[I", Cond.methodLink RX2 60 Lib.Math.max.name, Cond.static Lib.Math.max.name, Cond.initialized "java/lang/Math"]
def wsX4_would_r4 : List Cond := [Cond.code Lib.Math.max.name Lib.Math.max.code 2 (some .int), Cond.methodLink RX2 77 yX2_firstToBegin, Cond.instanceMethod yX2_firstToBegin, Cond.selects RX2 yX2_firstToBegin yX2_firstToBegin, Cond.code yX2_firstToBegin cX2_firstToBegin 10 (some .int), Cond.methodLink RX2 95 yX2_hasSkill, Cond.instanceMethod yX2_hasSkill, Cond.selects RX2 yX2_hasSkill yX2_hasSkill, Cond.code yX2_hasSkill cX2_hasSkill 4 (some .boolean), Cond.methodLink RX2 99 yX2_hasParts, Cond.instanceMethod yX2_hasParts, Cond.selects RX2 yX2_hasParts yX2_hasParts, Cond.code yX2_hasParts cX2_hasParts 4 (some .boolean), Cond.methodLink RX2 102 yX2_partsLeft, Cond.instanceMethod yX2_partsLeft, Cond.selects RX2 yX2_partsLeft yX2_partsLeft, Cond.code yX2_partsLeft cX2_partsLeft 3 (some .int), Cond.methodLink RX2 89 yX2_comes, Cond.instanceMethod yX2_comes, Cond.selects RX2 yX2_comes yX2_comes, Cond.code yX2_comes cX2_comes 5 (some .int), Cond.methodLink RX2 105 Lib.Math.abs.name, Cond.static Lib.Math.abs.name, Cond.code Lib.Math.abs.name Lib.Math.abs.code 1 (some .int)]
def wsX4_would_r5 : List Cond := [Cond.methodLink RX2 57 yX2_driveFact, Cond.instanceMethod yX2_driveFact, Cond.selects RX2 yX2_driveFact yX2_driveFact, Cond.code yX2_driveFact cX2_driveFact 3 (some .int), Cond.methodLink RX2 81 yX2_reason, Cond.instanceMethod yX2_reason, Cond.selects RX2 yX2_reason yX2_reason, Cond.code yX2_reason cX2_reason 5 (some .int), Cond.methodLink RX2 85 yX2_putOutcome, Cond.instanceMethod yX2_putOutcome, Cond.selects RX2 yX2_putOutcome yX2_putOutcome, Cond.code yX2_putOutcome cX2_putOutcome 7 none, Cond.fieldLink RX2 15 "VisitVans$Plan" "outcomes" "[I", Cond.methodLink RX2 92 yX2_drive, Cond.instanceMethod yX2_drive, Cond.selects RX2 yX2_drive yX2_drive, Cond.code yX2_drive cX2_drive 9 none, Cond.methodLink RX2 49 yX2_outcome, Cond.instanceMethod yX2_outcome, Cond.selects RX2 yX2_outcome yX2_outcome, Cond.code yX2_outcome cX2_outcome 3 (some .int), Cond.methodLink RX2 108 yX2_addEvent, Cond.instanceMethod yX2_addEvent, Cond.selects RX2 yX2_addEvent yX2_addEvent]
def wsX4_would_r6 : List Cond := [Cond.code yX2_addEvent cX2_addEvent 8 none, Cond.fieldLink RX2 24 "VisitVans$Plan" "events" "[I", Cond.methodLink RX4 88 yX2_outcome]
def wsX4_would : List Cond := .code yX4_would cX4_would 9 (some .int) :: ((wsX4_would_r1 ++ (wsX4_would_r2 ++ (wsX4_would_r3 ++ (wsX4_would_r4 ++ (wsX4_would_r5 ++ wsX4_would_r6))))) ++ wsX40 ++ wsX30 ++ wsX20)
def wsX4_withVan_r1 : List Cond := [Cond.fieldLink RX4 23 "VisitVans" "trialRoad" "LVisitVans$Road;", Cond.fieldLink RX4 12 "VisitVans" "road" "LVisitVans$Road;", Cond.fieldLink RX4 26 "VisitVans" "trialPlan" "LVisitVans$Plan;", Cond.methodLink RX4 151 yX3_copyFrom, Cond.instanceMethod yX3_copyFrom, Cond.selects RX3 yX3_copyFrom yX3_copyFrom, Cond.initialized RX3, Cond.code yX3_copyFrom cX3_copyFrom 2 none, Cond.fieldLink RX3 18 "VisitVans$Road" "settings" "[I", Cond.methodLink RX3 32 arraycopyName, Cond.native arraycopyName, Cond.static arraycopyName, Cond.initialized "java/lang/System", Cond.fieldLink RX3 23 "VisitVans$Road" "visits" "[I", Cond.fieldLink RX3 26 "VisitVans$Road" "vans" "[I", Cond.fieldLink RX3 29 "VisitVans$Road" "parts" "[I", Cond.fieldLink RX3 38 "VisitVans$Road" "visitCount" "I", Cond.fieldLink RX3 42 "VisitVans$Road" "vanCount" "I", Cond.methodLink RX4 70 yX3_addVan, Cond.instanceMethod yX3_addVan, Cond.selects RX3 yX3_addVan yX3_addVan, Cond.code yX3_addVan cX3_addVan 3 (some .int), Cond.static yX4_within, Cond.initialized RX4]
def wsX4_withVan_r2 : List Cond := [Cond.code yX4_within cX4_within 3 (some .boolean), Cond.methodLink RX4 73 yX3_changeStock, Cond.instanceMethod yX3_changeStock, Cond.selects RX3 yX3_changeStock yX3_changeStock, Cond.code yX3_changeStock cX3_changeStock 5 (some .int), Cond.methodLink RX3 66 yX3_hasVan, Cond.instanceMethod yX3_hasVan, Cond.selects RX3 yX3_hasVan yX3_hasVan, Cond.code yX3_hasVan cX3_hasVan 2 (some .boolean), Cond.static yX4_isPart, Cond.code yX4_isPart cX4_isPart 1 (some .boolean), Cond.methodLink RX4 81 yX4_within, Cond.methodLink RX4 157 yX2_make, Cond.instanceMethod yX2_make, Cond.selects RX2 yX2_make yX2_make, Cond.initialized RX2, Cond.code yX2_make cX2_make 3 none, Cond.fieldLink RX2 27 "VisitVans$Road" "visitCount" "I", Cond.fieldLink RX2 33 "VisitVans$Plan" "visitCount" "I", Cond.fieldLink RX2 34 "VisitVans$Road" "vanCount" "I", Cond.fieldLink RX2 37 "VisitVans$Plan" "vanCount" "I", Cond.fieldLink RX2 9 "VisitVans$Plan" "order" "[I", Cond.methodLink RX2 38 yX2_sendVansHome, Cond.instanceMethod yX2_sendVansHome]
def wsX4_withVan_r3 : List Cond := [Cond.selects RX2 yX2_sendVansHome yX2_sendVansHome, Cond.code yX2_sendVansHome cX2_sendVansHome 5 none, Cond.fieldLink RX2 18 "VisitVans$Plan" "drives" "[I", Cond.fieldLink RX2 21 "VisitVans$Plan" "left" "[I", Cond.methodLink RX2 65 yX3_vanFact, Cond.instanceMethod yX3_vanFact, Cond.selects RX3 yX3_vanFact yX3_vanFact, Cond.code yX3_vanFact cX3_vanFact 3 (some .int), Cond.methodLink RX2 68 yX3_partsOf, Cond.instanceMethod yX3_partsOf, Cond.selects RX3 yX3_partsOf yX3_partsOf, Cond.code yX3_partsOf cX3_partsOf 3 (some .int), Cond.methodLink RX2 42 yX2_orderByEnds, Cond.instanceMethod yX2_orderByEnds, Cond.selects RX2 yX2_orderByEnds yX2_orderByEnds, Cond.code yX2_orderByEnds cX2_orderByEnds 5 none, Cond.methodLink RX2 71 yX3_visitFact, Cond.instanceMethod yX3_visitFact, Cond.selects RX3 yX3_visitFact yX3_visitFact, Cond.code yX3_visitFact cX3_visitFact 3 (some .int), Cond.methodLink RX2 45 yX2_look, Cond.instanceMethod yX2_look, Cond.selects RX2 yX2_look yX2_look, Cond.code yX2_look cX2_look 8 none]
def wsX4_withVan_r4 : List Cond := [Cond.fieldLink RX2 74 "VisitVans$Road" "settings" "[I", Cond.methodLink RX2 60 Lib.Math.max.name, Cond.static Lib.Math.max.name, Cond.initialized "java/lang/Math", Cond.code Lib.Math.max.name Lib.Math.max.code 2 (some .int), Cond.methodLink RX2 77 yX2_firstToBegin, Cond.instanceMethod yX2_firstToBegin, Cond.selects RX2 yX2_firstToBegin yX2_firstToBegin, Cond.code yX2_firstToBegin cX2_firstToBegin 10 (some .int), Cond.methodLink RX2 95 yX2_hasSkill, Cond.instanceMethod yX2_hasSkill, Cond.selects RX2 yX2_hasSkill yX2_hasSkill, Cond.code yX2_hasSkill cX2_hasSkill 4 (some .boolean), Cond.methodLink RX2 99 yX2_hasParts, Cond.instanceMethod yX2_hasParts, Cond.selects RX2 yX2_hasParts yX2_hasParts, Cond.code yX2_hasParts cX2_hasParts 4 (some .boolean), Cond.methodLink RX2 102 yX2_partsLeft, Cond.instanceMethod yX2_partsLeft, Cond.selects RX2 yX2_partsLeft yX2_partsLeft, Cond.code yX2_partsLeft cX2_partsLeft 3 (some .int), Cond.methodLink RX2 89 yX2_comes, Cond.instanceMethod yX2_comes, Cond.selects RX2 yX2_comes yX2_comes]
def wsX4_withVan_r5 : List Cond := [Cond.code yX2_comes cX2_comes 5 (some .int), Cond.methodLink RX2 105 Lib.Math.abs.name, Cond.static Lib.Math.abs.name, Cond.code Lib.Math.abs.name Lib.Math.abs.code 1 (some .int), Cond.methodLink RX2 57 yX2_driveFact, Cond.instanceMethod yX2_driveFact, Cond.selects RX2 yX2_driveFact yX2_driveFact, Cond.code yX2_driveFact cX2_driveFact 3 (some .int), Cond.methodLink RX2 81 yX2_reason, Cond.instanceMethod yX2_reason, Cond.selects RX2 yX2_reason yX2_reason, Cond.code yX2_reason cX2_reason 5 (some .int), Cond.methodLink RX2 85 yX2_putOutcome, Cond.instanceMethod yX2_putOutcome, Cond.selects RX2 yX2_putOutcome yX2_putOutcome, Cond.code yX2_putOutcome cX2_putOutcome 7 none, Cond.fieldLink RX2 15 "VisitVans$Plan" "outcomes" "[I", Cond.methodLink RX2 92 yX2_drive, Cond.instanceMethod yX2_drive, Cond.selects RX2 yX2_drive yX2_drive, Cond.code yX2_drive cX2_drive 9 none, Cond.methodLink RX2 49 yX2_outcome, Cond.instanceMethod yX2_outcome, Cond.selects RX2 yX2_outcome yX2_outcome]
def wsX4_withVan_r6 : List Cond := [Cond.code yX2_outcome cX2_outcome 3 (some .int), Cond.methodLink RX2 108 yX2_addEvent, Cond.instanceMethod yX2_addEvent, Cond.selects RX2 yX2_addEvent yX2_addEvent, Cond.code yX2_addEvent cX2_addEvent 8 none, Cond.fieldLink RX2 24 "VisitVans$Plan" "events" "[I", Cond.methodLink RX4 122 yX2_visitsMade, Cond.instanceMethod yX2_visitsMade, Cond.selects RX2 yX2_visitsMade yX2_visitsMade, Cond.code yX2_visitsMade cX2_visitsMade 1 (some .int), Cond.methodLink RX2 53 yX2_promisesThatAre, Cond.instanceMethod yX2_promisesThatAre, Cond.selects RX2 yX2_promisesThatAre yX2_promisesThatAre, Cond.code yX2_promisesThatAre cX2_promisesThatAre 4 (some .int)]
def wsX4_withVan : List Cond := .code yX4_withVan cX4_withVan 5 (some .int) :: ((wsX4_withVan_r1 ++ (wsX4_withVan_r2 ++ (wsX4_withVan_r3 ++ (wsX4_withVan_r4 ++ (wsX4_withVan_r5 ++ wsX4_withVan_r6))))) ++ wsX40 ++ wsX30 ++ wsX20)
def wsX4_madeAtPace_r1 : List Cond := [Cond.fieldLink RX4 23 "VisitVans" "trialRoad" "LVisitVans$Road;", Cond.fieldLink RX4 12 "VisitVans" "road" "LVisitVans$Road;", Cond.fieldLink RX4 26 "VisitVans" "trialPlan" "LVisitVans$Plan;", Cond.methodLink RX4 151 yX3_copyFrom, Cond.instanceMethod yX3_copyFrom, Cond.selects RX3 yX3_copyFrom yX3_copyFrom, Cond.initialized RX3, Cond.code yX3_copyFrom cX3_copyFrom 2 none, Cond.fieldLink RX3 18 "VisitVans$Road" "settings" "[I", Cond.methodLink RX3 32 arraycopyName, Cond.native arraycopyName, Cond.static arraycopyName, Cond.initialized "java/lang/System", Cond.fieldLink RX3 23 "VisitVans$Road" "visits" "[I", Cond.fieldLink RX3 26 "VisitVans$Road" "vans" "[I", Cond.fieldLink RX3 29 "VisitVans$Road" "parts" "[I", Cond.fieldLink RX3 38 "VisitVans$Road" "visitCount" "I", Cond.fieldLink RX3 42 "VisitVans$Road" "vanCount" "I", Cond.methodLink RX4 55 yX3_changeSetting, Cond.instanceMethod yX3_changeSetting, Cond.selects RX3 yX3_changeSetting yX3_changeSetting, Cond.code yX3_changeSetting cX3_changeSetting 4 (some .int), Cond.static yX4_within, Cond.initialized RX4]
def wsX4_madeAtPace_r2 : List Cond := [Cond.code yX4_within cX4_within 3 (some .boolean), Cond.methodLink RX4 157 yX2_make, Cond.instanceMethod yX2_make, Cond.selects RX2 yX2_make yX2_make, Cond.initialized RX2, Cond.code yX2_make cX2_make 3 none, Cond.fieldLink RX2 27 "VisitVans$Road" "visitCount" "I", Cond.fieldLink RX2 33 "VisitVans$Plan" "visitCount" "I", Cond.fieldLink RX2 34 "VisitVans$Road" "vanCount" "I", Cond.fieldLink RX2 37 "VisitVans$Plan" "vanCount" "I", Cond.fieldLink RX2 9 "VisitVans$Plan" "order" "[I", Cond.methodLink RX2 38 yX2_sendVansHome, Cond.instanceMethod yX2_sendVansHome, Cond.selects RX2 yX2_sendVansHome yX2_sendVansHome, Cond.code yX2_sendVansHome cX2_sendVansHome 5 none, Cond.fieldLink RX2 18 "VisitVans$Plan" "drives" "[I", Cond.fieldLink RX2 21 "VisitVans$Plan" "left" "[I", Cond.methodLink RX2 65 yX3_vanFact, Cond.instanceMethod yX3_vanFact, Cond.selects RX3 yX3_vanFact yX3_vanFact, Cond.code yX3_vanFact cX3_vanFact 3 (some .int), Cond.methodLink RX2 68 yX3_partsOf, Cond.instanceMethod yX3_partsOf, Cond.selects RX3 yX3_partsOf yX3_partsOf]
def wsX4_madeAtPace_r3 : List Cond := [Cond.code yX3_partsOf cX3_partsOf 3 (some .int), Cond.methodLink RX2 42 yX2_orderByEnds, Cond.instanceMethod yX2_orderByEnds, Cond.selects RX2 yX2_orderByEnds yX2_orderByEnds, Cond.code yX2_orderByEnds cX2_orderByEnds 5 none, Cond.methodLink RX2 71 yX3_visitFact, Cond.instanceMethod yX3_visitFact, Cond.selects RX3 yX3_visitFact yX3_visitFact, Cond.code yX3_visitFact cX3_visitFact 3 (some .int), Cond.methodLink RX2 45 yX2_look, Cond.instanceMethod yX2_look, Cond.selects RX2 yX2_look yX2_look, Cond.code yX2_look cX2_look 8 none, Cond.fieldLink RX2 74 "VisitVans$Road" "settings" "[I", Cond.methodLink RX2 60 Lib.Math.max.name, Cond.static Lib.Math.max.name, Cond.initialized "java/lang/Math", Cond.code Lib.Math.max.name Lib.Math.max.code 2 (some .int), Cond.methodLink RX2 77 yX2_firstToBegin, Cond.instanceMethod yX2_firstToBegin, Cond.selects RX2 yX2_firstToBegin yX2_firstToBegin, Cond.code yX2_firstToBegin cX2_firstToBegin 10 (some .int), Cond.methodLink RX2 95 yX2_hasSkill, Cond.instanceMethod yX2_hasSkill]
def wsX4_madeAtPace_r4 : List Cond := [Cond.selects RX2 yX2_hasSkill yX2_hasSkill, Cond.code yX2_hasSkill cX2_hasSkill 4 (some .boolean), Cond.methodLink RX2 99 yX2_hasParts, Cond.instanceMethod yX2_hasParts, Cond.selects RX2 yX2_hasParts yX2_hasParts, Cond.code yX2_hasParts cX2_hasParts 4 (some .boolean), Cond.methodLink RX2 102 yX2_partsLeft, Cond.instanceMethod yX2_partsLeft, Cond.selects RX2 yX2_partsLeft yX2_partsLeft, Cond.code yX2_partsLeft cX2_partsLeft 3 (some .int), Cond.methodLink RX2 89 yX2_comes, Cond.instanceMethod yX2_comes, Cond.selects RX2 yX2_comes yX2_comes, Cond.code yX2_comes cX2_comes 5 (some .int), Cond.methodLink RX2 105 Lib.Math.abs.name, Cond.static Lib.Math.abs.name, Cond.code Lib.Math.abs.name Lib.Math.abs.code 1 (some .int), Cond.methodLink RX2 57 yX2_driveFact, Cond.instanceMethod yX2_driveFact, Cond.selects RX2 yX2_driveFact yX2_driveFact, Cond.code yX2_driveFact cX2_driveFact 3 (some .int), Cond.methodLink RX2 81 yX2_reason, Cond.instanceMethod yX2_reason, Cond.selects RX2 yX2_reason yX2_reason]
def wsX4_madeAtPace_r5 : List Cond := [Cond.code yX2_reason cX2_reason 5 (some .int), Cond.methodLink RX2 85 yX2_putOutcome, Cond.instanceMethod yX2_putOutcome, Cond.selects RX2 yX2_putOutcome yX2_putOutcome, Cond.code yX2_putOutcome cX2_putOutcome 7 none, Cond.fieldLink RX2 15 "VisitVans$Plan" "outcomes" "[I", Cond.methodLink RX2 92 yX2_drive, Cond.instanceMethod yX2_drive, Cond.selects RX2 yX2_drive yX2_drive, Cond.code yX2_drive cX2_drive 9 none, Cond.methodLink RX2 49 yX2_outcome, Cond.instanceMethod yX2_outcome, Cond.selects RX2 yX2_outcome yX2_outcome, Cond.code yX2_outcome cX2_outcome 3 (some .int), Cond.methodLink RX2 108 yX2_addEvent, Cond.instanceMethod yX2_addEvent, Cond.selects RX2 yX2_addEvent yX2_addEvent, Cond.code yX2_addEvent cX2_addEvent 8 none, Cond.fieldLink RX2 24 "VisitVans$Plan" "events" "[I", Cond.methodLink RX4 122 yX2_visitsMade, Cond.instanceMethod yX2_visitsMade, Cond.selects RX2 yX2_visitsMade yX2_visitsMade, Cond.code yX2_visitsMade cX2_visitsMade 1 (some .int), Cond.methodLink RX2 53 yX2_promisesThatAre]
def wsX4_madeAtPace_r6 : List Cond := [Cond.instanceMethod yX2_promisesThatAre, Cond.selects RX2 yX2_promisesThatAre yX2_promisesThatAre, Cond.code yX2_promisesThatAre cX2_promisesThatAre 4 (some .int)]
def wsX4_madeAtPace : List Cond := .code yX4_madeAtPace cX4_madeAtPace 2 (some .int) :: ((wsX4_madeAtPace_r1 ++ (wsX4_madeAtPace_r2 ++ (wsX4_madeAtPace_r3 ++ (wsX4_madeAtPace_r4 ++ (wsX4_madeAtPace_r5 ++ wsX4_madeAtPace_r6))))) ++ wsX40 ++ wsX30 ++ wsX20)
def wsX4_slowest_r1 : List Cond := [Cond.fieldLink RX4 160 "VisitVans" "LEAST_SETTING" "[I", Cond.fieldLink RX4 166 "VisitVans" "MOST_SETTING" "[I", Cond.methodLink RX4 163 yX4_madeAtPace, Cond.instanceMethod yX4_madeAtPace, Cond.selects RX4 yX4_madeAtPace yX4_madeAtPace, Cond.initialized RX4, Cond.code yX4_madeAtPace cX4_madeAtPace 2 (some .int), Cond.fieldLink RX4 23 "VisitVans" "trialRoad" "LVisitVans$Road;", Cond.fieldLink RX4 12 "VisitVans" "road" "LVisitVans$Road;", Cond.fieldLink RX4 26 "VisitVans" "trialPlan" "LVisitVans$Plan;", Cond.methodLink RX4 151 yX3_copyFrom, Cond.instanceMethod yX3_copyFrom, Cond.selects RX3 yX3_copyFrom yX3_copyFrom, Cond.initialized RX3, Cond.code yX3_copyFrom cX3_copyFrom 2 none, Cond.fieldLink RX3 18 "VisitVans$Road" "settings" "[I", Cond.methodLink RX3 32 arraycopyName, Cond.native arraycopyName, Cond.static arraycopyName, Cond.initialized "java/lang/System", Cond.fieldLink RX3 23 "VisitVans$Road" "visits" "[I", Cond.fieldLink RX3 26 "VisitVans$Road" "vans" "[I", Cond.fieldLink RX3 29 "VisitVans$Road" "parts" "[I", Cond.fieldLink RX3 38 "VisitVans$Road" "visitCount" "I"]
def wsX4_slowest_r2 : List Cond := [Cond.fieldLink RX3 42 "VisitVans$Road" "vanCount" "I", Cond.methodLink RX4 55 yX3_changeSetting, Cond.instanceMethod yX3_changeSetting, Cond.selects RX3 yX3_changeSetting yX3_changeSetting, Cond.code yX3_changeSetting cX3_changeSetting 4 (some .int), Cond.static yX4_within, Cond.code yX4_within cX4_within 3 (some .boolean), Cond.methodLink RX4 157 yX2_make, Cond.instanceMethod yX2_make, Cond.selects RX2 yX2_make yX2_make, Cond.initialized RX2, Cond.code yX2_make cX2_make 3 none, Cond.fieldLink RX2 27 "VisitVans$Road" "visitCount" "I", Cond.fieldLink RX2 33 "VisitVans$Plan" "visitCount" "I", Cond.fieldLink RX2 34 "VisitVans$Road" "vanCount" "I", Cond.fieldLink RX2 37 "VisitVans$Plan" "vanCount" "I", Cond.fieldLink RX2 9 "VisitVans$Plan" "order" "[I", Cond.methodLink RX2 38 yX2_sendVansHome, Cond.instanceMethod yX2_sendVansHome, Cond.selects RX2 yX2_sendVansHome yX2_sendVansHome, Cond.code yX2_sendVansHome cX2_sendVansHome 5 none, Cond.fieldLink RX2 18 "VisitVans$Plan" "drives" "[I", Cond.fieldLink RX2 21 "VisitVans$Plan" "left" "[I", Cond.methodLink RX2 65 yX3_vanFact]
def wsX4_slowest_r3 : List Cond := [Cond.instanceMethod yX3_vanFact, Cond.selects RX3 yX3_vanFact yX3_vanFact, Cond.code yX3_vanFact cX3_vanFact 3 (some .int), Cond.methodLink RX2 68 yX3_partsOf, Cond.instanceMethod yX3_partsOf, Cond.selects RX3 yX3_partsOf yX3_partsOf, Cond.code yX3_partsOf cX3_partsOf 3 (some .int), Cond.methodLink RX2 42 yX2_orderByEnds, Cond.instanceMethod yX2_orderByEnds, Cond.selects RX2 yX2_orderByEnds yX2_orderByEnds, Cond.code yX2_orderByEnds cX2_orderByEnds 5 none, Cond.methodLink RX2 71 yX3_visitFact, Cond.instanceMethod yX3_visitFact, Cond.selects RX3 yX3_visitFact yX3_visitFact, Cond.code yX3_visitFact cX3_visitFact 3 (some .int), Cond.methodLink RX2 45 yX2_look, Cond.instanceMethod yX2_look, Cond.selects RX2 yX2_look yX2_look, Cond.code yX2_look cX2_look 8 none, Cond.fieldLink RX2 74 "VisitVans$Road" "settings" "[I", Cond.methodLink RX2 60 Lib.Math.max.name, Cond.static Lib.Math.max.name, Cond.initialized "java/lang/Math", Cond.code Lib.Math.max.name Lib.Math.max.code 2 (some .int)]
def wsX4_slowest_r4 : List Cond := [Cond.methodLink RX2 77 yX2_firstToBegin, Cond.instanceMethod yX2_firstToBegin, Cond.selects RX2 yX2_firstToBegin yX2_firstToBegin, Cond.code yX2_firstToBegin cX2_firstToBegin 10 (some .int), Cond.methodLink RX2 95 yX2_hasSkill, Cond.instanceMethod yX2_hasSkill, Cond.selects RX2 yX2_hasSkill yX2_hasSkill, Cond.code yX2_hasSkill cX2_hasSkill 4 (some .boolean), Cond.methodLink RX2 99 yX2_hasParts, Cond.instanceMethod yX2_hasParts, Cond.selects RX2 yX2_hasParts yX2_hasParts, Cond.code yX2_hasParts cX2_hasParts 4 (some .boolean), Cond.methodLink RX2 102 yX2_partsLeft, Cond.instanceMethod yX2_partsLeft, Cond.selects RX2 yX2_partsLeft yX2_partsLeft, Cond.code yX2_partsLeft cX2_partsLeft 3 (some .int), Cond.methodLink RX2 89 yX2_comes, Cond.instanceMethod yX2_comes, Cond.selects RX2 yX2_comes yX2_comes, Cond.code yX2_comes cX2_comes 5 (some .int), Cond.methodLink RX2 105 Lib.Math.abs.name, Cond.static Lib.Math.abs.name, Cond.code Lib.Math.abs.name Lib.Math.abs.code 1 (some .int), Cond.methodLink RX2 57 yX2_driveFact]
def wsX4_slowest_r5 : List Cond := [Cond.instanceMethod yX2_driveFact, Cond.selects RX2 yX2_driveFact yX2_driveFact, Cond.code yX2_driveFact cX2_driveFact 3 (some .int), Cond.methodLink RX2 81 yX2_reason, Cond.instanceMethod yX2_reason, Cond.selects RX2 yX2_reason yX2_reason, Cond.code yX2_reason cX2_reason 5 (some .int), Cond.methodLink RX2 85 yX2_putOutcome, Cond.instanceMethod yX2_putOutcome, Cond.selects RX2 yX2_putOutcome yX2_putOutcome, Cond.code yX2_putOutcome cX2_putOutcome 7 none, Cond.fieldLink RX2 15 "VisitVans$Plan" "outcomes" "[I", Cond.methodLink RX2 92 yX2_drive, Cond.instanceMethod yX2_drive, Cond.selects RX2 yX2_drive yX2_drive, Cond.code yX2_drive cX2_drive 9 none, Cond.methodLink RX2 49 yX2_outcome, Cond.instanceMethod yX2_outcome, Cond.selects RX2 yX2_outcome yX2_outcome, Cond.code yX2_outcome cX2_outcome 3 (some .int), Cond.methodLink RX2 108 yX2_addEvent, Cond.instanceMethod yX2_addEvent, Cond.selects RX2 yX2_addEvent yX2_addEvent, Cond.code yX2_addEvent cX2_addEvent 8 none]
def wsX4_slowest_r6 : List Cond := [Cond.fieldLink RX2 24 "VisitVans$Plan" "events" "[I", Cond.methodLink RX4 122 yX2_visitsMade, Cond.instanceMethod yX2_visitsMade, Cond.selects RX2 yX2_visitsMade yX2_visitsMade, Cond.code yX2_visitsMade cX2_visitsMade 1 (some .int), Cond.methodLink RX2 53 yX2_promisesThatAre, Cond.instanceMethod yX2_promisesThatAre, Cond.selects RX2 yX2_promisesThatAre yX2_promisesThatAre, Cond.code yX2_promisesThatAre cX2_promisesThatAre 4 (some .int)]
def wsX4_slowest : List Cond := .code yX4_slowest cX4_slowest 4 (some .int) :: ((wsX4_slowest_r1 ++ (wsX4_slowest_r2 ++ (wsX4_slowest_r3 ++ (wsX4_slowest_r4 ++ (wsX4_slowest_r5 ++ wsX4_slowest_r6))))) ++ wsX40 ++ wsX30 ++ wsX20)
def wsX4_put : List Cond := .code yX4_put cX4_put 3 (some .int) :: ([.fieldLink RX4 47 "VisitVans" "pad" "LVisitVans$Pad;", .methodLink RX4 169 yX1_append, .instanceMethod yX1_append, .selects RX1 yX1_append yX1_append, .initialized RX1, .code yX1_append cX1_append 6 (some .int), .constantLong RX1 19 (255), .fieldLink RX1 25 "VisitVans$Pad" "length" "I", .fieldLink RX1 9 "VisitVans$Pad" "signs" "[C", .static yX4_within, .initialized RX4, .code yX4_within cX4_within 3 (some .boolean)] ++ wsX40 ++ wsX10)
def wsX4_wipe : List Cond := .code yX4_wipe cX4_wipe 2 (some .int) :: ([.fieldLink RX4 47 "VisitVans" "pad" "LVisitVans$Pad;", .fieldLink RX4 136 "VisitVans$Pad" "length" "I"] ++ wsX40 ++ wsX10)
def wsX4_fault_r1 : List Cond := [Cond.fieldLink RX4 47 "VisitVans" "pad" "LVisitVans$Pad;", Cond.methodLink RX4 173 yX1_firstFault, Cond.instanceMethod yX1_firstFault, Cond.selects RX1 yX1_firstFault yX1_firstFault, Cond.initialized RX1, Cond.code yX1_firstFault cX1_firstFault 3 (some .int), Cond.fieldLink RX1 29 "VisitVans$Pad" "at" "I", Cond.methodLink RX1 32 yX1_start, Cond.instanceMethod yX1_start, Cond.selects RX1 yX1_start yX1_start, Cond.code yX1_start cX1_start 1 none, Cond.methodLink RX1 35 yX1_readOrder, Cond.instanceMethod yX1_readOrder, Cond.selects RX1 yX1_readOrder yX1_readOrder, Cond.code yX1_readOrder cX1_readOrder 4 (some .boolean), Cond.fieldLink RX1 50 "VisitVans$Pad" "kind" "C", Cond.fieldLink RX1 63 "VisitVans$Pad" "toldCount" "I", Cond.methodLink RX1 42 yX1_readSign, Cond.instanceMethod yX1_readSign, Cond.selects RX1 yX1_readSign yX1_readSign, Cond.code yX1_readSign cX1_readSign 2 (some .boolean), Cond.methodLink RX1 46 yX1_nextSign, Cond.instanceMethod yX1_nextSign, Cond.selects RX1 yX1_nextSign yX1_nextSign]
def wsX4_fault_r2 : List Cond := [Cond.code yX1_nextSign cX1_nextSign 1 (some .char), Cond.fieldLink RX1 25 "VisitVans$Pad" "length" "I", Cond.fieldLink RX1 9 "VisitVans$Pad" "signs" "[C", Cond.methodLink RX1 54 yX1_formOf, Cond.static yX1_formOf, Cond.code yX1_formOf cX1_formOf 1 (some (.object "java/lang/String")), Cond.methodLink RX1 58 yJ0_isEmpty_aae02, Cond.instanceMethod yJ0_isEmpty_aae02, Cond.selects RJ0 yJ0_isEmpty_aae02 yJ0_isEmpty_aae02, Cond.initialized RJ0, Cond.code yJ0_isEmpty_aae02 cJ0_isEmpty_aae02 1 (some .boolean), Cond.fieldLink RJ0 9 "java/lang/String" "value" "[B", Cond.methodLink RX1 66 yJ0_length_8abf5, Cond.instanceMethod yJ0_length_8abf5, Cond.selects RJ0 yJ0_length_8abf5 yJ0_length_8abf5, Cond.code yJ0_length_8abf5 cJ0_length_8abf5 1 (some .int), Cond.methodLink RJ0 335 yJ0_coder_7d493, Cond.instanceMethod yJ0_coder_7d493, Cond.selects RJ0 yJ0_coder_7d493 yJ0_coder_7d493, Cond.code yJ0_coder_7d493 cJ0_coder_7d493 1 (some .byte), Cond.fieldLink RJ0 38 "java/lang/String" "COMPACT_STRINGS" "Z", Cond.fieldLink RJ0 15 "java/lang/String" "coder" "B", Cond.methodLink RX1 69 yJ0_charAt_5068e, Cond.instanceMethod yJ0_charAt_5068e]
def wsX4_fault_r3 : List Cond := [Cond.selects RJ0 yJ0_charAt_5068e yJ0_charAt_5068e, Cond.code yJ0_charAt_5068e cJ0_charAt_5068e 2 (some .char), Cond.methodLink RJ0 492 yJ0_isLatin1_aae02, Cond.instanceMethod yJ0_isLatin1_aae02, Cond.selects RJ0 yJ0_isLatin1_aae02 yJ0_isLatin1_aae02, Cond.code yJ0_isLatin1_aae02 cJ0_isLatin1_aae02 1 (some .boolean), Cond.methodLink RJ0 495 yJ1_charAt_3b067, Cond.static yJ1_charAt_3b067, Cond.initialized RJ1, Cond.code yJ1_charAt_3b067 cJ1_charAt_3b067 2 (some .char), Cond.methodLink RJ1 9 yJ0_checkIndex_df160, Cond.static yJ0_checkIndex_df160, Cond.code yJ0_checkIndex_df160 cJ0_checkIndex_df160 2 none, Cond.fieldLink RJ0 1053 "jdk/internal/util/Preconditions" "SIOOBE_FORMATTER" "Ljava/util/function/BiFunction;", Cond.methodLink RJ0 1059 yJ3_checkIndex_8e157, Cond.static yJ3_checkIndex_8e157, Cond.initialized RJ3, Cond.code yJ3_checkIndex_8e157 cJ3_checkIndex_8e157 3 (some .int), Cond.methodLink RJ0 498 yJ2_charAt_3b067, Cond.static yJ2_charAt_3b067, Cond.initialized RJ2, Cond.code yJ2_charAt_3b067 cJ2_charAt_3b067 2 (some .char), Cond.methodLink RJ2 67 yJ2_checkIndex_2214a, Cond.static yJ2_checkIndex_2214a]
def wsX4_fault_r4 : List Cond := [Cond.code yJ2_checkIndex_2214a cJ2_checkIndex_2214a 2 none, Cond.methodLink RJ2 48 yJ2_length_9d52b, Cond.static yJ2_length_9d52b, Cond.code yJ2_length_9d52b cJ2_length_9d52b 1 (some .int), Cond.methodLink RJ2 414 yJ0_checkIndex_df160, Cond.methodLink RJ2 71 yJ2_getChar_3b067, Cond.static yJ2_getChar_3b067, Cond.code yJ2_getChar_3b067 cJ2_getChar_3b067 2 (some .char), Cond.fieldLink RJ2 44 "java/lang/StringUTF16" "$assertionsDisabled" "Z", Cond.fieldLink RJ2 59 "java/lang/StringUTF16" "HI_BYTE_SHIFT" "I", Cond.fieldLink RJ2 63 "java/lang/StringUTF16" "LO_BYTE_SHIFT" "I", Cond.methodLink RX1 73 yX1_readPiece, Cond.instanceMethod yX1_readPiece, Cond.selects RX1 yX1_readPiece yX1_readPiece, Cond.code yX1_readPiece cX1_readPiece 2 (some .boolean), Cond.methodLink RX1 86 yX1_readNumber, Cond.instanceMethod yX1_readNumber, Cond.selects RX1 yX1_readNumber yX1_readNumber, Cond.code yX1_readNumber cX1_readNumber 3 (some .boolean), Cond.methodLink RX1 95 yX1_nextDigit, Cond.instanceMethod yX1_nextDigit, Cond.selects RX1 yX1_nextDigit yX1_nextDigit, Cond.code yX1_nextDigit cX1_nextDigit 2 (some .int), Cond.static yX4_within]
def wsX4_fault_r5 : List Cond := [Cond.initialized RX4, Cond.code yX4_within cX4_within 3 (some .boolean), Cond.methodLink RX1 98 yX1_tell, Cond.instanceMethod yX1_tell, Cond.selects RX1 yX1_tell yX1_tell, Cond.code yX1_tell cX1_tell 2 none, Cond.fieldLink RX1 15 "VisitVans$Pad" "told" "[I", Cond.methodLink RX1 89 yX1_readDigit, Cond.instanceMethod yX1_readDigit, Cond.selects RX1 yX1_readDigit yX1_readDigit, Cond.code yX1_readDigit cX1_readDigit 2 (some .boolean), Cond.methodLink RX1 92 yX1_readSkills, Cond.instanceMethod yX1_readSkills, Cond.selects RX1 yX1_readSkills yX1_readSkills, Cond.code yX1_readSkills cX1_readSkills 3 (some .boolean), Cond.methodLink RX1 39 yX1_hasMore, Cond.instanceMethod yX1_hasMore, Cond.selects RX1 yX1_hasMore yX1_hasMore, Cond.code yX1_hasMore cX1_hasMore 1 (some .boolean)]
def wsX4_fault : List Cond := .code yX4_fault cX4_fault 1 (some .int) :: ((wsX4_fault_r1 ++ (wsX4_fault_r2 ++ (wsX4_fault_r3 ++ (wsX4_fault_r4 ++ wsX4_fault_r5)))) ++ wsX40 ++ wsX10)
def wsX4_carryOne_r1 : List Cond := [Cond.fieldLink RX4 47 "VisitVans" "pad" "LVisitVans$Pad;", Cond.fieldLink RX4 198 "VisitVans$Pad" "told" "[I", Cond.fieldLink RX4 201 "VisitVans$Pad" "kind" "C", Cond.fieldLink RX4 12 "VisitVans" "road" "LVisitVans$Road;", Cond.methodLink RX4 63 yX3_addVisit, Cond.instanceMethod yX3_addVisit, Cond.selects RX3 yX3_addVisit yX3_addVisit, Cond.initialized RX3, Cond.code yX3_addVisit cX3_addVisit 8 (some .int), Cond.fieldLink RX3 38 "VisitVans$Road" "visitCount" "I", Cond.static yX4_visitError, Cond.initialized RX4, Cond.code yX4_visitError cX4_visitError 6 (some .int), Cond.methodLink RX4 81 yX4_within, Cond.static yX4_within, Cond.code yX4_within cX4_within 3 (some .boolean), Cond.methodLink RX4 100 yX4_isPart, Cond.static yX4_isPart, Cond.code yX4_isPart cX4_isPart 1 (some .boolean), Cond.methodLink RX3 59 yX3_putVisit, Cond.instanceMethod yX3_putVisit, Cond.selects RX3 yX3_putVisit yX3_putVisit, Cond.code yX3_putVisit cX3_putVisit 8 (some .int), Cond.fieldLink RX3 23 "VisitVans$Road" "visits" "[I"]
def wsX4_carryOne_r2 : List Cond := [Cond.methodLink RX4 70 yX3_addVan, Cond.instanceMethod yX3_addVan, Cond.selects RX3 yX3_addVan yX3_addVan, Cond.code yX3_addVan cX3_addVan 3 (some .int), Cond.fieldLink RX3 42 "VisitVans$Road" "vanCount" "I", Cond.fieldLink RX3 26 "VisitVans$Road" "vans" "[I", Cond.methodLink RX4 73 yX3_changeStock, Cond.instanceMethod yX3_changeStock, Cond.selects RX3 yX3_changeStock yX3_changeStock, Cond.code yX3_changeStock cX3_changeStock 5 (some .int), Cond.fieldLink RX3 29 "VisitVans$Road" "parts" "[I", Cond.methodLink RX3 66 yX3_hasVan, Cond.instanceMethod yX3_hasVan, Cond.selects RX3 yX3_hasVan yX3_hasVan, Cond.code yX3_hasVan cX3_hasVan 2 (some .boolean), Cond.methodLink RX4 67 yX3_removeVisit, Cond.instanceMethod yX3_removeVisit, Cond.selects RX3 yX3_removeVisit yX3_removeVisit, Cond.code yX3_removeVisit cX3_removeVisit 4 (some .int), Cond.methodLink RX3 32 arraycopyName, Cond.native arraycopyName, Cond.static arraycopyName, Cond.initialized "java/lang/System", Cond.methodLink RX3 62 yX3_hasVisit]
def wsX4_carryOne_r3 : List Cond := [Cond.instanceMethod yX3_hasVisit, Cond.selects RX3 yX3_hasVisit yX3_hasVisit, Cond.code yX3_hasVisit cX3_hasVisit 2 (some .boolean)]
def wsX4_carryOne : List Cond := .code yX4_carryOne cX4_carryOne 2 (some .int) :: ((wsX4_carryOne_r1 ++ (wsX4_carryOne_r2 ++ wsX4_carryOne_r3)) ++ wsX40 ++ wsX10 ++ wsX30)
def wsX4_carryOrders_r1 : List Cond := [Cond.fieldLink RX4 47 "VisitVans" "pad" "LVisitVans$Pad;", Cond.methodLink RX4 185 yX1_start, Cond.instanceMethod yX1_start, Cond.selects RX1 yX1_start yX1_start, Cond.initialized RX1, Cond.code yX1_start cX1_start 1 none, Cond.fieldLink RX1 29 "VisitVans$Pad" "at" "I", Cond.methodLink RX4 188 yX1_hasMore, Cond.instanceMethod yX1_hasMore, Cond.selects RX1 yX1_hasMore yX1_hasMore, Cond.code yX1_hasMore cX1_hasMore 1 (some .boolean), Cond.fieldLink RX1 25 "VisitVans$Pad" "length" "I", Cond.methodLink RX4 192 yX1_readOrder, Cond.instanceMethod yX1_readOrder, Cond.selects RX1 yX1_readOrder yX1_readOrder, Cond.code yX1_readOrder cX1_readOrder 4 (some .boolean), Cond.fieldLink RX1 50 "VisitVans$Pad" "kind" "C", Cond.fieldLink RX1 63 "VisitVans$Pad" "toldCount" "I", Cond.methodLink RX1 42 yX1_readSign, Cond.instanceMethod yX1_readSign, Cond.selects RX1 yX1_readSign yX1_readSign, Cond.code yX1_readSign cX1_readSign 2 (some .boolean), Cond.methodLink RX1 46 yX1_nextSign, Cond.instanceMethod yX1_nextSign]
def wsX4_carryOrders_r2 : List Cond := [Cond.selects RX1 yX1_nextSign yX1_nextSign, Cond.code yX1_nextSign cX1_nextSign 1 (some .char), Cond.fieldLink RX1 9 "VisitVans$Pad" "signs" "[C", Cond.methodLink RX1 54 yX1_formOf, Cond.static yX1_formOf, Cond.code yX1_formOf cX1_formOf 1 (some (.object "java/lang/String")), Cond.methodLink RX1 58 yJ0_isEmpty_aae02, Cond.instanceMethod yJ0_isEmpty_aae02, Cond.selects RJ0 yJ0_isEmpty_aae02 yJ0_isEmpty_aae02, Cond.initialized RJ0, Cond.code yJ0_isEmpty_aae02 cJ0_isEmpty_aae02 1 (some .boolean), Cond.fieldLink RJ0 9 "java/lang/String" "value" "[B", Cond.methodLink RX1 66 yJ0_length_8abf5, Cond.instanceMethod yJ0_length_8abf5, Cond.selects RJ0 yJ0_length_8abf5 yJ0_length_8abf5, Cond.code yJ0_length_8abf5 cJ0_length_8abf5 1 (some .int), Cond.methodLink RJ0 335 yJ0_coder_7d493, Cond.instanceMethod yJ0_coder_7d493, Cond.selects RJ0 yJ0_coder_7d493 yJ0_coder_7d493, Cond.code yJ0_coder_7d493 cJ0_coder_7d493 1 (some .byte), Cond.fieldLink RJ0 38 "java/lang/String" "COMPACT_STRINGS" "Z", Cond.fieldLink RJ0 15 "java/lang/String" "coder" "B", Cond.methodLink RX1 69 yJ0_charAt_5068e, Cond.instanceMethod yJ0_charAt_5068e]
def wsX4_carryOrders_r3 : List Cond := [Cond.selects RJ0 yJ0_charAt_5068e yJ0_charAt_5068e, Cond.code yJ0_charAt_5068e cJ0_charAt_5068e 2 (some .char), Cond.methodLink RJ0 492 yJ0_isLatin1_aae02, Cond.instanceMethod yJ0_isLatin1_aae02, Cond.selects RJ0 yJ0_isLatin1_aae02 yJ0_isLatin1_aae02, Cond.code yJ0_isLatin1_aae02 cJ0_isLatin1_aae02 1 (some .boolean), Cond.methodLink RJ0 495 yJ1_charAt_3b067, Cond.static yJ1_charAt_3b067, Cond.initialized RJ1, Cond.code yJ1_charAt_3b067 cJ1_charAt_3b067 2 (some .char), Cond.methodLink RJ1 9 yJ0_checkIndex_df160, Cond.static yJ0_checkIndex_df160, Cond.code yJ0_checkIndex_df160 cJ0_checkIndex_df160 2 none, Cond.fieldLink RJ0 1053 "jdk/internal/util/Preconditions" "SIOOBE_FORMATTER" "Ljava/util/function/BiFunction;", Cond.methodLink RJ0 1059 yJ3_checkIndex_8e157, Cond.static yJ3_checkIndex_8e157, Cond.initialized RJ3, Cond.code yJ3_checkIndex_8e157 cJ3_checkIndex_8e157 3 (some .int), Cond.methodLink RJ0 498 yJ2_charAt_3b067, Cond.static yJ2_charAt_3b067, Cond.initialized RJ2, Cond.code yJ2_charAt_3b067 cJ2_charAt_3b067 2 (some .char), Cond.methodLink RJ2 67 yJ2_checkIndex_2214a, Cond.static yJ2_checkIndex_2214a]
def wsX4_carryOrders_r4 : List Cond := [Cond.code yJ2_checkIndex_2214a cJ2_checkIndex_2214a 2 none, Cond.methodLink RJ2 48 yJ2_length_9d52b, Cond.static yJ2_length_9d52b, Cond.code yJ2_length_9d52b cJ2_length_9d52b 1 (some .int), Cond.methodLink RJ2 414 yJ0_checkIndex_df160, Cond.methodLink RJ2 71 yJ2_getChar_3b067, Cond.static yJ2_getChar_3b067, Cond.code yJ2_getChar_3b067 cJ2_getChar_3b067 2 (some .char), Cond.fieldLink RJ2 44 "java/lang/StringUTF16" "$assertionsDisabled" "Z", Cond.fieldLink RJ2 59 "java/lang/StringUTF16" "HI_BYTE_SHIFT" "I", Cond.fieldLink RJ2 63 "java/lang/StringUTF16" "LO_BYTE_SHIFT" "I", Cond.methodLink RX1 73 yX1_readPiece, Cond.instanceMethod yX1_readPiece, Cond.selects RX1 yX1_readPiece yX1_readPiece, Cond.code yX1_readPiece cX1_readPiece 2 (some .boolean), Cond.methodLink RX1 86 yX1_readNumber, Cond.instanceMethod yX1_readNumber, Cond.selects RX1 yX1_readNumber yX1_readNumber, Cond.code yX1_readNumber cX1_readNumber 3 (some .boolean), Cond.methodLink RX1 95 yX1_nextDigit, Cond.instanceMethod yX1_nextDigit, Cond.selects RX1 yX1_nextDigit yX1_nextDigit, Cond.code yX1_nextDigit cX1_nextDigit 2 (some .int), Cond.static yX4_within]
def wsX4_carryOrders_r5 : List Cond := [Cond.initialized RX4, Cond.code yX4_within cX4_within 3 (some .boolean), Cond.methodLink RX1 98 yX1_tell, Cond.instanceMethod yX1_tell, Cond.selects RX1 yX1_tell yX1_tell, Cond.code yX1_tell cX1_tell 2 none, Cond.fieldLink RX1 15 "VisitVans$Pad" "told" "[I", Cond.methodLink RX1 89 yX1_readDigit, Cond.instanceMethod yX1_readDigit, Cond.selects RX1 yX1_readDigit yX1_readDigit, Cond.code yX1_readDigit cX1_readDigit 2 (some .boolean), Cond.methodLink RX1 92 yX1_readSkills, Cond.instanceMethod yX1_readSkills, Cond.selects RX1 yX1_readSkills yX1_readSkills, Cond.code yX1_readSkills cX1_readSkills 3 (some .boolean), Cond.methodLink RX4 195 yX4_carryOne, Cond.instanceMethod yX4_carryOne, Cond.selects RX4 yX4_carryOne yX4_carryOne, Cond.code yX4_carryOne cX4_carryOne 2 (some .int), Cond.fieldLink RX4 198 "VisitVans$Pad" "told" "[I", Cond.fieldLink RX4 201 "VisitVans$Pad" "kind" "C", Cond.fieldLink RX4 12 "VisitVans" "road" "LVisitVans$Road;", Cond.methodLink RX4 63 yX3_addVisit, Cond.instanceMethod yX3_addVisit]
def wsX4_carryOrders_r6 : List Cond := [Cond.selects RX3 yX3_addVisit yX3_addVisit, Cond.initialized RX3, Cond.code yX3_addVisit cX3_addVisit 8 (some .int), Cond.fieldLink RX3 38 "VisitVans$Road" "visitCount" "I", Cond.static yX4_visitError, Cond.code yX4_visitError cX4_visitError 6 (some .int), Cond.methodLink RX4 81 yX4_within, Cond.methodLink RX4 100 yX4_isPart, Cond.static yX4_isPart, Cond.code yX4_isPart cX4_isPart 1 (some .boolean), Cond.methodLink RX3 59 yX3_putVisit, Cond.instanceMethod yX3_putVisit, Cond.selects RX3 yX3_putVisit yX3_putVisit, Cond.code yX3_putVisit cX3_putVisit 8 (some .int), Cond.fieldLink RX3 23 "VisitVans$Road" "visits" "[I", Cond.methodLink RX4 70 yX3_addVan, Cond.instanceMethod yX3_addVan, Cond.selects RX3 yX3_addVan yX3_addVan, Cond.code yX3_addVan cX3_addVan 3 (some .int), Cond.fieldLink RX3 42 "VisitVans$Road" "vanCount" "I", Cond.fieldLink RX3 26 "VisitVans$Road" "vans" "[I", Cond.methodLink RX4 73 yX3_changeStock, Cond.instanceMethod yX3_changeStock, Cond.selects RX3 yX3_changeStock yX3_changeStock]
def wsX4_carryOrders_r7 : List Cond := [Cond.code yX3_changeStock cX3_changeStock 5 (some .int), Cond.fieldLink RX3 29 "VisitVans$Road" "parts" "[I", Cond.methodLink RX3 66 yX3_hasVan, Cond.instanceMethod yX3_hasVan, Cond.selects RX3 yX3_hasVan yX3_hasVan, Cond.code yX3_hasVan cX3_hasVan 2 (some .boolean), Cond.methodLink RX4 67 yX3_removeVisit, Cond.instanceMethod yX3_removeVisit, Cond.selects RX3 yX3_removeVisit yX3_removeVisit, Cond.code yX3_removeVisit cX3_removeVisit 4 (some .int), Cond.methodLink RX3 32 arraycopyName, Cond.native arraycopyName, Cond.static arraycopyName, Cond.initialized "java/lang/System", Cond.methodLink RX3 62 yX3_hasVisit, Cond.instanceMethod yX3_hasVisit, Cond.selects RX3 yX3_hasVisit yX3_hasVisit, Cond.code yX3_hasVisit cX3_hasVisit 2 (some .boolean)]
def wsX4_carryOrders : List Cond := .code yX4_carryOrders cX4_carryOrders 2 (some .int) :: ((wsX4_carryOrders_r1 ++ (wsX4_carryOrders_r2 ++ (wsX4_carryOrders_r3 ++ (wsX4_carryOrders_r4 ++ (wsX4_carryOrders_r5 ++ (wsX4_carryOrders_r6 ++ wsX4_carryOrders_r7)))))) ++ wsX40 ++ wsX10 ++ wsX30)
def wsX4_carryOut_r1 : List Cond := [Cond.fieldLink RX4 47 "VisitVans" "pad" "LVisitVans$Pad;", Cond.fieldLink RX4 32 "VisitVans" "history" "LVisitVans$History;", Cond.fieldLink RX4 12 "VisitVans" "road" "LVisitVans$Road;", Cond.fieldLink RX4 136 "VisitVans$Pad" "length" "I", Cond.methodLink RX4 173 yX1_firstFault, Cond.instanceMethod yX1_firstFault, Cond.selects RX1 yX1_firstFault yX1_firstFault, Cond.initialized RX1, Cond.code yX1_firstFault cX1_firstFault 3 (some .int), Cond.fieldLink RX1 29 "VisitVans$Pad" "at" "I", Cond.methodLink RX1 32 yX1_start, Cond.instanceMethod yX1_start, Cond.selects RX1 yX1_start yX1_start, Cond.code yX1_start cX1_start 1 none, Cond.methodLink RX1 35 yX1_readOrder, Cond.instanceMethod yX1_readOrder, Cond.selects RX1 yX1_readOrder yX1_readOrder, Cond.code yX1_readOrder cX1_readOrder 4 (some .boolean), Cond.fieldLink RX1 50 "VisitVans$Pad" "kind" "C", Cond.fieldLink RX1 63 "VisitVans$Pad" "toldCount" "I", Cond.methodLink RX1 42 yX1_readSign, Cond.instanceMethod yX1_readSign, Cond.selects RX1 yX1_readSign yX1_readSign, Cond.code yX1_readSign cX1_readSign 2 (some .boolean)]
def wsX4_carryOut_r2 : List Cond := [Cond.methodLink RX1 46 yX1_nextSign, Cond.instanceMethod yX1_nextSign, Cond.selects RX1 yX1_nextSign yX1_nextSign, Cond.code yX1_nextSign cX1_nextSign 1 (some .char), Cond.fieldLink RX1 25 "VisitVans$Pad" "length" "I", Cond.fieldLink RX1 9 "VisitVans$Pad" "signs" "[C", Cond.methodLink RX1 54 yX1_formOf, Cond.static yX1_formOf, Cond.code yX1_formOf cX1_formOf 1 (some (.object "java/lang/String")), Cond.methodLink RX1 58 yJ0_isEmpty_aae02, Cond.instanceMethod yJ0_isEmpty_aae02, Cond.selects RJ0 yJ0_isEmpty_aae02 yJ0_isEmpty_aae02, Cond.initialized RJ0, Cond.code yJ0_isEmpty_aae02 cJ0_isEmpty_aae02 1 (some .boolean), Cond.fieldLink RJ0 9 "java/lang/String" "value" "[B", Cond.methodLink RX1 66 yJ0_length_8abf5, Cond.instanceMethod yJ0_length_8abf5, Cond.selects RJ0 yJ0_length_8abf5 yJ0_length_8abf5, Cond.code yJ0_length_8abf5 cJ0_length_8abf5 1 (some .int), Cond.methodLink RJ0 335 yJ0_coder_7d493, Cond.instanceMethod yJ0_coder_7d493, Cond.selects RJ0 yJ0_coder_7d493 yJ0_coder_7d493, Cond.code yJ0_coder_7d493 cJ0_coder_7d493 1 (some .byte), Cond.fieldLink RJ0 38 "java/lang/String" "COMPACT_STRINGS" "Z"]
def wsX4_carryOut_r3 : List Cond := [Cond.fieldLink RJ0 15 "java/lang/String" "coder" "B", Cond.methodLink RX1 69 yJ0_charAt_5068e, Cond.instanceMethod yJ0_charAt_5068e, Cond.selects RJ0 yJ0_charAt_5068e yJ0_charAt_5068e, Cond.code yJ0_charAt_5068e cJ0_charAt_5068e 2 (some .char), Cond.methodLink RJ0 492 yJ0_isLatin1_aae02, Cond.instanceMethod yJ0_isLatin1_aae02, Cond.selects RJ0 yJ0_isLatin1_aae02 yJ0_isLatin1_aae02, Cond.code yJ0_isLatin1_aae02 cJ0_isLatin1_aae02 1 (some .boolean), Cond.methodLink RJ0 495 yJ1_charAt_3b067, Cond.static yJ1_charAt_3b067, Cond.initialized RJ1, Cond.code yJ1_charAt_3b067 cJ1_charAt_3b067 2 (some .char), Cond.methodLink RJ1 9 yJ0_checkIndex_df160, Cond.static yJ0_checkIndex_df160, Cond.code yJ0_checkIndex_df160 cJ0_checkIndex_df160 2 none, Cond.fieldLink RJ0 1053 "jdk/internal/util/Preconditions" "SIOOBE_FORMATTER" "Ljava/util/function/BiFunction;", Cond.methodLink RJ0 1059 yJ3_checkIndex_8e157, Cond.static yJ3_checkIndex_8e157, Cond.initialized RJ3, Cond.code yJ3_checkIndex_8e157 cJ3_checkIndex_8e157 3 (some .int), Cond.methodLink RJ0 498 yJ2_charAt_3b067, Cond.static yJ2_charAt_3b067, Cond.initialized RJ2]
def wsX4_carryOut_r4 : List Cond := [Cond.code yJ2_charAt_3b067 cJ2_charAt_3b067 2 (some .char), Cond.methodLink RJ2 67 yJ2_checkIndex_2214a, Cond.static yJ2_checkIndex_2214a, Cond.code yJ2_checkIndex_2214a cJ2_checkIndex_2214a 2 none, Cond.methodLink RJ2 48 yJ2_length_9d52b, Cond.static yJ2_length_9d52b, Cond.code yJ2_length_9d52b cJ2_length_9d52b 1 (some .int), Cond.methodLink RJ2 414 yJ0_checkIndex_df160, Cond.methodLink RJ2 71 yJ2_getChar_3b067, Cond.static yJ2_getChar_3b067, Cond.code yJ2_getChar_3b067 cJ2_getChar_3b067 2 (some .char), Cond.fieldLink RJ2 44 "java/lang/StringUTF16" "$assertionsDisabled" "Z", Cond.fieldLink RJ2 59 "java/lang/StringUTF16" "HI_BYTE_SHIFT" "I", Cond.fieldLink RJ2 63 "java/lang/StringUTF16" "LO_BYTE_SHIFT" "I", Cond.methodLink RX1 73 yX1_readPiece, Cond.instanceMethod yX1_readPiece, Cond.selects RX1 yX1_readPiece yX1_readPiece, Cond.code yX1_readPiece cX1_readPiece 2 (some .boolean), Cond.methodLink RX1 86 yX1_readNumber, Cond.instanceMethod yX1_readNumber, Cond.selects RX1 yX1_readNumber yX1_readNumber, Cond.code yX1_readNumber cX1_readNumber 3 (some .boolean), Cond.methodLink RX1 95 yX1_nextDigit, Cond.instanceMethod yX1_nextDigit]
def wsX4_carryOut_r5 : List Cond := [Cond.selects RX1 yX1_nextDigit yX1_nextDigit, Cond.code yX1_nextDigit cX1_nextDigit 2 (some .int), Cond.static yX4_within, Cond.initialized RX4, Cond.code yX4_within cX4_within 3 (some .boolean), Cond.methodLink RX1 98 yX1_tell, Cond.instanceMethod yX1_tell, Cond.selects RX1 yX1_tell yX1_tell, Cond.code yX1_tell cX1_tell 2 none, Cond.fieldLink RX1 15 "VisitVans$Pad" "told" "[I", Cond.methodLink RX1 89 yX1_readDigit, Cond.instanceMethod yX1_readDigit, Cond.selects RX1 yX1_readDigit yX1_readDigit, Cond.code yX1_readDigit cX1_readDigit 2 (some .boolean), Cond.methodLink RX1 92 yX1_readSkills, Cond.instanceMethod yX1_readSkills, Cond.selects RX1 yX1_readSkills yX1_readSkills, Cond.code yX1_readSkills cX1_readSkills 3 (some .boolean), Cond.methodLink RX1 39 yX1_hasMore, Cond.instanceMethod yX1_hasMore, Cond.selects RX1 yX1_hasMore yX1_hasMore, Cond.code yX1_hasMore cX1_hasMore 1 (some .boolean), Cond.methodLink RX4 51 yX0_note, Cond.instanceMethod yX0_note]
def wsX4_carryOut_r6 : List Cond := [Cond.selects RX0 yX0_note yX0_note, Cond.initialized RX0, Cond.code yX0_note cX0_note 2 none, Cond.fieldLink RX0 13 "VisitVans$History" "states" "[LVisitVans$Road;", Cond.fieldLink RX0 18 "VisitVans$History" "oldest" "I", Cond.fieldLink RX0 22 "VisitVans$History" "many" "I", Cond.methodLink RX0 25 yX3_copyFrom, Cond.instanceMethod yX3_copyFrom, Cond.selects RX3 yX3_copyFrom yX3_copyFrom, Cond.initialized RX3, Cond.code yX3_copyFrom cX3_copyFrom 2 none, Cond.fieldLink RX3 18 "VisitVans$Road" "settings" "[I", Cond.methodLink RX3 32 arraycopyName, Cond.native arraycopyName, Cond.static arraycopyName, Cond.initialized "java/lang/System", Cond.fieldLink RX3 23 "VisitVans$Road" "visits" "[I", Cond.fieldLink RX3 26 "VisitVans$Road" "vans" "[I", Cond.fieldLink RX3 29 "VisitVans$Road" "parts" "[I", Cond.fieldLink RX3 38 "VisitVans$Road" "visitCount" "I", Cond.fieldLink RX3 42 "VisitVans$Road" "vanCount" "I", Cond.methodLink RX4 176 yX4_carryOrders, Cond.instanceMethod yX4_carryOrders, Cond.selects RX4 yX4_carryOrders yX4_carryOrders]
def wsX4_carryOut_r7 : List Cond := [Cond.code yX4_carryOrders cX4_carryOrders 2 (some .int), Cond.methodLink RX4 185 yX1_start, Cond.methodLink RX4 188 yX1_hasMore, Cond.methodLink RX4 192 yX1_readOrder, Cond.methodLink RX4 195 yX4_carryOne, Cond.instanceMethod yX4_carryOne, Cond.selects RX4 yX4_carryOne yX4_carryOne, Cond.code yX4_carryOne cX4_carryOne 2 (some .int), Cond.fieldLink RX4 198 "VisitVans$Pad" "told" "[I", Cond.fieldLink RX4 201 "VisitVans$Pad" "kind" "C", Cond.methodLink RX4 63 yX3_addVisit, Cond.instanceMethod yX3_addVisit, Cond.selects RX3 yX3_addVisit yX3_addVisit, Cond.code yX3_addVisit cX3_addVisit 8 (some .int), Cond.static yX4_visitError, Cond.code yX4_visitError cX4_visitError 6 (some .int), Cond.methodLink RX4 81 yX4_within, Cond.methodLink RX4 100 yX4_isPart, Cond.static yX4_isPart, Cond.code yX4_isPart cX4_isPart 1 (some .boolean), Cond.methodLink RX3 59 yX3_putVisit, Cond.instanceMethod yX3_putVisit, Cond.selects RX3 yX3_putVisit yX3_putVisit, Cond.code yX3_putVisit cX3_putVisit 8 (some .int)]
def wsX4_carryOut_r8 : List Cond := [Cond.methodLink RX4 70 yX3_addVan, Cond.instanceMethod yX3_addVan, Cond.selects RX3 yX3_addVan yX3_addVan, Cond.code yX3_addVan cX3_addVan 3 (some .int), Cond.methodLink RX4 73 yX3_changeStock, Cond.instanceMethod yX3_changeStock, Cond.selects RX3 yX3_changeStock yX3_changeStock, Cond.code yX3_changeStock cX3_changeStock 5 (some .int), Cond.methodLink RX3 66 yX3_hasVan, Cond.instanceMethod yX3_hasVan, Cond.selects RX3 yX3_hasVan yX3_hasVan, Cond.code yX3_hasVan cX3_hasVan 2 (some .boolean), Cond.methodLink RX4 67 yX3_removeVisit, Cond.instanceMethod yX3_removeVisit, Cond.selects RX3 yX3_removeVisit yX3_removeVisit, Cond.code yX3_removeVisit cX3_removeVisit 4 (some .int), Cond.methodLink RX3 62 yX3_hasVisit, Cond.instanceMethod yX3_hasVisit, Cond.selects RX3 yX3_hasVisit yX3_hasVisit, Cond.code yX3_hasVisit cX3_hasVisit 2 (some .boolean), Cond.methodLink RX4 59 yX4_changed, Cond.instanceMethod yX4_changed, Cond.selects RX4 yX4_changed yX4_changed, Cond.code yX4_changed cX4_changed 2 (some .int)]
def wsX4_carryOut_r9 : List Cond := [Cond.fieldLink RX4 19 "VisitVans" "plan" "LVisitVans$Plan;", Cond.methodLink RX4 182 yX0_keep, Cond.instanceMethod yX0_keep, Cond.selects RX0 yX0_keep yX0_keep, Cond.code yX0_keep cX0_keep 1 none, Cond.methodLink RX4 157 yX2_make, Cond.instanceMethod yX2_make, Cond.selects RX2 yX2_make yX2_make, Cond.initialized RX2, Cond.code yX2_make cX2_make 3 none, Cond.fieldLink RX2 27 "VisitVans$Road" "visitCount" "I", Cond.fieldLink RX2 33 "VisitVans$Plan" "visitCount" "I", Cond.fieldLink RX2 34 "VisitVans$Road" "vanCount" "I", Cond.fieldLink RX2 37 "VisitVans$Plan" "vanCount" "I", Cond.fieldLink RX2 9 "VisitVans$Plan" "order" "[I", Cond.methodLink RX2 38 yX2_sendVansHome, Cond.instanceMethod yX2_sendVansHome, Cond.selects RX2 yX2_sendVansHome yX2_sendVansHome, Cond.code yX2_sendVansHome cX2_sendVansHome 5 none, Cond.fieldLink RX2 18 "VisitVans$Plan" "drives" "[I", Cond.fieldLink RX2 21 "VisitVans$Plan" "left" "[I", Cond.methodLink RX2 65 yX3_vanFact, Cond.instanceMethod yX3_vanFact, Cond.selects RX3 yX3_vanFact yX3_vanFact]
def wsX4_carryOut_r10 : List Cond := [Cond.code yX3_vanFact cX3_vanFact 3 (some .int), Cond.methodLink RX2 68 yX3_partsOf, Cond.instanceMethod yX3_partsOf, Cond.selects RX3 yX3_partsOf yX3_partsOf, Cond.code yX3_partsOf cX3_partsOf 3 (some .int), Cond.methodLink RX2 42 yX2_orderByEnds, Cond.instanceMethod yX2_orderByEnds, Cond.selects RX2 yX2_orderByEnds yX2_orderByEnds, Cond.code yX2_orderByEnds cX2_orderByEnds 5 none, Cond.methodLink RX2 71 yX3_visitFact, Cond.instanceMethod yX3_visitFact, Cond.selects RX3 yX3_visitFact yX3_visitFact, Cond.code yX3_visitFact cX3_visitFact 3 (some .int), Cond.methodLink RX2 45 yX2_look, Cond.instanceMethod yX2_look, Cond.selects RX2 yX2_look yX2_look, Cond.code yX2_look cX2_look 8 none, Cond.fieldLink RX2 74 "VisitVans$Road" "settings" "[I", Cond.methodLink RX2 60 Lib.Math.max.name, Cond.static Lib.Math.max.name, Cond.initialized "java/lang/Math", Cond.code Lib.Math.max.name Lib.Math.max.code 2 (some .int), Cond.methodLink RX2 77 yX2_firstToBegin, Cond.instanceMethod yX2_firstToBegin]
def wsX4_carryOut_r11 : List Cond := [Cond.selects RX2 yX2_firstToBegin yX2_firstToBegin, Cond.code yX2_firstToBegin cX2_firstToBegin 10 (some .int), Cond.methodLink RX2 95 yX2_hasSkill, Cond.instanceMethod yX2_hasSkill, Cond.selects RX2 yX2_hasSkill yX2_hasSkill, Cond.code yX2_hasSkill cX2_hasSkill 4 (some .boolean), Cond.methodLink RX2 99 yX2_hasParts, Cond.instanceMethod yX2_hasParts, Cond.selects RX2 yX2_hasParts yX2_hasParts, Cond.code yX2_hasParts cX2_hasParts 4 (some .boolean), Cond.methodLink RX2 102 yX2_partsLeft, Cond.instanceMethod yX2_partsLeft, Cond.selects RX2 yX2_partsLeft yX2_partsLeft, Cond.code yX2_partsLeft cX2_partsLeft 3 (some .int), Cond.methodLink RX2 89 yX2_comes, Cond.instanceMethod yX2_comes, Cond.selects RX2 yX2_comes yX2_comes, Cond.code yX2_comes cX2_comes 5 (some .int), Cond.methodLink RX2 105 Lib.Math.abs.name, Cond.static Lib.Math.abs.name, Cond.code Lib.Math.abs.name Lib.Math.abs.code 1 (some .int), Cond.methodLink RX2 57 yX2_driveFact, Cond.instanceMethod yX2_driveFact, Cond.selects RX2 yX2_driveFact yX2_driveFact]
def wsX4_carryOut_r12 : List Cond := [Cond.code yX2_driveFact cX2_driveFact 3 (some .int), Cond.methodLink RX2 81 yX2_reason, Cond.instanceMethod yX2_reason, Cond.selects RX2 yX2_reason yX2_reason, Cond.code yX2_reason cX2_reason 5 (some .int), Cond.methodLink RX2 85 yX2_putOutcome, Cond.instanceMethod yX2_putOutcome, Cond.selects RX2 yX2_putOutcome yX2_putOutcome, Cond.code yX2_putOutcome cX2_putOutcome 7 none, Cond.fieldLink RX2 15 "VisitVans$Plan" "outcomes" "[I", Cond.methodLink RX2 92 yX2_drive, Cond.instanceMethod yX2_drive, Cond.selects RX2 yX2_drive yX2_drive, Cond.code yX2_drive cX2_drive 9 none, Cond.methodLink RX2 49 yX2_outcome, Cond.instanceMethod yX2_outcome, Cond.selects RX2 yX2_outcome yX2_outcome, Cond.code yX2_outcome cX2_outcome 3 (some .int), Cond.methodLink RX2 108 yX2_addEvent, Cond.instanceMethod yX2_addEvent, Cond.selects RX2 yX2_addEvent yX2_addEvent, Cond.code yX2_addEvent cX2_addEvent 8 none, Cond.fieldLink RX2 24 "VisitVans$Plan" "events" "[I"]
def wsX4_carryOut : List Cond := .code yX4_carryOut cX4_carryOut 2 (some .int) :: ((wsX4_carryOut_r1 ++ (wsX4_carryOut_r2 ++ (wsX4_carryOut_r3 ++ (wsX4_carryOut_r4 ++ (wsX4_carryOut_r5 ++ (wsX4_carryOut_r6 ++ (wsX4_carryOut_r7 ++ (wsX4_carryOut_r8 ++ (wsX4_carryOut_r9 ++ (wsX4_carryOut_r10 ++ (wsX4_carryOut_r11 ++ wsX4_carryOut_r12))))))))))) ++ wsX40 ++ wsX10 ++ wsX00 ++ wsX30 ++ wsX20)
def wsX4_undo_r1 : List Cond := [Cond.fieldLink RX4 32 "VisitVans" "history" "LVisitVans$History;", Cond.fieldLink RX4 139 "VisitVans$History" "many" "I", Cond.fieldLink RX4 12 "VisitVans" "road" "LVisitVans$Road;", Cond.fieldLink RX4 19 "VisitVans" "plan" "LVisitVans$Plan;", Cond.methodLink RX4 179 yX0_takeBack, Cond.instanceMethod yX0_takeBack, Cond.selects RX0 yX0_takeBack yX0_takeBack, Cond.initialized RX0, Cond.code yX0_takeBack cX0_takeBack 2 none, Cond.fieldLink RX0 22 "VisitVans$History" "many" "I", Cond.fieldLink RX0 13 "VisitVans$History" "states" "[LVisitVans$Road;", Cond.fieldLink RX0 18 "VisitVans$History" "oldest" "I", Cond.methodLink RX0 25 yX3_copyFrom, Cond.instanceMethod yX3_copyFrom, Cond.selects RX3 yX3_copyFrom yX3_copyFrom, Cond.initialized RX3, Cond.code yX3_copyFrom cX3_copyFrom 2 none, Cond.fieldLink RX3 18 "VisitVans$Road" "settings" "[I", Cond.methodLink RX3 32 arraycopyName, Cond.native arraycopyName, Cond.static arraycopyName, Cond.initialized "java/lang/System", Cond.fieldLink RX3 23 "VisitVans$Road" "visits" "[I", Cond.fieldLink RX3 26 "VisitVans$Road" "vans" "[I"]
def wsX4_undo_r2 : List Cond := [Cond.fieldLink RX3 29 "VisitVans$Road" "parts" "[I", Cond.fieldLink RX3 38 "VisitVans$Road" "visitCount" "I", Cond.fieldLink RX3 42 "VisitVans$Road" "vanCount" "I", Cond.methodLink RX4 157 yX2_make, Cond.instanceMethod yX2_make, Cond.selects RX2 yX2_make yX2_make, Cond.initialized RX2, Cond.code yX2_make cX2_make 3 none, Cond.fieldLink RX2 27 "VisitVans$Road" "visitCount" "I", Cond.fieldLink RX2 33 "VisitVans$Plan" "visitCount" "I", Cond.fieldLink RX2 34 "VisitVans$Road" "vanCount" "I", Cond.fieldLink RX2 37 "VisitVans$Plan" "vanCount" "I", Cond.fieldLink RX2 9 "VisitVans$Plan" "order" "[I", Cond.methodLink RX2 38 yX2_sendVansHome, Cond.instanceMethod yX2_sendVansHome, Cond.selects RX2 yX2_sendVansHome yX2_sendVansHome, Cond.code yX2_sendVansHome cX2_sendVansHome 5 none, Cond.fieldLink RX2 18 "VisitVans$Plan" "drives" "[I", Cond.fieldLink RX2 21 "VisitVans$Plan" "left" "[I", Cond.methodLink RX2 65 yX3_vanFact, Cond.instanceMethod yX3_vanFact, Cond.selects RX3 yX3_vanFact yX3_vanFact, Cond.code yX3_vanFact cX3_vanFact 3 (some .int), Cond.methodLink RX2 68 yX3_partsOf]
def wsX4_undo_r3 : List Cond := [Cond.instanceMethod yX3_partsOf, Cond.selects RX3 yX3_partsOf yX3_partsOf, Cond.code yX3_partsOf cX3_partsOf 3 (some .int), Cond.methodLink RX2 42 yX2_orderByEnds, Cond.instanceMethod yX2_orderByEnds, Cond.selects RX2 yX2_orderByEnds yX2_orderByEnds, Cond.code yX2_orderByEnds cX2_orderByEnds 5 none, Cond.methodLink RX2 71 yX3_visitFact, Cond.instanceMethod yX3_visitFact, Cond.selects RX3 yX3_visitFact yX3_visitFact, Cond.code yX3_visitFact cX3_visitFact 3 (some .int), Cond.methodLink RX2 45 yX2_look, Cond.instanceMethod yX2_look, Cond.selects RX2 yX2_look yX2_look, Cond.code yX2_look cX2_look 8 none, Cond.fieldLink RX2 74 "VisitVans$Road" "settings" "[I", Cond.methodLink RX2 60 Lib.Math.max.name, Cond.static Lib.Math.max.name, Cond.initialized "java/lang/Math", Cond.code Lib.Math.max.name Lib.Math.max.code 2 (some .int), Cond.methodLink RX2 77 yX2_firstToBegin, Cond.instanceMethod yX2_firstToBegin, Cond.selects RX2 yX2_firstToBegin yX2_firstToBegin, Cond.code yX2_firstToBegin cX2_firstToBegin 10 (some .int)]
def wsX4_undo_r4 : List Cond := [Cond.methodLink RX2 95 yX2_hasSkill, Cond.instanceMethod yX2_hasSkill, Cond.selects RX2 yX2_hasSkill yX2_hasSkill, Cond.code yX2_hasSkill cX2_hasSkill 4 (some .boolean), Cond.methodLink RX2 99 yX2_hasParts, Cond.instanceMethod yX2_hasParts, Cond.selects RX2 yX2_hasParts yX2_hasParts, Cond.code yX2_hasParts cX2_hasParts 4 (some .boolean), Cond.methodLink RX2 102 yX2_partsLeft, Cond.instanceMethod yX2_partsLeft, Cond.selects RX2 yX2_partsLeft yX2_partsLeft, Cond.code yX2_partsLeft cX2_partsLeft 3 (some .int), Cond.methodLink RX2 89 yX2_comes, Cond.instanceMethod yX2_comes, Cond.selects RX2 yX2_comes yX2_comes, Cond.code yX2_comes cX2_comes 5 (some .int), Cond.methodLink RX2 105 Lib.Math.abs.name, Cond.static Lib.Math.abs.name, Cond.code Lib.Math.abs.name Lib.Math.abs.code 1 (some .int), Cond.methodLink RX2 57 yX2_driveFact, Cond.instanceMethod yX2_driveFact, Cond.selects RX2 yX2_driveFact yX2_driveFact, Cond.code yX2_driveFact cX2_driveFact 3 (some .int), Cond.methodLink RX2 81 yX2_reason]
def wsX4_undo_r5 : List Cond := [Cond.instanceMethod yX2_reason, Cond.selects RX2 yX2_reason yX2_reason, Cond.code yX2_reason cX2_reason 5 (some .int), Cond.methodLink RX2 85 yX2_putOutcome, Cond.instanceMethod yX2_putOutcome, Cond.selects RX2 yX2_putOutcome yX2_putOutcome, Cond.code yX2_putOutcome cX2_putOutcome 7 none, Cond.fieldLink RX2 15 "VisitVans$Plan" "outcomes" "[I", Cond.methodLink RX2 92 yX2_drive, Cond.instanceMethod yX2_drive, Cond.selects RX2 yX2_drive yX2_drive, Cond.code yX2_drive cX2_drive 9 none, Cond.methodLink RX2 49 yX2_outcome, Cond.instanceMethod yX2_outcome, Cond.selects RX2 yX2_outcome yX2_outcome, Cond.code yX2_outcome cX2_outcome 3 (some .int), Cond.methodLink RX2 108 yX2_addEvent, Cond.instanceMethod yX2_addEvent, Cond.selects RX2 yX2_addEvent yX2_addEvent, Cond.code yX2_addEvent cX2_addEvent 8 none, Cond.fieldLink RX2 24 "VisitVans$Plan" "events" "[I"]
def wsX4_undo : List Cond := .code yX4_undo cX4_undo 1 (some .int) :: ((wsX4_undo_r1 ++ (wsX4_undo_r2 ++ (wsX4_undo_r3 ++ (wsX4_undo_r4 ++ wsX4_undo_r5)))) ++ wsX40 ++ wsX00 ++ wsX30 ++ wsX20)
def wsX4_save : List Cond := .code yX4_save cX4_save 2 (some .int) :: ([.fieldLink RX4 36 "VisitVans" "slots" "[LVisitVans$Road;", .fieldLink RX4 12 "VisitVans" "road" "LVisitVans$Road;", .fieldLink RX4 40 "VisitVans" "saved" "[Z", .fieldLink RX4 112 "VisitVans$Road" "visitCount" "I", .methodLink RX4 81 yX4_within, .static yX4_within, .initialized RX4, .code yX4_within cX4_within 3 (some .boolean), .methodLink RX4 151 yX3_copyFrom, .instanceMethod yX3_copyFrom, .selects RX3 yX3_copyFrom yX3_copyFrom, .initialized RX3, .code yX3_copyFrom cX3_copyFrom 2 none, .fieldLink RX3 18 "VisitVans$Road" "settings" "[I", .methodLink RX3 32 arraycopyName, .native arraycopyName, .static arraycopyName, .initialized "java/lang/System", .fieldLink RX3 23 "VisitVans$Road" "visits" "[I", .fieldLink RX3 26 "VisitVans$Road" "vans" "[I", .fieldLink RX3 29 "VisitVans$Road" "parts" "[I", .fieldLink RX3 38 "VisitVans$Road" "visitCount" "I", .fieldLink RX3 42 "VisitVans$Road" "vanCount" "I"] ++ wsX40 ++ wsX30)
def wsX4_restore_r1 : List Cond := [Cond.fieldLink RX4 40 "VisitVans" "saved" "[Z", Cond.fieldLink RX4 32 "VisitVans" "history" "LVisitVans$History;", Cond.fieldLink RX4 12 "VisitVans" "road" "LVisitVans$Road;", Cond.fieldLink RX4 36 "VisitVans" "slots" "[LVisitVans$Road;", Cond.fieldLink RX4 112 "VisitVans$Road" "visitCount" "I", Cond.methodLink RX4 81 yX4_within, Cond.static yX4_within, Cond.initialized RX4, Cond.code yX4_within cX4_within 3 (some .boolean), Cond.methodLink RX4 51 yX0_note, Cond.instanceMethod yX0_note, Cond.selects RX0 yX0_note yX0_note, Cond.initialized RX0, Cond.code yX0_note cX0_note 2 none, Cond.fieldLink RX0 13 "VisitVans$History" "states" "[LVisitVans$Road;", Cond.fieldLink RX0 18 "VisitVans$History" "oldest" "I", Cond.fieldLink RX0 22 "VisitVans$History" "many" "I", Cond.methodLink RX0 25 yX3_copyFrom, Cond.instanceMethod yX3_copyFrom, Cond.selects RX3 yX3_copyFrom yX3_copyFrom, Cond.initialized RX3, Cond.code yX3_copyFrom cX3_copyFrom 2 none, Cond.fieldLink RX3 18 "VisitVans$Road" "settings" "[I", Cond.methodLink RX3 32 arraycopyName]
def wsX4_restore_r2 : List Cond := [Cond.native arraycopyName, Cond.static arraycopyName, Cond.initialized "java/lang/System", Cond.fieldLink RX3 23 "VisitVans$Road" "visits" "[I", Cond.fieldLink RX3 26 "VisitVans$Road" "vans" "[I", Cond.fieldLink RX3 29 "VisitVans$Road" "parts" "[I", Cond.fieldLink RX3 38 "VisitVans$Road" "visitCount" "I", Cond.fieldLink RX3 42 "VisitVans$Road" "vanCount" "I", Cond.methodLink RX4 151 yX3_copyFrom, Cond.methodLink RX4 59 yX4_changed, Cond.instanceMethod yX4_changed, Cond.selects RX4 yX4_changed yX4_changed, Cond.code yX4_changed cX4_changed 2 (some .int), Cond.fieldLink RX4 19 "VisitVans" "plan" "LVisitVans$Plan;", Cond.methodLink RX4 182 yX0_keep, Cond.instanceMethod yX0_keep, Cond.selects RX0 yX0_keep yX0_keep, Cond.code yX0_keep cX0_keep 1 none, Cond.methodLink RX4 157 yX2_make, Cond.instanceMethod yX2_make, Cond.selects RX2 yX2_make yX2_make, Cond.initialized RX2, Cond.code yX2_make cX2_make 3 none, Cond.fieldLink RX2 27 "VisitVans$Road" "visitCount" "I"]
def wsX4_restore_r3 : List Cond := [Cond.fieldLink RX2 33 "VisitVans$Plan" "visitCount" "I", Cond.fieldLink RX2 34 "VisitVans$Road" "vanCount" "I", Cond.fieldLink RX2 37 "VisitVans$Plan" "vanCount" "I", Cond.fieldLink RX2 9 "VisitVans$Plan" "order" "[I", Cond.methodLink RX2 38 yX2_sendVansHome, Cond.instanceMethod yX2_sendVansHome, Cond.selects RX2 yX2_sendVansHome yX2_sendVansHome, Cond.code yX2_sendVansHome cX2_sendVansHome 5 none, Cond.fieldLink RX2 18 "VisitVans$Plan" "drives" "[I", Cond.fieldLink RX2 21 "VisitVans$Plan" "left" "[I", Cond.methodLink RX2 65 yX3_vanFact, Cond.instanceMethod yX3_vanFact, Cond.selects RX3 yX3_vanFact yX3_vanFact, Cond.code yX3_vanFact cX3_vanFact 3 (some .int), Cond.methodLink RX2 68 yX3_partsOf, Cond.instanceMethod yX3_partsOf, Cond.selects RX3 yX3_partsOf yX3_partsOf, Cond.code yX3_partsOf cX3_partsOf 3 (some .int), Cond.methodLink RX2 42 yX2_orderByEnds, Cond.instanceMethod yX2_orderByEnds, Cond.selects RX2 yX2_orderByEnds yX2_orderByEnds, Cond.code yX2_orderByEnds cX2_orderByEnds 5 none, Cond.methodLink RX2 71 yX3_visitFact, Cond.instanceMethod yX3_visitFact]
def wsX4_restore_r4 : List Cond := [Cond.selects RX3 yX3_visitFact yX3_visitFact, Cond.code yX3_visitFact cX3_visitFact 3 (some .int), Cond.methodLink RX2 45 yX2_look, Cond.instanceMethod yX2_look, Cond.selects RX2 yX2_look yX2_look, Cond.code yX2_look cX2_look 8 none, Cond.fieldLink RX2 74 "VisitVans$Road" "settings" "[I", Cond.methodLink RX2 60 Lib.Math.max.name, Cond.static Lib.Math.max.name, Cond.initialized "java/lang/Math", Cond.code Lib.Math.max.name Lib.Math.max.code 2 (some .int), Cond.methodLink RX2 77 yX2_firstToBegin, Cond.instanceMethod yX2_firstToBegin, Cond.selects RX2 yX2_firstToBegin yX2_firstToBegin, Cond.code yX2_firstToBegin cX2_firstToBegin 10 (some .int), Cond.methodLink RX2 95 yX2_hasSkill, Cond.instanceMethod yX2_hasSkill, Cond.selects RX2 yX2_hasSkill yX2_hasSkill, Cond.code yX2_hasSkill cX2_hasSkill 4 (some .boolean), Cond.methodLink RX2 99 yX2_hasParts, Cond.instanceMethod yX2_hasParts, Cond.selects RX2 yX2_hasParts yX2_hasParts, Cond.code yX2_hasParts cX2_hasParts 4 (some .boolean), Cond.methodLink RX2 102 yX2_partsLeft]
def wsX4_restore_r5 : List Cond := [Cond.instanceMethod yX2_partsLeft, Cond.selects RX2 yX2_partsLeft yX2_partsLeft, Cond.code yX2_partsLeft cX2_partsLeft 3 (some .int), Cond.methodLink RX2 89 yX2_comes, Cond.instanceMethod yX2_comes, Cond.selects RX2 yX2_comes yX2_comes, Cond.code yX2_comes cX2_comes 5 (some .int), Cond.methodLink RX2 105 Lib.Math.abs.name, Cond.static Lib.Math.abs.name, Cond.code Lib.Math.abs.name Lib.Math.abs.code 1 (some .int), Cond.methodLink RX2 57 yX2_driveFact, Cond.instanceMethod yX2_driveFact, Cond.selects RX2 yX2_driveFact yX2_driveFact, Cond.code yX2_driveFact cX2_driveFact 3 (some .int), Cond.methodLink RX2 81 yX2_reason, Cond.instanceMethod yX2_reason, Cond.selects RX2 yX2_reason yX2_reason, Cond.code yX2_reason cX2_reason 5 (some .int), Cond.methodLink RX2 85 yX2_putOutcome, Cond.instanceMethod yX2_putOutcome, Cond.selects RX2 yX2_putOutcome yX2_putOutcome, Cond.code yX2_putOutcome cX2_putOutcome 7 none, Cond.fieldLink RX2 15 "VisitVans$Plan" "outcomes" "[I", Cond.methodLink RX2 92 yX2_drive]
def wsX4_restore_r6 : List Cond := [Cond.instanceMethod yX2_drive, Cond.selects RX2 yX2_drive yX2_drive, Cond.code yX2_drive cX2_drive 9 none, Cond.methodLink RX2 49 yX2_outcome, Cond.instanceMethod yX2_outcome, Cond.selects RX2 yX2_outcome yX2_outcome, Cond.code yX2_outcome cX2_outcome 3 (some .int), Cond.methodLink RX2 108 yX2_addEvent, Cond.instanceMethod yX2_addEvent, Cond.selects RX2 yX2_addEvent yX2_addEvent, Cond.code yX2_addEvent cX2_addEvent 8 none, Cond.fieldLink RX2 24 "VisitVans$Plan" "events" "[I"]
def wsX4_restore : List Cond := .code yX4_restore cX4_restore 2 (some .int) :: ((wsX4_restore_r1 ++ (wsX4_restore_r2 ++ (wsX4_restore_r3 ++ (wsX4_restore_r4 ++ (wsX4_restore_r5 ++ wsX4_restore_r6))))) ++ wsX40 ++ wsX30 ++ wsX00 ++ wsX20)
def wsX5_init : List Cond := .code yX5_init cX5_init 1 none :: ([.methodLink RX5 1 objectInit, .instanceMethod objectInit, .code objectInit ⟨#[0xb1]⟩ 1 none, .arrayClass .int, .fieldLink RX5 7 "VisitVansModel" "s" "[I", .fieldLink RX5 13 "VisitVansModel" "undos" "[I", .fieldLink RX5 16 "VisitVansModel" "slots" "[I", .arrayClass .boolean, .fieldLink RX5 19 "VisitVansModel" "hasSlot" "[Z", .fieldLink RX5 23 "VisitVansModel" "pad" "[I", .fieldLink RX5 26 "VisitVansModel" "order" "[I", .fieldLink RX5 29 "VisitVansModel" "promise" "[I", .fieldLink RX5 32 "VisitVansModel" "vanOf" "[I", .fieldLink RX5 35 "VisitVansModel" "begins" "[I", .fieldLink RX5 38 "VisitVansModel" "comes" "[I", .fieldLink RX5 41 "VisitVansModel" "leaves" "[I", .fieldLink RX5 44 "VisitVansModel" "placeOf" "[I", .fieldLink RX5 47 "VisitVansModel" "freeAt" "[I", .fieldLink RX5 50 "VisitVansModel" "left" "[I", .fieldLink RX5 53 "VisitVansModel" "ways" "[I", .fieldLink RX5 56 "VisitVansModel" "waits" "[I", .fieldLink RX5 59 "VisitVansModel" "told" "[I", .fieldLink RX5 62 "VisitVansModel" "thrown" "I"] ++ wsX50)
def wsX5_in : List Cond := .code yX5_in cX5_in 3 (some .boolean) :: ([])
def wsX5_van0 : List Cond := .code yX5_van0 cX5_van0 3 (some .int) :: ([.fieldLink RX5 7 "VisitVansModel" "s" "[I"] ++ wsX50)
def wsX5_visit0 : List Cond := .code yX5_visit0 cX5_visit0 3 (some .int) :: ([.fieldLink RX5 7 "VisitVansModel" "s" "[I"] ++ wsX50)
def wsX5_records : List Cond := .code yX5_records cX5_records 2 none :: ([.fieldLink RX5 66 "VisitVansModel" "undoMany" "I", .fieldLink RX5 13 "VisitVansModel" "undos" "[I", .fieldLink RX5 7 "VisitVansModel" "s" "[I"] ++ wsX50)
def wsX5_hasSkill : List Cond := .code yX5_hasSkill cX5_hasSkill 3 (some .boolean) :: ([.methodLink RX5 69 yX5_van0, .instanceMethod yX5_van0, .selects RX5 yX5_van0 yX5_van0, .initialized RX5, .code yX5_van0 cX5_van0 3 (some .int), .fieldLink RX5 7 "VisitVansModel" "s" "[I", .methodLink RX5 73 yX5_visit0, .instanceMethod yX5_visit0, .selects RX5 yX5_visit0 yX5_visit0, .code yX5_visit0 cX5_visit0 3 (some .int)] ++ wsX50)
def wsX5_hasParts : List Cond := .code yX5_hasParts cX5_hasParts 3 (some .boolean) :: ([.fieldLink RX5 50 "VisitVansModel" "left" "[I", .methodLink RX5 73 yX5_visit0, .instanceMethod yX5_visit0, .selects RX5 yX5_visit0 yX5_visit0, .initialized RX5, .code yX5_visit0 cX5_visit0 3 (some .int), .fieldLink RX5 7 "VisitVansModel" "s" "[I"] ++ wsX50)
def wsX5_wayTo : List Cond := .code yX5_wayTo cX5_wayTo 4 (some .int) :: ([.fieldLink RX5 44 "VisitVansModel" "placeOf" "[I", .fieldLink RX5 7 "VisitVansModel" "s" "[I", .methodLink RX5 73 yX5_visit0, .instanceMethod yX5_visit0, .selects RX5 yX5_visit0 yX5_visit0, .initialized RX5, .code yX5_visit0 cX5_visit0 3 (some .int)] ++ wsX50)
def wsX5_beginOf : List Cond := .code yX5_beginOf cX5_beginOf 6 (some .int) :: ([.fieldLink RX5 47 "VisitVansModel" "freeAt" "[I", .methodLink RX5 76 yX5_wayTo, .instanceMethod yX5_wayTo, .selects RX5 yX5_wayTo yX5_wayTo, .initialized RX5, .code yX5_wayTo cX5_wayTo 4 (some .int), .fieldLink RX5 44 "VisitVansModel" "placeOf" "[I", .fieldLink RX5 7 "VisitVansModel" "s" "[I", .methodLink RX5 73 yX5_visit0, .instanceMethod yX5_visit0, .selects RX5 yX5_visit0 yX5_visit0, .code yX5_visit0 cX5_visit0 3 (some .int)] ++ wsX50)
def wsX5_vanFor_r1 : List Cond := [Cond.fieldLink RX5 7 "VisitVansModel" "s" "[I", Cond.methodLink RX5 79 yX5_hasSkill, Cond.instanceMethod yX5_hasSkill, Cond.selects RX5 yX5_hasSkill yX5_hasSkill, Cond.initialized RX5, Cond.code yX5_hasSkill cX5_hasSkill 3 (some .boolean), Cond.methodLink RX5 69 yX5_van0, Cond.instanceMethod yX5_van0, Cond.selects RX5 yX5_van0 yX5_van0, Cond.code yX5_van0 cX5_van0 3 (some .int), Cond.methodLink RX5 73 yX5_visit0, Cond.instanceMethod yX5_visit0, Cond.selects RX5 yX5_visit0 yX5_visit0, Cond.code yX5_visit0 cX5_visit0 3 (some .int), Cond.methodLink RX5 83 yX5_hasParts, Cond.instanceMethod yX5_hasParts, Cond.selects RX5 yX5_hasParts yX5_hasParts, Cond.code yX5_hasParts cX5_hasParts 3 (some .boolean), Cond.fieldLink RX5 50 "VisitVansModel" "left" "[I", Cond.methodLink RX5 86 yX5_beginOf, Cond.instanceMethod yX5_beginOf, Cond.selects RX5 yX5_beginOf yX5_beginOf, Cond.code yX5_beginOf cX5_beginOf 6 (some .int), Cond.fieldLink RX5 47 "VisitVansModel" "freeAt" "[I"]
def wsX5_vanFor_r2 : List Cond := [Cond.methodLink RX5 76 yX5_wayTo, Cond.instanceMethod yX5_wayTo, Cond.selects RX5 yX5_wayTo yX5_wayTo, Cond.code yX5_wayTo cX5_wayTo 4 (some .int), Cond.fieldLink RX5 44 "VisitVansModel" "placeOf" "[I"]
def wsX5_vanFor : List Cond := .code yX5_vanFor cX5_vanFor 6 (some .int) :: ((wsX5_vanFor_r1 ++ wsX5_vanFor_r2) ++ wsX50)
def wsX5_makes : List Cond := .code yX5_makes cX5_makes 6 none :: ([.fieldLink RX5 32 "VisitVansModel" "vanOf" "[I", .fieldLink RX5 35 "VisitVansModel" "begins" "[I", .fieldLink RX5 41 "VisitVansModel" "leaves" "[I", .fieldLink RX5 47 "VisitVansModel" "freeAt" "[I", .fieldLink RX5 38 "VisitVansModel" "comes" "[I", .fieldLink RX5 53 "VisitVansModel" "ways" "[I", .fieldLink RX5 56 "VisitVansModel" "waits" "[I", .fieldLink RX5 7 "VisitVansModel" "s" "[I", .fieldLink RX5 44 "VisitVansModel" "placeOf" "[I", .fieldLink RX5 50 "VisitVansModel" "left" "[I", .methodLink RX5 76 yX5_wayTo, .instanceMethod yX5_wayTo, .selects RX5 yX5_wayTo yX5_wayTo, .initialized RX5, .code yX5_wayTo cX5_wayTo 4 (some .int), .methodLink RX5 73 yX5_visit0, .instanceMethod yX5_visit0, .selects RX5 yX5_visit0 yX5_visit0, .code yX5_visit0 cX5_visit0 3 (some .int), .methodLink RX5 86 yX5_beginOf, .instanceMethod yX5_beginOf, .selects RX5 yX5_beginOf yX5_beginOf, .code yX5_beginOf cX5_beginOf 6 (some .int)] ++ wsX50)
def wsX5_reason : List Cond := .code yX5_reason cX5_reason 5 (some .int) :: ([.fieldLink RX5 7 "VisitVansModel" "s" "[I", .methodLink RX5 79 yX5_hasSkill, .instanceMethod yX5_hasSkill, .selects RX5 yX5_hasSkill yX5_hasSkill, .initialized RX5, .code yX5_hasSkill cX5_hasSkill 3 (some .boolean), .methodLink RX5 69 yX5_van0, .instanceMethod yX5_van0, .selects RX5 yX5_van0 yX5_van0, .code yX5_van0 cX5_van0 3 (some .int), .methodLink RX5 73 yX5_visit0, .instanceMethod yX5_visit0, .selects RX5 yX5_visit0 yX5_visit0, .code yX5_visit0 cX5_visit0 3 (some .int), .methodLink RX5 83 yX5_hasParts, .instanceMethod yX5_hasParts, .selects RX5 yX5_hasParts yX5_hasParts, .code yX5_hasParts cX5_hasParts 3 (some .boolean), .fieldLink RX5 50 "VisitVansModel" "left" "[I"] ++ wsX50)
def wsX5_looks_r1 : List Cond := [Cond.methodLink RX5 90 yX5_vanFor, Cond.instanceMethod yX5_vanFor, Cond.selects RX5 yX5_vanFor yX5_vanFor, Cond.initialized RX5, Cond.code yX5_vanFor cX5_vanFor 6 (some .int), Cond.fieldLink RX5 7 "VisitVansModel" "s" "[I", Cond.methodLink RX5 79 yX5_hasSkill, Cond.instanceMethod yX5_hasSkill, Cond.selects RX5 yX5_hasSkill yX5_hasSkill, Cond.code yX5_hasSkill cX5_hasSkill 3 (some .boolean), Cond.methodLink RX5 69 yX5_van0, Cond.instanceMethod yX5_van0, Cond.selects RX5 yX5_van0 yX5_van0, Cond.code yX5_van0 cX5_van0 3 (some .int), Cond.methodLink RX5 73 yX5_visit0, Cond.instanceMethod yX5_visit0, Cond.selects RX5 yX5_visit0 yX5_visit0, Cond.code yX5_visit0 cX5_visit0 3 (some .int), Cond.methodLink RX5 83 yX5_hasParts, Cond.instanceMethod yX5_hasParts, Cond.selects RX5 yX5_hasParts yX5_hasParts, Cond.code yX5_hasParts cX5_hasParts 3 (some .boolean), Cond.fieldLink RX5 50 "VisitVansModel" "left" "[I", Cond.methodLink RX5 86 yX5_beginOf]
def wsX5_looks_r2 : List Cond := [Cond.instanceMethod yX5_beginOf, Cond.selects RX5 yX5_beginOf yX5_beginOf, Cond.code yX5_beginOf cX5_beginOf 6 (some .int), Cond.fieldLink RX5 47 "VisitVansModel" "freeAt" "[I", Cond.methodLink RX5 76 yX5_wayTo, Cond.instanceMethod yX5_wayTo, Cond.selects RX5 yX5_wayTo yX5_wayTo, Cond.code yX5_wayTo cX5_wayTo 4 (some .int), Cond.fieldLink RX5 44 "VisitVansModel" "placeOf" "[I", Cond.methodLink RX5 93 yX5_reason, Cond.instanceMethod yX5_reason, Cond.selects RX5 yX5_reason yX5_reason, Cond.code yX5_reason cX5_reason 5 (some .int), Cond.methodLink RX5 97 yX5_makes, Cond.instanceMethod yX5_makes, Cond.selects RX5 yX5_makes yX5_makes, Cond.code yX5_makes cX5_makes 6 none, Cond.fieldLink RX5 32 "VisitVansModel" "vanOf" "[I", Cond.fieldLink RX5 35 "VisitVansModel" "begins" "[I", Cond.fieldLink RX5 41 "VisitVansModel" "leaves" "[I", Cond.fieldLink RX5 38 "VisitVansModel" "comes" "[I", Cond.fieldLink RX5 53 "VisitVansModel" "ways" "[I", Cond.fieldLink RX5 56 "VisitVansModel" "waits" "[I"]
def wsX5_looks : List Cond := .code yX5_looks cX5_looks 5 (some .int) :: ((wsX5_looks_r1 ++ wsX5_looks_r2) ++ wsX50)
def wsX5_rankOf : List Cond := .code yX5_rankOf cX5_rankOf 5 (some .int) :: ([.fieldLink RX5 7 "VisitVansModel" "s" "[I", .methodLink RX5 73 yX5_visit0, .instanceMethod yX5_visit0, .selects RX5 yX5_visit0 yX5_visit0, .initialized RX5, .code yX5_visit0 cX5_visit0 3 (some .int)] ++ wsX50)
def wsX5_plans_r1 : List Cond := [Cond.fieldLink RX5 7 "VisitVansModel" "s" "[I", Cond.fieldLink RX5 44 "VisitVansModel" "placeOf" "[I", Cond.fieldLink RX5 47 "VisitVansModel" "freeAt" "[I", Cond.fieldLink RX5 53 "VisitVansModel" "ways" "[I", Cond.fieldLink RX5 56 "VisitVansModel" "waits" "[I", Cond.fieldLink RX5 50 "VisitVansModel" "left" "[I", Cond.fieldLink RX5 26 "VisitVansModel" "order" "[I", Cond.fieldLink RX5 32 "VisitVansModel" "vanOf" "[I", Cond.fieldLink RX5 35 "VisitVansModel" "begins" "[I", Cond.fieldLink RX5 29 "VisitVansModel" "promise" "[I", Cond.methodLink RX5 69 yX5_van0, Cond.instanceMethod yX5_van0, Cond.selects RX5 yX5_van0 yX5_van0, Cond.initialized RX5, Cond.code yX5_van0 cX5_van0 3 (some .int), Cond.methodLink RX5 101 yX5_rankOf, Cond.instanceMethod yX5_rankOf, Cond.selects RX5 yX5_rankOf yX5_rankOf, Cond.code yX5_rankOf cX5_rankOf 5 (some .int), Cond.methodLink RX5 73 yX5_visit0, Cond.instanceMethod yX5_visit0, Cond.selects RX5 yX5_visit0 yX5_visit0, Cond.code yX5_visit0 cX5_visit0 3 (some .int), Cond.methodLink RX5 104 yX5_looks]
def wsX5_plans_r2 : List Cond := [Cond.instanceMethod yX5_looks, Cond.selects RX5 yX5_looks yX5_looks, Cond.code yX5_looks cX5_looks 5 (some .int), Cond.methodLink RX5 90 yX5_vanFor, Cond.instanceMethod yX5_vanFor, Cond.selects RX5 yX5_vanFor yX5_vanFor, Cond.code yX5_vanFor cX5_vanFor 6 (some .int), Cond.methodLink RX5 79 yX5_hasSkill, Cond.instanceMethod yX5_hasSkill, Cond.selects RX5 yX5_hasSkill yX5_hasSkill, Cond.code yX5_hasSkill cX5_hasSkill 3 (some .boolean), Cond.methodLink RX5 83 yX5_hasParts, Cond.instanceMethod yX5_hasParts, Cond.selects RX5 yX5_hasParts yX5_hasParts, Cond.code yX5_hasParts cX5_hasParts 3 (some .boolean), Cond.methodLink RX5 86 yX5_beginOf, Cond.instanceMethod yX5_beginOf, Cond.selects RX5 yX5_beginOf yX5_beginOf, Cond.code yX5_beginOf cX5_beginOf 6 (some .int), Cond.methodLink RX5 76 yX5_wayTo, Cond.instanceMethod yX5_wayTo, Cond.selects RX5 yX5_wayTo yX5_wayTo, Cond.code yX5_wayTo cX5_wayTo 4 (some .int), Cond.methodLink RX5 93 yX5_reason]
def wsX5_plans_r3 : List Cond := [Cond.instanceMethod yX5_reason, Cond.selects RX5 yX5_reason yX5_reason, Cond.code yX5_reason cX5_reason 5 (some .int), Cond.methodLink RX5 97 yX5_makes, Cond.instanceMethod yX5_makes, Cond.selects RX5 yX5_makes yX5_makes, Cond.code yX5_makes cX5_makes 6 none, Cond.fieldLink RX5 41 "VisitVansModel" "leaves" "[I", Cond.fieldLink RX5 38 "VisitVansModel" "comes" "[I"]
def wsX5_plans : List Cond := .code yX5_plans cX5_plans 3 none :: ((wsX5_plans_r1 ++ (wsX5_plans_r2 ++ wsX5_plans_r3)) ++ wsX50)
def wsX5_withPromise : List Cond := .code yX5_withPromise cX5_withPromise 5 (some .int) :: ([.fieldLink RX5 7 "VisitVansModel" "s" "[I", .fieldLink RX5 29 "VisitVansModel" "promise" "[I", .methodLink RX5 107 yX5_in, .static yX5_in, .initialized RX5, .code yX5_in cX5_in 3 (some .boolean)] ++ wsX50)
def wsX5_isSetting : List Cond := .code yX5_isSetting cX5_isSetting 2 (some .boolean) :: ([.methodLink RX5 107 yX5_in, .static yX5_in, .initialized RX5, .code yX5_in cX5_in 3 (some .boolean)])
def wsX5_set : List Cond := .code yX5_set cX5_set 4 (some .int) :: ([.fieldLink RX5 62 "VisitVansModel" "thrown" "I", .fieldLink RX5 7 "VisitVansModel" "s" "[I", .methodLink RX5 111 yX5_isSetting, .static yX5_isSetting, .initialized RX5, .code yX5_isSetting cX5_isSetting 2 (some .boolean), .methodLink RX5 107 yX5_in, .static yX5_in, .code yX5_in cX5_in 3 (some .boolean), .methodLink RX5 114 yX5_records, .instanceMethod yX5_records, .selects RX5 yX5_records yX5_records, .code yX5_records cX5_records 2 none, .fieldLink RX5 66 "VisitVansModel" "undoMany" "I", .fieldLink RX5 13 "VisitVansModel" "undos" "[I"] ++ wsX50)
def wsX5_refuses : List Cond := .code yX5_refuses cX5_refuses 6 (some .int) :: ([.methodLink RX5 107 yX5_in, .static yX5_in, .initialized RX5, .code yX5_in cX5_in 3 (some .boolean)])
def wsX5_refusesVisit : List Cond := .code yX5_refusesVisit cX5_refusesVisit 8 (some .int) :: ([.fieldLink RX5 7 "VisitVansModel" "s" "[I", .methodLink RX5 117 yX5_refuses, .static yX5_refuses, .initialized RX5, .code yX5_refuses cX5_refuses 6 (some .int), .methodLink RX5 107 yX5_in, .static yX5_in, .code yX5_in cX5_in 3 (some .boolean)] ++ wsX50)
def wsX5_laysVisit : List Cond := .code yX5_laysVisit cX5_laysVisit 8 (some .int) :: ([.fieldLink RX5 7 "VisitVansModel" "s" "[I"] ++ wsX50)
def wsX5_visit : List Cond := .code yX5_visit cX5_visit 8 (some .int) :: ([.fieldLink RX5 62 "VisitVansModel" "thrown" "I", .methodLink RX5 121 yX5_refusesVisit, .instanceMethod yX5_refusesVisit, .selects RX5 yX5_refusesVisit yX5_refusesVisit, .initialized RX5, .code yX5_refusesVisit cX5_refusesVisit 8 (some .int), .fieldLink RX5 7 "VisitVansModel" "s" "[I", .methodLink RX5 117 yX5_refuses, .static yX5_refuses, .code yX5_refuses cX5_refuses 6 (some .int), .methodLink RX5 107 yX5_in, .static yX5_in, .code yX5_in cX5_in 3 (some .boolean), .methodLink RX5 114 yX5_records, .instanceMethod yX5_records, .selects RX5 yX5_records yX5_records, .code yX5_records cX5_records 2 none, .fieldLink RX5 66 "VisitVansModel" "undoMany" "I", .fieldLink RX5 13 "VisitVansModel" "undos" "[I", .methodLink RX5 124 yX5_laysVisit, .instanceMethod yX5_laysVisit, .selects RX5 yX5_laysVisit yX5_laysVisit, .code yX5_laysVisit cX5_laysVisit 8 (some .int)] ++ wsX50)
def wsX5_isVisit : List Cond := .code yX5_isVisit cX5_isVisit 2 (some .boolean) :: ([.fieldLink RX5 7 "VisitVansModel" "s" "[I", .methodLink RX5 107 yX5_in, .static yX5_in, .initialized RX5, .code yX5_in cX5_in 3 (some .boolean)] ++ wsX50)
def wsX5_dropsVisit : List Cond := .code yX5_dropsVisit cX5_dropsVisit 3 (some .int) :: ([.fieldLink RX5 7 "VisitVansModel" "s" "[I"] ++ wsX50)
def wsX5_drop : List Cond := .code yX5_drop cX5_drop 2 (some .int) :: ([.fieldLink RX5 62 "VisitVansModel" "thrown" "I", .methodLink RX5 127 yX5_isVisit, .instanceMethod yX5_isVisit, .selects RX5 yX5_isVisit yX5_isVisit, .initialized RX5, .code yX5_isVisit cX5_isVisit 2 (some .boolean), .fieldLink RX5 7 "VisitVansModel" "s" "[I", .methodLink RX5 107 yX5_in, .static yX5_in, .code yX5_in cX5_in 3 (some .boolean), .methodLink RX5 114 yX5_records, .instanceMethod yX5_records, .selects RX5 yX5_records yX5_records, .code yX5_records cX5_records 2 none, .fieldLink RX5 66 "VisitVansModel" "undoMany" "I", .fieldLink RX5 13 "VisitVansModel" "undos" "[I", .methodLink RX5 131 yX5_dropsVisit, .instanceMethod yX5_dropsVisit, .selects RX5 yX5_dropsVisit yX5_dropsVisit, .code yX5_dropsVisit cX5_dropsVisit 3 (some .int)] ++ wsX50)
def wsX5_refusesVan : List Cond := .code yX5_refusesVan cX5_refusesVan 3 (some .int) :: ([.fieldLink RX5 7 "VisitVansModel" "s" "[I", .methodLink RX5 107 yX5_in, .static yX5_in, .initialized RX5, .code yX5_in cX5_in 3 (some .boolean)] ++ wsX50)
def wsX5_laysVan : List Cond := .code yX5_laysVan cX5_laysVan 6 (some .int) :: ([.fieldLink RX5 7 "VisitVansModel" "s" "[I"] ++ wsX50)
def wsX5_van : List Cond := .code yX5_van cX5_van 4 (some .int) :: ([.fieldLink RX5 62 "VisitVansModel" "thrown" "I", .methodLink RX5 134 yX5_refusesVan, .instanceMethod yX5_refusesVan, .selects RX5 yX5_refusesVan yX5_refusesVan, .initialized RX5, .code yX5_refusesVan cX5_refusesVan 3 (some .int), .fieldLink RX5 7 "VisitVansModel" "s" "[I", .methodLink RX5 107 yX5_in, .static yX5_in, .code yX5_in cX5_in 3 (some .boolean), .methodLink RX5 114 yX5_records, .instanceMethod yX5_records, .selects RX5 yX5_records yX5_records, .code yX5_records cX5_records 2 none, .fieldLink RX5 66 "VisitVansModel" "undoMany" "I", .fieldLink RX5 13 "VisitVansModel" "undos" "[I", .methodLink RX5 137 yX5_laysVan, .instanceMethod yX5_laysVan, .selects RX5 yX5_laysVan yX5_laysVan, .code yX5_laysVan cX5_laysVan 6 (some .int)] ++ wsX50)
def wsX5_isVan : List Cond := .code yX5_isVan cX5_isVan 2 (some .boolean) :: ([.fieldLink RX5 7 "VisitVansModel" "s" "[I", .methodLink RX5 107 yX5_in, .static yX5_in, .initialized RX5, .code yX5_in cX5_in 3 (some .boolean)] ++ wsX50)
def wsX5_refusesLoad : List Cond := .code yX5_refusesLoad cX5_refusesLoad 4 (some .int) :: ([.methodLink RX5 140 yX5_isVan, .instanceMethod yX5_isVan, .selects RX5 yX5_isVan yX5_isVan, .initialized RX5, .code yX5_isVan cX5_isVan 2 (some .boolean), .fieldLink RX5 7 "VisitVansModel" "s" "[I", .methodLink RX5 107 yX5_in, .static yX5_in, .code yX5_in cX5_in 3 (some .boolean)] ++ wsX50)
def wsX5_load : List Cond := .code yX5_load cX5_load 6 (some .int) :: ([.fieldLink RX5 62 "VisitVansModel" "thrown" "I", .fieldLink RX5 7 "VisitVansModel" "s" "[I", .methodLink RX5 143 yX5_refusesLoad, .instanceMethod yX5_refusesLoad, .selects RX5 yX5_refusesLoad yX5_refusesLoad, .initialized RX5, .code yX5_refusesLoad cX5_refusesLoad 4 (some .int), .methodLink RX5 140 yX5_isVan, .instanceMethod yX5_isVan, .selects RX5 yX5_isVan yX5_isVan, .code yX5_isVan cX5_isVan 2 (some .boolean), .methodLink RX5 107 yX5_in, .static yX5_in, .code yX5_in cX5_in 3 (some .boolean), .methodLink RX5 114 yX5_records, .instanceMethod yX5_records, .selects RX5 yX5_records yX5_records, .code yX5_records cX5_records 2 none, .fieldLink RX5 66 "VisitVansModel" "undoMany" "I", .fieldLink RX5 13 "VisitVansModel" "undos" "[I", .methodLink RX5 69 yX5_van0, .instanceMethod yX5_van0, .selects RX5 yX5_van0 yX5_van0, .code yX5_van0 cX5_van0 3 (some .int)] ++ wsX50)
def wsX5_ofVisit_r1 : List Cond := [Cond.fieldLink RX5 62 "VisitVansModel" "thrown" "I", Cond.fieldLink RX5 29 "VisitVansModel" "promise" "[I", Cond.fieldLink RX5 32 "VisitVansModel" "vanOf" "[I", Cond.fieldLink RX5 35 "VisitVansModel" "begins" "[I", Cond.fieldLink RX5 7 "VisitVansModel" "s" "[I", Cond.methodLink RX5 127 yX5_isVisit, Cond.instanceMethod yX5_isVisit, Cond.selects RX5 yX5_isVisit yX5_isVisit, Cond.initialized RX5, Cond.code yX5_isVisit cX5_isVisit 2 (some .boolean), Cond.methodLink RX5 107 yX5_in, Cond.static yX5_in, Cond.code yX5_in cX5_in 3 (some .boolean), Cond.methodLink RX5 146 yX5_plans, Cond.instanceMethod yX5_plans, Cond.selects RX5 yX5_plans yX5_plans, Cond.code yX5_plans cX5_plans 3 none, Cond.fieldLink RX5 44 "VisitVansModel" "placeOf" "[I", Cond.fieldLink RX5 47 "VisitVansModel" "freeAt" "[I", Cond.fieldLink RX5 53 "VisitVansModel" "ways" "[I", Cond.fieldLink RX5 56 "VisitVansModel" "waits" "[I", Cond.fieldLink RX5 50 "VisitVansModel" "left" "[I", Cond.fieldLink RX5 26 "VisitVansModel" "order" "[I", Cond.methodLink RX5 69 yX5_van0]
def wsX5_ofVisit_r2 : List Cond := [Cond.instanceMethod yX5_van0, Cond.selects RX5 yX5_van0 yX5_van0, Cond.code yX5_van0 cX5_van0 3 (some .int), Cond.methodLink RX5 101 yX5_rankOf, Cond.instanceMethod yX5_rankOf, Cond.selects RX5 yX5_rankOf yX5_rankOf, Cond.code yX5_rankOf cX5_rankOf 5 (some .int), Cond.methodLink RX5 73 yX5_visit0, Cond.instanceMethod yX5_visit0, Cond.selects RX5 yX5_visit0 yX5_visit0, Cond.code yX5_visit0 cX5_visit0 3 (some .int), Cond.methodLink RX5 104 yX5_looks, Cond.instanceMethod yX5_looks, Cond.selects RX5 yX5_looks yX5_looks, Cond.code yX5_looks cX5_looks 5 (some .int), Cond.methodLink RX5 90 yX5_vanFor, Cond.instanceMethod yX5_vanFor, Cond.selects RX5 yX5_vanFor yX5_vanFor, Cond.code yX5_vanFor cX5_vanFor 6 (some .int), Cond.methodLink RX5 79 yX5_hasSkill, Cond.instanceMethod yX5_hasSkill, Cond.selects RX5 yX5_hasSkill yX5_hasSkill, Cond.code yX5_hasSkill cX5_hasSkill 3 (some .boolean), Cond.methodLink RX5 83 yX5_hasParts]
def wsX5_ofVisit_r3 : List Cond := [Cond.instanceMethod yX5_hasParts, Cond.selects RX5 yX5_hasParts yX5_hasParts, Cond.code yX5_hasParts cX5_hasParts 3 (some .boolean), Cond.methodLink RX5 86 yX5_beginOf, Cond.instanceMethod yX5_beginOf, Cond.selects RX5 yX5_beginOf yX5_beginOf, Cond.code yX5_beginOf cX5_beginOf 6 (some .int), Cond.methodLink RX5 76 yX5_wayTo, Cond.instanceMethod yX5_wayTo, Cond.selects RX5 yX5_wayTo yX5_wayTo, Cond.code yX5_wayTo cX5_wayTo 4 (some .int), Cond.methodLink RX5 93 yX5_reason, Cond.instanceMethod yX5_reason, Cond.selects RX5 yX5_reason yX5_reason, Cond.code yX5_reason cX5_reason 5 (some .int), Cond.methodLink RX5 97 yX5_makes, Cond.instanceMethod yX5_makes, Cond.selects RX5 yX5_makes yX5_makes, Cond.code yX5_makes cX5_makes 6 none, Cond.fieldLink RX5 41 "VisitVansModel" "leaves" "[I", Cond.fieldLink RX5 38 "VisitVansModel" "comes" "[I"]
def wsX5_ofVisit : List Cond := .code yX5_ofVisit cX5_ofVisit 3 (some .int) :: ((wsX5_ofVisit_r1 ++ (wsX5_ofVisit_r2 ++ wsX5_ofVisit_r3)) ++ wsX50)
def wsX5_visitsOf : List Cond := .code yX5_visitsOf cX5_visitsOf 4 (some .int) :: ([.fieldLink RX5 7 "VisitVansModel" "s" "[I", .fieldLink RX5 32 "VisitVansModel" "vanOf" "[I"] ++ wsX50)
def wsX5_eventsOf : List Cond := .code yX5_eventsOf cX5_eventsOf 5 (some .int) :: ([.fieldLink RX5 7 "VisitVansModel" "s" "[I", .fieldLink RX5 38 "VisitVansModel" "comes" "[I", .fieldLink RX5 41 "VisitVansModel" "leaves" "[I", .fieldLink RX5 35 "VisitVansModel" "begins" "[I", .fieldLink RX5 32 "VisitVansModel" "vanOf" "[I"] ++ wsX50)
def wsX5_ofVan_r1 : List Cond := [Cond.fieldLink RX5 62 "VisitVansModel" "thrown" "I", Cond.fieldLink RX5 53 "VisitVansModel" "ways" "[I", Cond.fieldLink RX5 56 "VisitVansModel" "waits" "[I", Cond.fieldLink RX5 47 "VisitVansModel" "freeAt" "[I", Cond.fieldLink RX5 44 "VisitVansModel" "placeOf" "[I", Cond.methodLink RX5 140 yX5_isVan, Cond.instanceMethod yX5_isVan, Cond.selects RX5 yX5_isVan yX5_isVan, Cond.initialized RX5, Cond.code yX5_isVan cX5_isVan 2 (some .boolean), Cond.fieldLink RX5 7 "VisitVansModel" "s" "[I", Cond.methodLink RX5 107 yX5_in, Cond.static yX5_in, Cond.code yX5_in cX5_in 3 (some .boolean), Cond.methodLink RX5 146 yX5_plans, Cond.instanceMethod yX5_plans, Cond.selects RX5 yX5_plans yX5_plans, Cond.code yX5_plans cX5_plans 3 none, Cond.fieldLink RX5 50 "VisitVansModel" "left" "[I", Cond.fieldLink RX5 26 "VisitVansModel" "order" "[I", Cond.fieldLink RX5 32 "VisitVansModel" "vanOf" "[I", Cond.fieldLink RX5 35 "VisitVansModel" "begins" "[I", Cond.fieldLink RX5 29 "VisitVansModel" "promise" "[I", Cond.methodLink RX5 69 yX5_van0]
def wsX5_ofVan_r2 : List Cond := [Cond.instanceMethod yX5_van0, Cond.selects RX5 yX5_van0 yX5_van0, Cond.code yX5_van0 cX5_van0 3 (some .int), Cond.methodLink RX5 101 yX5_rankOf, Cond.instanceMethod yX5_rankOf, Cond.selects RX5 yX5_rankOf yX5_rankOf, Cond.code yX5_rankOf cX5_rankOf 5 (some .int), Cond.methodLink RX5 73 yX5_visit0, Cond.instanceMethod yX5_visit0, Cond.selects RX5 yX5_visit0 yX5_visit0, Cond.code yX5_visit0 cX5_visit0 3 (some .int), Cond.methodLink RX5 104 yX5_looks, Cond.instanceMethod yX5_looks, Cond.selects RX5 yX5_looks yX5_looks, Cond.code yX5_looks cX5_looks 5 (some .int), Cond.methodLink RX5 90 yX5_vanFor, Cond.instanceMethod yX5_vanFor, Cond.selects RX5 yX5_vanFor yX5_vanFor, Cond.code yX5_vanFor cX5_vanFor 6 (some .int), Cond.methodLink RX5 79 yX5_hasSkill, Cond.instanceMethod yX5_hasSkill, Cond.selects RX5 yX5_hasSkill yX5_hasSkill, Cond.code yX5_hasSkill cX5_hasSkill 3 (some .boolean), Cond.methodLink RX5 83 yX5_hasParts]
def wsX5_ofVan_r3 : List Cond := [Cond.instanceMethod yX5_hasParts, Cond.selects RX5 yX5_hasParts yX5_hasParts, Cond.code yX5_hasParts cX5_hasParts 3 (some .boolean), Cond.methodLink RX5 86 yX5_beginOf, Cond.instanceMethod yX5_beginOf, Cond.selects RX5 yX5_beginOf yX5_beginOf, Cond.code yX5_beginOf cX5_beginOf 6 (some .int), Cond.methodLink RX5 76 yX5_wayTo, Cond.instanceMethod yX5_wayTo, Cond.selects RX5 yX5_wayTo yX5_wayTo, Cond.code yX5_wayTo cX5_wayTo 4 (some .int), Cond.methodLink RX5 93 yX5_reason, Cond.instanceMethod yX5_reason, Cond.selects RX5 yX5_reason yX5_reason, Cond.code yX5_reason cX5_reason 5 (some .int), Cond.methodLink RX5 97 yX5_makes, Cond.instanceMethod yX5_makes, Cond.selects RX5 yX5_makes yX5_makes, Cond.code yX5_makes cX5_makes 6 none, Cond.fieldLink RX5 41 "VisitVansModel" "leaves" "[I", Cond.fieldLink RX5 38 "VisitVansModel" "comes" "[I", Cond.methodLink RX5 149 yX5_visitsOf, Cond.instanceMethod yX5_visitsOf, Cond.selects RX5 yX5_visitsOf yX5_visitsOf]
def wsX5_ofVan_r4 : List Cond := [Cond.code yX5_visitsOf cX5_visitsOf 4 (some .int), Cond.methodLink RX5 152 yX5_eventsOf, Cond.instanceMethod yX5_eventsOf, Cond.selects RX5 yX5_eventsOf yX5_eventsOf, Cond.code yX5_eventsOf cX5_eventsOf 5 (some .int)]
def wsX5_ofVan : List Cond := .code yX5_ofVan cX5_ofVan 3 (some .int) :: ((wsX5_ofVan_r1 ++ (wsX5_ofVan_r2 ++ (wsX5_ofVan_r3 ++ wsX5_ofVan_r4))) ++ wsX50)
def wsX5_stock_r1 : List Cond := [Cond.fieldLink RX5 62 "VisitVansModel" "thrown" "I", Cond.fieldLink RX5 50 "VisitVansModel" "left" "[I", Cond.methodLink RX5 140 yX5_isVan, Cond.instanceMethod yX5_isVan, Cond.selects RX5 yX5_isVan yX5_isVan, Cond.initialized RX5, Cond.code yX5_isVan cX5_isVan 2 (some .boolean), Cond.fieldLink RX5 7 "VisitVansModel" "s" "[I", Cond.methodLink RX5 107 yX5_in, Cond.static yX5_in, Cond.code yX5_in cX5_in 3 (some .boolean), Cond.methodLink RX5 146 yX5_plans, Cond.instanceMethod yX5_plans, Cond.selects RX5 yX5_plans yX5_plans, Cond.code yX5_plans cX5_plans 3 none, Cond.fieldLink RX5 44 "VisitVansModel" "placeOf" "[I", Cond.fieldLink RX5 47 "VisitVansModel" "freeAt" "[I", Cond.fieldLink RX5 53 "VisitVansModel" "ways" "[I", Cond.fieldLink RX5 56 "VisitVansModel" "waits" "[I", Cond.fieldLink RX5 26 "VisitVansModel" "order" "[I", Cond.fieldLink RX5 32 "VisitVansModel" "vanOf" "[I", Cond.fieldLink RX5 35 "VisitVansModel" "begins" "[I", Cond.fieldLink RX5 29 "VisitVansModel" "promise" "[I", Cond.methodLink RX5 69 yX5_van0]
def wsX5_stock_r2 : List Cond := [Cond.instanceMethod yX5_van0, Cond.selects RX5 yX5_van0 yX5_van0, Cond.code yX5_van0 cX5_van0 3 (some .int), Cond.methodLink RX5 101 yX5_rankOf, Cond.instanceMethod yX5_rankOf, Cond.selects RX5 yX5_rankOf yX5_rankOf, Cond.code yX5_rankOf cX5_rankOf 5 (some .int), Cond.methodLink RX5 73 yX5_visit0, Cond.instanceMethod yX5_visit0, Cond.selects RX5 yX5_visit0 yX5_visit0, Cond.code yX5_visit0 cX5_visit0 3 (some .int), Cond.methodLink RX5 104 yX5_looks, Cond.instanceMethod yX5_looks, Cond.selects RX5 yX5_looks yX5_looks, Cond.code yX5_looks cX5_looks 5 (some .int), Cond.methodLink RX5 90 yX5_vanFor, Cond.instanceMethod yX5_vanFor, Cond.selects RX5 yX5_vanFor yX5_vanFor, Cond.code yX5_vanFor cX5_vanFor 6 (some .int), Cond.methodLink RX5 79 yX5_hasSkill, Cond.instanceMethod yX5_hasSkill, Cond.selects RX5 yX5_hasSkill yX5_hasSkill, Cond.code yX5_hasSkill cX5_hasSkill 3 (some .boolean), Cond.methodLink RX5 83 yX5_hasParts]
def wsX5_stock_r3 : List Cond := [Cond.instanceMethod yX5_hasParts, Cond.selects RX5 yX5_hasParts yX5_hasParts, Cond.code yX5_hasParts cX5_hasParts 3 (some .boolean), Cond.methodLink RX5 86 yX5_beginOf, Cond.instanceMethod yX5_beginOf, Cond.selects RX5 yX5_beginOf yX5_beginOf, Cond.code yX5_beginOf cX5_beginOf 6 (some .int), Cond.methodLink RX5 76 yX5_wayTo, Cond.instanceMethod yX5_wayTo, Cond.selects RX5 yX5_wayTo yX5_wayTo, Cond.code yX5_wayTo cX5_wayTo 4 (some .int), Cond.methodLink RX5 93 yX5_reason, Cond.instanceMethod yX5_reason, Cond.selects RX5 yX5_reason yX5_reason, Cond.code yX5_reason cX5_reason 5 (some .int), Cond.methodLink RX5 97 yX5_makes, Cond.instanceMethod yX5_makes, Cond.selects RX5 yX5_makes yX5_makes, Cond.code yX5_makes cX5_makes 6 none, Cond.fieldLink RX5 41 "VisitVansModel" "leaves" "[I", Cond.fieldLink RX5 38 "VisitVansModel" "comes" "[I"]
def wsX5_stock : List Cond := .code yX5_stock cX5_stock 6 (some .int) :: ((wsX5_stock_r1 ++ (wsX5_stock_r2 ++ wsX5_stock_r3)) ++ wsX50)
def wsX5_nextVisit : List Cond := .code yX5_nextVisit cX5_nextVisit 6 (some .int) :: ([.fieldLink RX5 7 "VisitVansModel" "s" "[I", .fieldLink RX5 32 "VisitVansModel" "vanOf" "[I", .fieldLink RX5 35 "VisitVansModel" "begins" "[I"] ++ wsX50)
def wsX5_tells : List Cond := .code yX5_tells cX5_tells 6 (some .int) :: ([])
def wsX5_event_r1 : List Cond := [Cond.fieldLink RX5 62 "VisitVansModel" "thrown" "I", Cond.fieldLink RX5 38 "VisitVansModel" "comes" "[I", Cond.fieldLink RX5 41 "VisitVansModel" "leaves" "[I", Cond.fieldLink RX5 35 "VisitVansModel" "begins" "[I", Cond.fieldLink RX5 7 "VisitVansModel" "s" "[I", Cond.methodLink RX5 140 yX5_isVan, Cond.instanceMethod yX5_isVan, Cond.selects RX5 yX5_isVan yX5_isVan, Cond.initialized RX5, Cond.code yX5_isVan cX5_isVan 2 (some .boolean), Cond.methodLink RX5 107 yX5_in, Cond.static yX5_in, Cond.code yX5_in cX5_in 3 (some .boolean), Cond.methodLink RX5 146 yX5_plans, Cond.instanceMethod yX5_plans, Cond.selects RX5 yX5_plans yX5_plans, Cond.code yX5_plans cX5_plans 3 none, Cond.fieldLink RX5 44 "VisitVansModel" "placeOf" "[I", Cond.fieldLink RX5 47 "VisitVansModel" "freeAt" "[I", Cond.fieldLink RX5 53 "VisitVansModel" "ways" "[I", Cond.fieldLink RX5 56 "VisitVansModel" "waits" "[I", Cond.fieldLink RX5 50 "VisitVansModel" "left" "[I", Cond.fieldLink RX5 26 "VisitVansModel" "order" "[I", Cond.fieldLink RX5 32 "VisitVansModel" "vanOf" "[I"]
def wsX5_event_r2 : List Cond := [Cond.fieldLink RX5 29 "VisitVansModel" "promise" "[I", Cond.methodLink RX5 69 yX5_van0, Cond.instanceMethod yX5_van0, Cond.selects RX5 yX5_van0 yX5_van0, Cond.code yX5_van0 cX5_van0 3 (some .int), Cond.methodLink RX5 101 yX5_rankOf, Cond.instanceMethod yX5_rankOf, Cond.selects RX5 yX5_rankOf yX5_rankOf, Cond.code yX5_rankOf cX5_rankOf 5 (some .int), Cond.methodLink RX5 73 yX5_visit0, Cond.instanceMethod yX5_visit0, Cond.selects RX5 yX5_visit0 yX5_visit0, Cond.code yX5_visit0 cX5_visit0 3 (some .int), Cond.methodLink RX5 104 yX5_looks, Cond.instanceMethod yX5_looks, Cond.selects RX5 yX5_looks yX5_looks, Cond.code yX5_looks cX5_looks 5 (some .int), Cond.methodLink RX5 90 yX5_vanFor, Cond.instanceMethod yX5_vanFor, Cond.selects RX5 yX5_vanFor yX5_vanFor, Cond.code yX5_vanFor cX5_vanFor 6 (some .int), Cond.methodLink RX5 79 yX5_hasSkill, Cond.instanceMethod yX5_hasSkill, Cond.selects RX5 yX5_hasSkill yX5_hasSkill]
def wsX5_event_r3 : List Cond := [Cond.code yX5_hasSkill cX5_hasSkill 3 (some .boolean), Cond.methodLink RX5 83 yX5_hasParts, Cond.instanceMethod yX5_hasParts, Cond.selects RX5 yX5_hasParts yX5_hasParts, Cond.code yX5_hasParts cX5_hasParts 3 (some .boolean), Cond.methodLink RX5 86 yX5_beginOf, Cond.instanceMethod yX5_beginOf, Cond.selects RX5 yX5_beginOf yX5_beginOf, Cond.code yX5_beginOf cX5_beginOf 6 (some .int), Cond.methodLink RX5 76 yX5_wayTo, Cond.instanceMethod yX5_wayTo, Cond.selects RX5 yX5_wayTo yX5_wayTo, Cond.code yX5_wayTo cX5_wayTo 4 (some .int), Cond.methodLink RX5 93 yX5_reason, Cond.instanceMethod yX5_reason, Cond.selects RX5 yX5_reason yX5_reason, Cond.code yX5_reason cX5_reason 5 (some .int), Cond.methodLink RX5 97 yX5_makes, Cond.instanceMethod yX5_makes, Cond.selects RX5 yX5_makes yX5_makes, Cond.code yX5_makes cX5_makes 6 none, Cond.methodLink RX5 152 yX5_eventsOf, Cond.instanceMethod yX5_eventsOf, Cond.selects RX5 yX5_eventsOf yX5_eventsOf]
def wsX5_event_r4 : List Cond := [Cond.code yX5_eventsOf cX5_eventsOf 5 (some .int), Cond.methodLink RX5 155 yX5_nextVisit, Cond.instanceMethod yX5_nextVisit, Cond.selects RX5 yX5_nextVisit yX5_nextVisit, Cond.code yX5_nextVisit cX5_nextVisit 6 (some .int), Cond.methodLink RX5 158 yX5_tells, Cond.instanceMethod yX5_tells, Cond.selects RX5 yX5_tells yX5_tells, Cond.code yX5_tells cX5_tells 6 (some .int)]
def wsX5_event : List Cond := .code yX5_event cX5_event 6 (some .int) :: ((wsX5_event_r1 ++ (wsX5_event_r2 ++ (wsX5_event_r3 ++ wsX5_event_r4))) ++ wsX50)
def wsX5_overVans : List Cond := .code yX5_overVans cX5_overVans 4 (some .int) :: ([.fieldLink RX5 7 "VisitVansModel" "s" "[I", .fieldLink RX5 47 "VisitVansModel" "freeAt" "[I", .fieldLink RX5 53 "VisitVansModel" "ways" "[I", .fieldLink RX5 56 "VisitVansModel" "waits" "[I"] ++ wsX50)
def wsX5_count_r1 : List Cond := [Cond.fieldLink RX5 62 "VisitVansModel" "thrown" "I", Cond.fieldLink RX5 7 "VisitVansModel" "s" "[I", Cond.fieldLink RX5 168 "VisitVansModel" "length" "I", Cond.fieldLink RX5 66 "VisitVansModel" "undoMany" "I", Cond.methodLink RX5 146 yX5_plans, Cond.instanceMethod yX5_plans, Cond.selects RX5 yX5_plans yX5_plans, Cond.initialized RX5, Cond.code yX5_plans cX5_plans 3 none, Cond.fieldLink RX5 44 "VisitVansModel" "placeOf" "[I", Cond.fieldLink RX5 47 "VisitVansModel" "freeAt" "[I", Cond.fieldLink RX5 53 "VisitVansModel" "ways" "[I", Cond.fieldLink RX5 56 "VisitVansModel" "waits" "[I", Cond.fieldLink RX5 50 "VisitVansModel" "left" "[I", Cond.fieldLink RX5 26 "VisitVansModel" "order" "[I", Cond.fieldLink RX5 32 "VisitVansModel" "vanOf" "[I", Cond.fieldLink RX5 35 "VisitVansModel" "begins" "[I", Cond.fieldLink RX5 29 "VisitVansModel" "promise" "[I", Cond.methodLink RX5 69 yX5_van0, Cond.instanceMethod yX5_van0, Cond.selects RX5 yX5_van0 yX5_van0, Cond.code yX5_van0 cX5_van0 3 (some .int), Cond.methodLink RX5 101 yX5_rankOf, Cond.instanceMethod yX5_rankOf]
def wsX5_count_r2 : List Cond := [Cond.selects RX5 yX5_rankOf yX5_rankOf, Cond.code yX5_rankOf cX5_rankOf 5 (some .int), Cond.methodLink RX5 73 yX5_visit0, Cond.instanceMethod yX5_visit0, Cond.selects RX5 yX5_visit0 yX5_visit0, Cond.code yX5_visit0 cX5_visit0 3 (some .int), Cond.methodLink RX5 104 yX5_looks, Cond.instanceMethod yX5_looks, Cond.selects RX5 yX5_looks yX5_looks, Cond.code yX5_looks cX5_looks 5 (some .int), Cond.methodLink RX5 90 yX5_vanFor, Cond.instanceMethod yX5_vanFor, Cond.selects RX5 yX5_vanFor yX5_vanFor, Cond.code yX5_vanFor cX5_vanFor 6 (some .int), Cond.methodLink RX5 79 yX5_hasSkill, Cond.instanceMethod yX5_hasSkill, Cond.selects RX5 yX5_hasSkill yX5_hasSkill, Cond.code yX5_hasSkill cX5_hasSkill 3 (some .boolean), Cond.methodLink RX5 83 yX5_hasParts, Cond.instanceMethod yX5_hasParts, Cond.selects RX5 yX5_hasParts yX5_hasParts, Cond.code yX5_hasParts cX5_hasParts 3 (some .boolean), Cond.methodLink RX5 86 yX5_beginOf, Cond.instanceMethod yX5_beginOf]
def wsX5_count_r3 : List Cond := [Cond.selects RX5 yX5_beginOf yX5_beginOf, Cond.code yX5_beginOf cX5_beginOf 6 (some .int), Cond.methodLink RX5 76 yX5_wayTo, Cond.instanceMethod yX5_wayTo, Cond.selects RX5 yX5_wayTo yX5_wayTo, Cond.code yX5_wayTo cX5_wayTo 4 (some .int), Cond.methodLink RX5 93 yX5_reason, Cond.instanceMethod yX5_reason, Cond.selects RX5 yX5_reason yX5_reason, Cond.code yX5_reason cX5_reason 5 (some .int), Cond.methodLink RX5 97 yX5_makes, Cond.instanceMethod yX5_makes, Cond.selects RX5 yX5_makes yX5_makes, Cond.code yX5_makes cX5_makes 6 none, Cond.fieldLink RX5 41 "VisitVansModel" "leaves" "[I", Cond.fieldLink RX5 38 "VisitVansModel" "comes" "[I", Cond.methodLink RX5 162 yX5_withPromise, Cond.instanceMethod yX5_withPromise, Cond.selects RX5 yX5_withPromise yX5_withPromise, Cond.code yX5_withPromise cX5_withPromise 5 (some .int), Cond.methodLink RX5 107 yX5_in, Cond.static yX5_in, Cond.code yX5_in cX5_in 3 (some .boolean), Cond.methodLink RX5 165 yX5_overVans]
def wsX5_count_r4 : List Cond := [Cond.instanceMethod yX5_overVans, Cond.selects RX5 yX5_overVans yX5_overVans, Cond.code yX5_overVans cX5_overVans 4 (some .int)]
def wsX5_count : List Cond := .code yX5_count cX5_count 2 (some .int) :: ((wsX5_count_r1 ++ (wsX5_count_r2 ++ (wsX5_count_r3 ++ wsX5_count_r4))) ++ wsX50)
def wsX5_wanted_r1 : List Cond := [Cond.fieldLink RX5 62 "VisitVansModel" "thrown" "I", Cond.fieldLink RX5 7 "VisitVansModel" "s" "[I", Cond.fieldLink RX5 29 "VisitVansModel" "promise" "[I", Cond.methodLink RX5 107 yX5_in, Cond.static yX5_in, Cond.initialized RX5, Cond.code yX5_in cX5_in 3 (some .boolean), Cond.methodLink RX5 146 yX5_plans, Cond.instanceMethod yX5_plans, Cond.selects RX5 yX5_plans yX5_plans, Cond.code yX5_plans cX5_plans 3 none, Cond.fieldLink RX5 44 "VisitVansModel" "placeOf" "[I", Cond.fieldLink RX5 47 "VisitVansModel" "freeAt" "[I", Cond.fieldLink RX5 53 "VisitVansModel" "ways" "[I", Cond.fieldLink RX5 56 "VisitVansModel" "waits" "[I", Cond.fieldLink RX5 50 "VisitVansModel" "left" "[I", Cond.fieldLink RX5 26 "VisitVansModel" "order" "[I", Cond.fieldLink RX5 32 "VisitVansModel" "vanOf" "[I", Cond.fieldLink RX5 35 "VisitVansModel" "begins" "[I", Cond.methodLink RX5 69 yX5_van0, Cond.instanceMethod yX5_van0, Cond.selects RX5 yX5_van0 yX5_van0, Cond.code yX5_van0 cX5_van0 3 (some .int), Cond.methodLink RX5 101 yX5_rankOf]
def wsX5_wanted_r2 : List Cond := [Cond.instanceMethod yX5_rankOf, Cond.selects RX5 yX5_rankOf yX5_rankOf, Cond.code yX5_rankOf cX5_rankOf 5 (some .int), Cond.methodLink RX5 73 yX5_visit0, Cond.instanceMethod yX5_visit0, Cond.selects RX5 yX5_visit0 yX5_visit0, Cond.code yX5_visit0 cX5_visit0 3 (some .int), Cond.methodLink RX5 104 yX5_looks, Cond.instanceMethod yX5_looks, Cond.selects RX5 yX5_looks yX5_looks, Cond.code yX5_looks cX5_looks 5 (some .int), Cond.methodLink RX5 90 yX5_vanFor, Cond.instanceMethod yX5_vanFor, Cond.selects RX5 yX5_vanFor yX5_vanFor, Cond.code yX5_vanFor cX5_vanFor 6 (some .int), Cond.methodLink RX5 79 yX5_hasSkill, Cond.instanceMethod yX5_hasSkill, Cond.selects RX5 yX5_hasSkill yX5_hasSkill, Cond.code yX5_hasSkill cX5_hasSkill 3 (some .boolean), Cond.methodLink RX5 83 yX5_hasParts, Cond.instanceMethod yX5_hasParts, Cond.selects RX5 yX5_hasParts yX5_hasParts, Cond.code yX5_hasParts cX5_hasParts 3 (some .boolean), Cond.methodLink RX5 86 yX5_beginOf]
def wsX5_wanted_r3 : List Cond := [Cond.instanceMethod yX5_beginOf, Cond.selects RX5 yX5_beginOf yX5_beginOf, Cond.code yX5_beginOf cX5_beginOf 6 (some .int), Cond.methodLink RX5 76 yX5_wayTo, Cond.instanceMethod yX5_wayTo, Cond.selects RX5 yX5_wayTo yX5_wayTo, Cond.code yX5_wayTo cX5_wayTo 4 (some .int), Cond.methodLink RX5 93 yX5_reason, Cond.instanceMethod yX5_reason, Cond.selects RX5 yX5_reason yX5_reason, Cond.code yX5_reason cX5_reason 5 (some .int), Cond.methodLink RX5 97 yX5_makes, Cond.instanceMethod yX5_makes, Cond.selects RX5 yX5_makes yX5_makes, Cond.code yX5_makes cX5_makes 6 none, Cond.fieldLink RX5 41 "VisitVansModel" "leaves" "[I", Cond.fieldLink RX5 38 "VisitVansModel" "comes" "[I"]
def wsX5_wanted : List Cond := .code yX5_wanted cX5_wanted 4 (some .int) :: ((wsX5_wanted_r1 ++ (wsX5_wanted_r2 ++ wsX5_wanted_r3)) ++ wsX50)
def wsJxf58ca_isNaN_12338 : List Cond := .code yJxf58ca_isNaN_12338 cJxf58ca_isNaN_12338 1 (some .boolean) :: ([])
def wsJxf58ca_floatToIntBits_5c35a : List Cond := .code yJxf58ca_floatToIntBits_5c35a cJxf58ca_floatToIntBits_5c35a 1 (some .int) :: ([.methodLink RJxf58ca 74 ⟨"java/lang/Float", "floatToRawIntBits", "(F)I"⟩, .native ⟨"java/lang/Float", "floatToRawIntBits", "(F)I"⟩, .static ⟨"java/lang/Float", "floatToRawIntBits", "(F)I"⟩, .initialized "java/lang/Float", .constant RJxf58ca 77 (2143289344), .methodLink RJxf58ca 59 yJxf58ca_isNaN_12338, .static yJxf58ca_isNaN_12338, .initialized RJxf58ca, .code yJxf58ca_isNaN_12338 cJxf58ca_isNaN_12338 1 (some .boolean)])
def wsX5_share_r1 : List Cond := [Cond.fieldLink RX5 62 "VisitVansModel" "thrown" "I", Cond.fieldLink RX5 7 "VisitVansModel" "s" "[I", Cond.methodLink RX5 146 yX5_plans, Cond.instanceMethod yX5_plans, Cond.selects RX5 yX5_plans yX5_plans, Cond.initialized RX5, Cond.code yX5_plans cX5_plans 3 none, Cond.fieldLink RX5 44 "VisitVansModel" "placeOf" "[I", Cond.fieldLink RX5 47 "VisitVansModel" "freeAt" "[I", Cond.fieldLink RX5 53 "VisitVansModel" "ways" "[I", Cond.fieldLink RX5 56 "VisitVansModel" "waits" "[I", Cond.fieldLink RX5 50 "VisitVansModel" "left" "[I", Cond.fieldLink RX5 26 "VisitVansModel" "order" "[I", Cond.fieldLink RX5 32 "VisitVansModel" "vanOf" "[I", Cond.fieldLink RX5 35 "VisitVansModel" "begins" "[I", Cond.fieldLink RX5 29 "VisitVansModel" "promise" "[I", Cond.methodLink RX5 69 yX5_van0, Cond.instanceMethod yX5_van0, Cond.selects RX5 yX5_van0 yX5_van0, Cond.code yX5_van0 cX5_van0 3 (some .int), Cond.methodLink RX5 101 yX5_rankOf, Cond.instanceMethod yX5_rankOf, Cond.selects RX5 yX5_rankOf yX5_rankOf, Cond.code yX5_rankOf cX5_rankOf 5 (some .int)]
def wsX5_share_r2 : List Cond := [Cond.methodLink RX5 73 yX5_visit0, Cond.instanceMethod yX5_visit0, Cond.selects RX5 yX5_visit0 yX5_visit0, Cond.code yX5_visit0 cX5_visit0 3 (some .int), Cond.methodLink RX5 104 yX5_looks, Cond.instanceMethod yX5_looks, Cond.selects RX5 yX5_looks yX5_looks, Cond.code yX5_looks cX5_looks 5 (some .int), Cond.methodLink RX5 90 yX5_vanFor, Cond.instanceMethod yX5_vanFor, Cond.selects RX5 yX5_vanFor yX5_vanFor, Cond.code yX5_vanFor cX5_vanFor 6 (some .int), Cond.methodLink RX5 79 yX5_hasSkill, Cond.instanceMethod yX5_hasSkill, Cond.selects RX5 yX5_hasSkill yX5_hasSkill, Cond.code yX5_hasSkill cX5_hasSkill 3 (some .boolean), Cond.methodLink RX5 83 yX5_hasParts, Cond.instanceMethod yX5_hasParts, Cond.selects RX5 yX5_hasParts yX5_hasParts, Cond.code yX5_hasParts cX5_hasParts 3 (some .boolean), Cond.methodLink RX5 86 yX5_beginOf, Cond.instanceMethod yX5_beginOf, Cond.selects RX5 yX5_beginOf yX5_beginOf, Cond.code yX5_beginOf cX5_beginOf 6 (some .int)]
def wsX5_share_r3 : List Cond := [Cond.methodLink RX5 76 yX5_wayTo, Cond.instanceMethod yX5_wayTo, Cond.selects RX5 yX5_wayTo yX5_wayTo, Cond.code yX5_wayTo cX5_wayTo 4 (some .int), Cond.methodLink RX5 93 yX5_reason, Cond.instanceMethod yX5_reason, Cond.selects RX5 yX5_reason yX5_reason, Cond.code yX5_reason cX5_reason 5 (some .int), Cond.methodLink RX5 97 yX5_makes, Cond.instanceMethod yX5_makes, Cond.selects RX5 yX5_makes yX5_makes, Cond.code yX5_makes cX5_makes 6 none, Cond.fieldLink RX5 41 "VisitVansModel" "leaves" "[I", Cond.fieldLink RX5 38 "VisitVansModel" "comes" "[I", Cond.methodLink RX5 162 yX5_withPromise, Cond.instanceMethod yX5_withPromise, Cond.selects RX5 yX5_withPromise yX5_withPromise, Cond.code yX5_withPromise cX5_withPromise 5 (some .int), Cond.methodLink RX5 107 yX5_in, Cond.static yX5_in, Cond.code yX5_in cX5_in 3 (some .boolean), Cond.methodLink RX5 171 yJxf58ca_floatToIntBits_5c35a, Cond.static yJxf58ca_floatToIntBits_5c35a, Cond.initialized RJxf58ca]
def wsX5_share_r4 : List Cond := [Cond.code yJxf58ca_floatToIntBits_5c35a cJxf58ca_floatToIntBits_5c35a 1 (some .int), Cond.methodLink RJxf58ca 74 ⟨"java/lang/Float", "floatToRawIntBits", "(F)I"⟩, Cond.native ⟨"java/lang/Float", "floatToRawIntBits", "(F)I"⟩, Cond.static ⟨"java/lang/Float", "floatToRawIntBits", "(F)I"⟩, Cond.initialized "java/lang/Float", Cond.constant RJxf58ca 77 (2143289344), Cond.methodLink RJxf58ca 59 yJxf58ca_isNaN_12338, Cond.static yJxf58ca_isNaN_12338, Cond.code yJxf58ca_isNaN_12338 cJxf58ca_isNaN_12338 1 (some .boolean)]
def wsX5_share : List Cond := .code yX5_share cX5_share 1 (some .int) :: ((wsX5_share_r1 ++ (wsX5_share_r2 ++ (wsX5_share_r3 ++ wsX5_share_r4))) ++ wsX50)
def wsJxe99ae_isNaN_b9ae7 : List Cond := .code yJxe99ae_isNaN_b9ae7 cJxe99ae_isNaN_b9ae7 2 (some .boolean) :: ([])
def wsJxe99ae_doubleToLongBits_ccdee : List Cond := .code yJxe99ae_doubleToLongBits_ccdee cJxe99ae_doubleToLongBits_ccdee 2 (some .long) :: ([.methodLink RJxe99ae 134 ⟨"java/lang/Double", "doubleToRawLongBits", "(D)J"⟩, .native ⟨"java/lang/Double", "doubleToRawLongBits", "(D)J"⟩, .static ⟨"java/lang/Double", "doubleToRawLongBits", "(D)J"⟩, .initialized "java/lang/Double", .constantLong RJxe99ae 137 (9221120237041090560), .methodLink RJxe99ae 122 yJxe99ae_isNaN_b9ae7, .static yJxe99ae_isNaN_b9ae7, .initialized RJxe99ae, .code yJxe99ae_isNaN_b9ae7 cJxe99ae_isNaN_b9ae7 2 (some .boolean)])
def wsX5_meanWay_r1 : List Cond := [Cond.fieldLink RX5 62 "VisitVansModel" "thrown" "I", Cond.constantLong RX5 177 (-2), Cond.methodLink RX5 107 yX5_in, Cond.static yX5_in, Cond.initialized RX5, Cond.code yX5_in cX5_in 3 (some .boolean), Cond.methodLink RX5 146 yX5_plans, Cond.instanceMethod yX5_plans, Cond.selects RX5 yX5_plans yX5_plans, Cond.code yX5_plans cX5_plans 3 none, Cond.fieldLink RX5 7 "VisitVansModel" "s" "[I", Cond.fieldLink RX5 44 "VisitVansModel" "placeOf" "[I", Cond.fieldLink RX5 47 "VisitVansModel" "freeAt" "[I", Cond.fieldLink RX5 53 "VisitVansModel" "ways" "[I", Cond.fieldLink RX5 56 "VisitVansModel" "waits" "[I", Cond.fieldLink RX5 50 "VisitVansModel" "left" "[I", Cond.fieldLink RX5 26 "VisitVansModel" "order" "[I", Cond.fieldLink RX5 32 "VisitVansModel" "vanOf" "[I", Cond.fieldLink RX5 35 "VisitVansModel" "begins" "[I", Cond.fieldLink RX5 29 "VisitVansModel" "promise" "[I", Cond.methodLink RX5 69 yX5_van0, Cond.instanceMethod yX5_van0, Cond.selects RX5 yX5_van0 yX5_van0, Cond.code yX5_van0 cX5_van0 3 (some .int)]
def wsX5_meanWay_r2 : List Cond := [Cond.methodLink RX5 101 yX5_rankOf, Cond.instanceMethod yX5_rankOf, Cond.selects RX5 yX5_rankOf yX5_rankOf, Cond.code yX5_rankOf cX5_rankOf 5 (some .int), Cond.methodLink RX5 73 yX5_visit0, Cond.instanceMethod yX5_visit0, Cond.selects RX5 yX5_visit0 yX5_visit0, Cond.code yX5_visit0 cX5_visit0 3 (some .int), Cond.methodLink RX5 104 yX5_looks, Cond.instanceMethod yX5_looks, Cond.selects RX5 yX5_looks yX5_looks, Cond.code yX5_looks cX5_looks 5 (some .int), Cond.methodLink RX5 90 yX5_vanFor, Cond.instanceMethod yX5_vanFor, Cond.selects RX5 yX5_vanFor yX5_vanFor, Cond.code yX5_vanFor cX5_vanFor 6 (some .int), Cond.methodLink RX5 79 yX5_hasSkill, Cond.instanceMethod yX5_hasSkill, Cond.selects RX5 yX5_hasSkill yX5_hasSkill, Cond.code yX5_hasSkill cX5_hasSkill 3 (some .boolean), Cond.methodLink RX5 83 yX5_hasParts, Cond.instanceMethod yX5_hasParts, Cond.selects RX5 yX5_hasParts yX5_hasParts, Cond.code yX5_hasParts cX5_hasParts 3 (some .boolean)]
def wsX5_meanWay_r3 : List Cond := [Cond.methodLink RX5 86 yX5_beginOf, Cond.instanceMethod yX5_beginOf, Cond.selects RX5 yX5_beginOf yX5_beginOf, Cond.code yX5_beginOf cX5_beginOf 6 (some .int), Cond.methodLink RX5 76 yX5_wayTo, Cond.instanceMethod yX5_wayTo, Cond.selects RX5 yX5_wayTo yX5_wayTo, Cond.code yX5_wayTo cX5_wayTo 4 (some .int), Cond.methodLink RX5 93 yX5_reason, Cond.instanceMethod yX5_reason, Cond.selects RX5 yX5_reason yX5_reason, Cond.code yX5_reason cX5_reason 5 (some .int), Cond.methodLink RX5 97 yX5_makes, Cond.instanceMethod yX5_makes, Cond.selects RX5 yX5_makes yX5_makes, Cond.code yX5_makes cX5_makes 6 none, Cond.fieldLink RX5 41 "VisitVansModel" "leaves" "[I", Cond.fieldLink RX5 38 "VisitVansModel" "comes" "[I", Cond.methodLink RX5 162 yX5_withPromise, Cond.instanceMethod yX5_withPromise, Cond.selects RX5 yX5_withPromise yX5_withPromise, Cond.code yX5_withPromise cX5_withPromise 5 (some .int), Cond.methodLink RX5 165 yX5_overVans, Cond.instanceMethod yX5_overVans]
def wsX5_meanWay_r4 : List Cond := [Cond.selects RX5 yX5_overVans yX5_overVans, Cond.code yX5_overVans cX5_overVans 4 (some .int), Cond.methodLink RX5 179 yJxe99ae_doubleToLongBits_ccdee, Cond.static yJxe99ae_doubleToLongBits_ccdee, Cond.initialized RJxe99ae, Cond.code yJxe99ae_doubleToLongBits_ccdee cJxe99ae_doubleToLongBits_ccdee 2 (some .long), Cond.methodLink RJxe99ae 134 ⟨"java/lang/Double", "doubleToRawLongBits", "(D)J"⟩, Cond.native ⟨"java/lang/Double", "doubleToRawLongBits", "(D)J"⟩, Cond.static ⟨"java/lang/Double", "doubleToRawLongBits", "(D)J"⟩, Cond.initialized "java/lang/Double", Cond.constantLong RJxe99ae 137 (9221120237041090560), Cond.methodLink RJxe99ae 122 yJxe99ae_isNaN_b9ae7, Cond.static yJxe99ae_isNaN_b9ae7, Cond.code yJxe99ae_isNaN_b9ae7 cJxe99ae_isNaN_b9ae7 2 (some .boolean)]
def wsX5_meanWay : List Cond := .code yX5_meanWay cX5_meanWay 5 (some .long) :: ((wsX5_meanWay_r1 ++ (wsX5_meanWay_r2 ++ (wsX5_meanWay_r3 ++ wsX5_meanWay_r4))) ++ wsX50)
def wsX5_would_r1 : List Cond := [Cond.fieldLink RX5 62 "VisitVansModel" "thrown" "I", Cond.fieldLink RX5 29 "VisitVansModel" "promise" "[I", Cond.methodLink RX5 117 yX5_refuses, Cond.static yX5_refuses, Cond.initialized RX5, Cond.code yX5_refuses cX5_refuses 6 (some .int), Cond.methodLink RX5 107 yX5_in, Cond.static yX5_in, Cond.code yX5_in cX5_in 3 (some .boolean), Cond.methodLink RX5 124 yX5_laysVisit, Cond.instanceMethod yX5_laysVisit, Cond.selects RX5 yX5_laysVisit yX5_laysVisit, Cond.code yX5_laysVisit cX5_laysVisit 8 (some .int), Cond.fieldLink RX5 7 "VisitVansModel" "s" "[I", Cond.methodLink RX5 146 yX5_plans, Cond.instanceMethod yX5_plans, Cond.selects RX5 yX5_plans yX5_plans, Cond.code yX5_plans cX5_plans 3 none, Cond.fieldLink RX5 44 "VisitVansModel" "placeOf" "[I", Cond.fieldLink RX5 47 "VisitVansModel" "freeAt" "[I", Cond.fieldLink RX5 53 "VisitVansModel" "ways" "[I", Cond.fieldLink RX5 56 "VisitVansModel" "waits" "[I", Cond.fieldLink RX5 50 "VisitVansModel" "left" "[I", Cond.fieldLink RX5 26 "VisitVansModel" "order" "[I"]
def wsX5_would_r2 : List Cond := [Cond.fieldLink RX5 32 "VisitVansModel" "vanOf" "[I", Cond.fieldLink RX5 35 "VisitVansModel" "begins" "[I", Cond.methodLink RX5 69 yX5_van0, Cond.instanceMethod yX5_van0, Cond.selects RX5 yX5_van0 yX5_van0, Cond.code yX5_van0 cX5_van0 3 (some .int), Cond.methodLink RX5 101 yX5_rankOf, Cond.instanceMethod yX5_rankOf, Cond.selects RX5 yX5_rankOf yX5_rankOf, Cond.code yX5_rankOf cX5_rankOf 5 (some .int), Cond.methodLink RX5 73 yX5_visit0, Cond.instanceMethod yX5_visit0, Cond.selects RX5 yX5_visit0 yX5_visit0, Cond.code yX5_visit0 cX5_visit0 3 (some .int), Cond.methodLink RX5 104 yX5_looks, Cond.instanceMethod yX5_looks, Cond.selects RX5 yX5_looks yX5_looks, Cond.code yX5_looks cX5_looks 5 (some .int), Cond.methodLink RX5 90 yX5_vanFor, Cond.instanceMethod yX5_vanFor, Cond.selects RX5 yX5_vanFor yX5_vanFor, Cond.code yX5_vanFor cX5_vanFor 6 (some .int), Cond.methodLink RX5 79 yX5_hasSkill, Cond.instanceMethod yX5_hasSkill]
def wsX5_would_r3 : List Cond := [Cond.selects RX5 yX5_hasSkill yX5_hasSkill, Cond.code yX5_hasSkill cX5_hasSkill 3 (some .boolean), Cond.methodLink RX5 83 yX5_hasParts, Cond.instanceMethod yX5_hasParts, Cond.selects RX5 yX5_hasParts yX5_hasParts, Cond.code yX5_hasParts cX5_hasParts 3 (some .boolean), Cond.methodLink RX5 86 yX5_beginOf, Cond.instanceMethod yX5_beginOf, Cond.selects RX5 yX5_beginOf yX5_beginOf, Cond.code yX5_beginOf cX5_beginOf 6 (some .int), Cond.methodLink RX5 76 yX5_wayTo, Cond.instanceMethod yX5_wayTo, Cond.selects RX5 yX5_wayTo yX5_wayTo, Cond.code yX5_wayTo cX5_wayTo 4 (some .int), Cond.methodLink RX5 93 yX5_reason, Cond.instanceMethod yX5_reason, Cond.selects RX5 yX5_reason yX5_reason, Cond.code yX5_reason cX5_reason 5 (some .int), Cond.methodLink RX5 97 yX5_makes, Cond.instanceMethod yX5_makes, Cond.selects RX5 yX5_makes yX5_makes, Cond.code yX5_makes cX5_makes 6 none, Cond.fieldLink RX5 41 "VisitVansModel" "leaves" "[I", Cond.fieldLink RX5 38 "VisitVansModel" "comes" "[I"]
def wsX5_would_r4 : List Cond := [Cond.methodLink RX5 131 yX5_dropsVisit, Cond.instanceMethod yX5_dropsVisit, Cond.selects RX5 yX5_dropsVisit yX5_dropsVisit, Cond.code yX5_dropsVisit cX5_dropsVisit 3 (some .int)]
def wsX5_would : List Cond := .code yX5_would cX5_would 10 (some .int) :: ((wsX5_would_r1 ++ (wsX5_would_r2 ++ (wsX5_would_r3 ++ wsX5_would_r4))) ++ wsX50)
def wsX5_withVan_r1 : List Cond := [Cond.fieldLink RX5 62 "VisitVansModel" "thrown" "I", Cond.fieldLink RX5 7 "VisitVansModel" "s" "[I", Cond.methodLink RX5 134 yX5_refusesVan, Cond.instanceMethod yX5_refusesVan, Cond.selects RX5 yX5_refusesVan yX5_refusesVan, Cond.initialized RX5, Cond.code yX5_refusesVan cX5_refusesVan 3 (some .int), Cond.methodLink RX5 107 yX5_in, Cond.static yX5_in, Cond.code yX5_in cX5_in 3 (some .boolean), Cond.methodLink RX5 137 yX5_laysVan, Cond.instanceMethod yX5_laysVan, Cond.selects RX5 yX5_laysVan yX5_laysVan, Cond.code yX5_laysVan cX5_laysVan 6 (some .int), Cond.methodLink RX5 146 yX5_plans, Cond.instanceMethod yX5_plans, Cond.selects RX5 yX5_plans yX5_plans, Cond.code yX5_plans cX5_plans 3 none, Cond.fieldLink RX5 44 "VisitVansModel" "placeOf" "[I", Cond.fieldLink RX5 47 "VisitVansModel" "freeAt" "[I", Cond.fieldLink RX5 53 "VisitVansModel" "ways" "[I", Cond.fieldLink RX5 56 "VisitVansModel" "waits" "[I", Cond.fieldLink RX5 50 "VisitVansModel" "left" "[I", Cond.fieldLink RX5 26 "VisitVansModel" "order" "[I"]
def wsX5_withVan_r2 : List Cond := [Cond.fieldLink RX5 32 "VisitVansModel" "vanOf" "[I", Cond.fieldLink RX5 35 "VisitVansModel" "begins" "[I", Cond.fieldLink RX5 29 "VisitVansModel" "promise" "[I", Cond.methodLink RX5 69 yX5_van0, Cond.instanceMethod yX5_van0, Cond.selects RX5 yX5_van0 yX5_van0, Cond.code yX5_van0 cX5_van0 3 (some .int), Cond.methodLink RX5 101 yX5_rankOf, Cond.instanceMethod yX5_rankOf, Cond.selects RX5 yX5_rankOf yX5_rankOf, Cond.code yX5_rankOf cX5_rankOf 5 (some .int), Cond.methodLink RX5 73 yX5_visit0, Cond.instanceMethod yX5_visit0, Cond.selects RX5 yX5_visit0 yX5_visit0, Cond.code yX5_visit0 cX5_visit0 3 (some .int), Cond.methodLink RX5 104 yX5_looks, Cond.instanceMethod yX5_looks, Cond.selects RX5 yX5_looks yX5_looks, Cond.code yX5_looks cX5_looks 5 (some .int), Cond.methodLink RX5 90 yX5_vanFor, Cond.instanceMethod yX5_vanFor, Cond.selects RX5 yX5_vanFor yX5_vanFor, Cond.code yX5_vanFor cX5_vanFor 6 (some .int), Cond.methodLink RX5 79 yX5_hasSkill]
def wsX5_withVan_r3 : List Cond := [Cond.instanceMethod yX5_hasSkill, Cond.selects RX5 yX5_hasSkill yX5_hasSkill, Cond.code yX5_hasSkill cX5_hasSkill 3 (some .boolean), Cond.methodLink RX5 83 yX5_hasParts, Cond.instanceMethod yX5_hasParts, Cond.selects RX5 yX5_hasParts yX5_hasParts, Cond.code yX5_hasParts cX5_hasParts 3 (some .boolean), Cond.methodLink RX5 86 yX5_beginOf, Cond.instanceMethod yX5_beginOf, Cond.selects RX5 yX5_beginOf yX5_beginOf, Cond.code yX5_beginOf cX5_beginOf 6 (some .int), Cond.methodLink RX5 76 yX5_wayTo, Cond.instanceMethod yX5_wayTo, Cond.selects RX5 yX5_wayTo yX5_wayTo, Cond.code yX5_wayTo cX5_wayTo 4 (some .int), Cond.methodLink RX5 93 yX5_reason, Cond.instanceMethod yX5_reason, Cond.selects RX5 yX5_reason yX5_reason, Cond.code yX5_reason cX5_reason 5 (some .int), Cond.methodLink RX5 97 yX5_makes, Cond.instanceMethod yX5_makes, Cond.selects RX5 yX5_makes yX5_makes, Cond.code yX5_makes cX5_makes 6 none, Cond.fieldLink RX5 41 "VisitVansModel" "leaves" "[I"]
def wsX5_withVan_r4 : List Cond := [Cond.fieldLink RX5 38 "VisitVansModel" "comes" "[I", Cond.methodLink RX5 162 yX5_withPromise, Cond.instanceMethod yX5_withPromise, Cond.selects RX5 yX5_withPromise yX5_withPromise, Cond.code yX5_withPromise cX5_withPromise 5 (some .int)]
def wsX5_withVan : List Cond := .code yX5_withVan cX5_withVan 5 (some .int) :: ((wsX5_withVan_r1 ++ (wsX5_withVan_r2 ++ (wsX5_withVan_r3 ++ wsX5_withVan_r4))) ++ wsX50)
def wsX5_brokenAt_r1 : List Cond := [Cond.fieldLink RX5 7 "VisitVansModel" "s" "[I", Cond.methodLink RX5 146 yX5_plans, Cond.instanceMethod yX5_plans, Cond.selects RX5 yX5_plans yX5_plans, Cond.initialized RX5, Cond.code yX5_plans cX5_plans 3 none, Cond.fieldLink RX5 44 "VisitVansModel" "placeOf" "[I", Cond.fieldLink RX5 47 "VisitVansModel" "freeAt" "[I", Cond.fieldLink RX5 53 "VisitVansModel" "ways" "[I", Cond.fieldLink RX5 56 "VisitVansModel" "waits" "[I", Cond.fieldLink RX5 50 "VisitVansModel" "left" "[I", Cond.fieldLink RX5 26 "VisitVansModel" "order" "[I", Cond.fieldLink RX5 32 "VisitVansModel" "vanOf" "[I", Cond.fieldLink RX5 35 "VisitVansModel" "begins" "[I", Cond.fieldLink RX5 29 "VisitVansModel" "promise" "[I", Cond.methodLink RX5 69 yX5_van0, Cond.instanceMethod yX5_van0, Cond.selects RX5 yX5_van0 yX5_van0, Cond.code yX5_van0 cX5_van0 3 (some .int), Cond.methodLink RX5 101 yX5_rankOf, Cond.instanceMethod yX5_rankOf, Cond.selects RX5 yX5_rankOf yX5_rankOf, Cond.code yX5_rankOf cX5_rankOf 5 (some .int), Cond.methodLink RX5 73 yX5_visit0]
def wsX5_brokenAt_r2 : List Cond := [Cond.instanceMethod yX5_visit0, Cond.selects RX5 yX5_visit0 yX5_visit0, Cond.code yX5_visit0 cX5_visit0 3 (some .int), Cond.methodLink RX5 104 yX5_looks, Cond.instanceMethod yX5_looks, Cond.selects RX5 yX5_looks yX5_looks, Cond.code yX5_looks cX5_looks 5 (some .int), Cond.methodLink RX5 90 yX5_vanFor, Cond.instanceMethod yX5_vanFor, Cond.selects RX5 yX5_vanFor yX5_vanFor, Cond.code yX5_vanFor cX5_vanFor 6 (some .int), Cond.methodLink RX5 79 yX5_hasSkill, Cond.instanceMethod yX5_hasSkill, Cond.selects RX5 yX5_hasSkill yX5_hasSkill, Cond.code yX5_hasSkill cX5_hasSkill 3 (some .boolean), Cond.methodLink RX5 83 yX5_hasParts, Cond.instanceMethod yX5_hasParts, Cond.selects RX5 yX5_hasParts yX5_hasParts, Cond.code yX5_hasParts cX5_hasParts 3 (some .boolean), Cond.methodLink RX5 86 yX5_beginOf, Cond.instanceMethod yX5_beginOf, Cond.selects RX5 yX5_beginOf yX5_beginOf, Cond.code yX5_beginOf cX5_beginOf 6 (some .int), Cond.methodLink RX5 76 yX5_wayTo]
def wsX5_brokenAt_r3 : List Cond := [Cond.instanceMethod yX5_wayTo, Cond.selects RX5 yX5_wayTo yX5_wayTo, Cond.code yX5_wayTo cX5_wayTo 4 (some .int), Cond.methodLink RX5 93 yX5_reason, Cond.instanceMethod yX5_reason, Cond.selects RX5 yX5_reason yX5_reason, Cond.code yX5_reason cX5_reason 5 (some .int), Cond.methodLink RX5 97 yX5_makes, Cond.instanceMethod yX5_makes, Cond.selects RX5 yX5_makes yX5_makes, Cond.code yX5_makes cX5_makes 6 none, Cond.fieldLink RX5 41 "VisitVansModel" "leaves" "[I", Cond.fieldLink RX5 38 "VisitVansModel" "comes" "[I", Cond.methodLink RX5 162 yX5_withPromise, Cond.instanceMethod yX5_withPromise, Cond.selects RX5 yX5_withPromise yX5_withPromise, Cond.code yX5_withPromise cX5_withPromise 5 (some .int), Cond.methodLink RX5 107 yX5_in, Cond.static yX5_in, Cond.code yX5_in cX5_in 3 (some .boolean)]
def wsX5_brokenAt : List Cond := .code yX5_brokenAt cX5_brokenAt 3 (some .int) :: ((wsX5_brokenAt_r1 ++ (wsX5_brokenAt_r2 ++ wsX5_brokenAt_r3)) ++ wsX50)
def wsX5_slowest_r1 : List Cond := [Cond.fieldLink RX5 62 "VisitVansModel" "thrown" "I", Cond.methodLink RX5 185 yX5_brokenAt, Cond.instanceMethod yX5_brokenAt, Cond.selects RX5 yX5_brokenAt yX5_brokenAt, Cond.initialized RX5, Cond.code yX5_brokenAt cX5_brokenAt 3 (some .int), Cond.fieldLink RX5 7 "VisitVansModel" "s" "[I", Cond.methodLink RX5 146 yX5_plans, Cond.instanceMethod yX5_plans, Cond.selects RX5 yX5_plans yX5_plans, Cond.code yX5_plans cX5_plans 3 none, Cond.fieldLink RX5 44 "VisitVansModel" "placeOf" "[I", Cond.fieldLink RX5 47 "VisitVansModel" "freeAt" "[I", Cond.fieldLink RX5 53 "VisitVansModel" "ways" "[I", Cond.fieldLink RX5 56 "VisitVansModel" "waits" "[I", Cond.fieldLink RX5 50 "VisitVansModel" "left" "[I", Cond.fieldLink RX5 26 "VisitVansModel" "order" "[I", Cond.fieldLink RX5 32 "VisitVansModel" "vanOf" "[I", Cond.fieldLink RX5 35 "VisitVansModel" "begins" "[I", Cond.fieldLink RX5 29 "VisitVansModel" "promise" "[I", Cond.methodLink RX5 69 yX5_van0, Cond.instanceMethod yX5_van0, Cond.selects RX5 yX5_van0 yX5_van0, Cond.code yX5_van0 cX5_van0 3 (some .int)]
def wsX5_slowest_r2 : List Cond := [Cond.methodLink RX5 101 yX5_rankOf, Cond.instanceMethod yX5_rankOf, Cond.selects RX5 yX5_rankOf yX5_rankOf, Cond.code yX5_rankOf cX5_rankOf 5 (some .int), Cond.methodLink RX5 73 yX5_visit0, Cond.instanceMethod yX5_visit0, Cond.selects RX5 yX5_visit0 yX5_visit0, Cond.code yX5_visit0 cX5_visit0 3 (some .int), Cond.methodLink RX5 104 yX5_looks, Cond.instanceMethod yX5_looks, Cond.selects RX5 yX5_looks yX5_looks, Cond.code yX5_looks cX5_looks 5 (some .int), Cond.methodLink RX5 90 yX5_vanFor, Cond.instanceMethod yX5_vanFor, Cond.selects RX5 yX5_vanFor yX5_vanFor, Cond.code yX5_vanFor cX5_vanFor 6 (some .int), Cond.methodLink RX5 79 yX5_hasSkill, Cond.instanceMethod yX5_hasSkill, Cond.selects RX5 yX5_hasSkill yX5_hasSkill, Cond.code yX5_hasSkill cX5_hasSkill 3 (some .boolean), Cond.methodLink RX5 83 yX5_hasParts, Cond.instanceMethod yX5_hasParts, Cond.selects RX5 yX5_hasParts yX5_hasParts, Cond.code yX5_hasParts cX5_hasParts 3 (some .boolean)]
def wsX5_slowest_r3 : List Cond := [Cond.methodLink RX5 86 yX5_beginOf, Cond.instanceMethod yX5_beginOf, Cond.selects RX5 yX5_beginOf yX5_beginOf, Cond.code yX5_beginOf cX5_beginOf 6 (some .int), Cond.methodLink RX5 76 yX5_wayTo, Cond.instanceMethod yX5_wayTo, Cond.selects RX5 yX5_wayTo yX5_wayTo, Cond.code yX5_wayTo cX5_wayTo 4 (some .int), Cond.methodLink RX5 93 yX5_reason, Cond.instanceMethod yX5_reason, Cond.selects RX5 yX5_reason yX5_reason, Cond.code yX5_reason cX5_reason 5 (some .int), Cond.methodLink RX5 97 yX5_makes, Cond.instanceMethod yX5_makes, Cond.selects RX5 yX5_makes yX5_makes, Cond.code yX5_makes cX5_makes 6 none, Cond.fieldLink RX5 41 "VisitVansModel" "leaves" "[I", Cond.fieldLink RX5 38 "VisitVansModel" "comes" "[I", Cond.methodLink RX5 162 yX5_withPromise, Cond.instanceMethod yX5_withPromise, Cond.selects RX5 yX5_withPromise yX5_withPromise, Cond.code yX5_withPromise cX5_withPromise 5 (some .int), Cond.methodLink RX5 107 yX5_in, Cond.static yX5_in]
def wsX5_slowest_r4 : List Cond := [Cond.code yX5_in cX5_in 3 (some .boolean)]
def wsX5_slowest : List Cond := .code yX5_slowest cX5_slowest 3 (some .int) :: ((wsX5_slowest_r1 ++ (wsX5_slowest_r2 ++ (wsX5_slowest_r3 ++ wsX5_slowest_r4))) ++ wsX50)
def wsX5_put : List Cond := .code yX5_put cX5_put 8 (some .int) :: ([.fieldLink RX5 62 "VisitVansModel" "thrown" "I", .constantLong RX5 188 (255), .fieldLink RX5 168 "VisitVansModel" "length" "I", .fieldLink RX5 23 "VisitVansModel" "pad" "[I", .methodLink RX5 107 yX5_in, .static yX5_in, .initialized RX5, .code yX5_in cX5_in 3 (some .boolean)] ++ wsX50)
def wsX5_wipe : List Cond := .code yX5_wipe cX5_wipe 2 (some .int) :: ([.fieldLink RX5 62 "VisitVansModel" "thrown" "I", .fieldLink RX5 168 "VisitVansModel" "length" "I"] ++ wsX50)
def wsX5_sign : List Cond := .code yX5_sign cX5_sign 1 (some .int) :: ([.fieldLink RX5 190 "VisitVansModel" "at" "I", .fieldLink RX5 168 "VisitVansModel" "length" "I", .fieldLink RX5 23 "VisitVansModel" "pad" "[I"] ++ wsX50)
def wsX5_wants : List Cond := .code yX5_wants cX5_wants 2 none :: ([.fieldLink RX5 193 "VisitVansModel" "isWell" "Z", .fieldLink RX5 190 "VisitVansModel" "at" "I", .methodLink RX5 197 yX5_sign, .instanceMethod yX5_sign, .selects RX5 yX5_sign yX5_sign, .initialized RX5, .code yX5_sign cX5_sign 1 (some .int), .fieldLink RX5 168 "VisitVansModel" "length" "I", .fieldLink RX5 23 "VisitVansModel" "pad" "[I"] ++ wsX50)
def wsX5_digit : List Cond := .code yX5_digit cX5_digit 3 (some .int) :: ([.fieldLink RX5 193 "VisitVansModel" "isWell" "Z", .fieldLink RX5 190 "VisitVansModel" "at" "I", .methodLink RX5 197 yX5_sign, .instanceMethod yX5_sign, .selects RX5 yX5_sign yX5_sign, .initialized RX5, .code yX5_sign cX5_sign 1 (some .int), .fieldLink RX5 168 "VisitVansModel" "length" "I", .fieldLink RX5 23 "VisitVansModel" "pad" "[I", .methodLink RX5 107 yX5_in, .static yX5_in, .code yX5_in cX5_in 3 (some .boolean)] ++ wsX50)
def wsX5_number : List Cond := .code yX5_number cX5_number 3 (some .int) :: ([.fieldLink RX5 193 "VisitVansModel" "isWell" "Z", .fieldLink RX5 190 "VisitVansModel" "at" "I", .methodLink RX5 201 yX5_digit, .instanceMethod yX5_digit, .selects RX5 yX5_digit yX5_digit, .initialized RX5, .code yX5_digit cX5_digit 3 (some .int), .methodLink RX5 197 yX5_sign, .instanceMethod yX5_sign, .selects RX5 yX5_sign yX5_sign, .code yX5_sign cX5_sign 1 (some .int), .fieldLink RX5 168 "VisitVansModel" "length" "I", .fieldLink RX5 23 "VisitVansModel" "pad" "[I", .methodLink RX5 107 yX5_in, .static yX5_in, .code yX5_in cX5_in 3 (some .boolean)] ++ wsX50)
def wsX5_readsVisit_r1 : List Cond := [Cond.fieldLink RX5 59 "VisitVansModel" "told" "[I", Cond.methodLink RX5 204 yX5_number, Cond.instanceMethod yX5_number, Cond.selects RX5 yX5_number yX5_number, Cond.initialized RX5, Cond.code yX5_number cX5_number 3 (some .int), Cond.fieldLink RX5 193 "VisitVansModel" "isWell" "Z", Cond.fieldLink RX5 190 "VisitVansModel" "at" "I", Cond.methodLink RX5 201 yX5_digit, Cond.instanceMethod yX5_digit, Cond.selects RX5 yX5_digit yX5_digit, Cond.code yX5_digit cX5_digit 3 (some .int), Cond.methodLink RX5 197 yX5_sign, Cond.instanceMethod yX5_sign, Cond.selects RX5 yX5_sign yX5_sign, Cond.code yX5_sign cX5_sign 1 (some .int), Cond.fieldLink RX5 168 "VisitVansModel" "length" "I", Cond.fieldLink RX5 23 "VisitVansModel" "pad" "[I", Cond.methodLink RX5 107 yX5_in, Cond.static yX5_in, Cond.code yX5_in cX5_in 3 (some .boolean), Cond.methodLink RX5 207 yX5_wants, Cond.instanceMethod yX5_wants, Cond.selects RX5 yX5_wants yX5_wants]
def wsX5_readsVisit_r2 : List Cond := [Cond.code yX5_wants cX5_wants 2 none]
def wsX5_readsVisit : List Cond := .code yX5_readsVisit cX5_readsVisit 2 none :: ((wsX5_readsVisit_r1 ++ wsX5_readsVisit_r2) ++ wsX50)
def wsX5_readsVan_r1 : List Cond := [Cond.fieldLink RX5 59 "VisitVansModel" "told" "[I", Cond.fieldLink RX5 193 "VisitVansModel" "isWell" "Z", Cond.methodLink RX5 204 yX5_number, Cond.instanceMethod yX5_number, Cond.selects RX5 yX5_number yX5_number, Cond.initialized RX5, Cond.code yX5_number cX5_number 3 (some .int), Cond.fieldLink RX5 190 "VisitVansModel" "at" "I", Cond.methodLink RX5 201 yX5_digit, Cond.instanceMethod yX5_digit, Cond.selects RX5 yX5_digit yX5_digit, Cond.code yX5_digit cX5_digit 3 (some .int), Cond.methodLink RX5 197 yX5_sign, Cond.instanceMethod yX5_sign, Cond.selects RX5 yX5_sign yX5_sign, Cond.code yX5_sign cX5_sign 1 (some .int), Cond.fieldLink RX5 168 "VisitVansModel" "length" "I", Cond.fieldLink RX5 23 "VisitVansModel" "pad" "[I", Cond.methodLink RX5 107 yX5_in, Cond.static yX5_in, Cond.code yX5_in cX5_in 3 (some .boolean), Cond.methodLink RX5 207 yX5_wants, Cond.instanceMethod yX5_wants, Cond.selects RX5 yX5_wants yX5_wants]
def wsX5_readsVan_r2 : List Cond := [Cond.code yX5_wants cX5_wants 2 none]
def wsX5_readsVan : List Cond := .code yX5_readsVan cX5_readsVan 3 none :: ((wsX5_readsVan_r1 ++ wsX5_readsVan_r2) ++ wsX50)
def wsX5_readsOrder_r1 : List Cond := [Cond.fieldLink RX5 211 "VisitVansModel" "toldMany" "I", Cond.fieldLink RX5 193 "VisitVansModel" "isWell" "Z", Cond.fieldLink RX5 190 "VisitVansModel" "at" "I", Cond.fieldLink RX5 59 "VisitVansModel" "told" "[I", Cond.methodLink RX5 197 yX5_sign, Cond.instanceMethod yX5_sign, Cond.selects RX5 yX5_sign yX5_sign, Cond.initialized RX5, Cond.code yX5_sign cX5_sign 1 (some .int), Cond.fieldLink RX5 168 "VisitVansModel" "length" "I", Cond.fieldLink RX5 23 "VisitVansModel" "pad" "[I", Cond.methodLink RX5 214 yX5_readsVisit, Cond.instanceMethod yX5_readsVisit, Cond.selects RX5 yX5_readsVisit yX5_readsVisit, Cond.code yX5_readsVisit cX5_readsVisit 2 none, Cond.methodLink RX5 204 yX5_number, Cond.instanceMethod yX5_number, Cond.selects RX5 yX5_number yX5_number, Cond.code yX5_number cX5_number 3 (some .int), Cond.methodLink RX5 201 yX5_digit, Cond.instanceMethod yX5_digit, Cond.selects RX5 yX5_digit yX5_digit, Cond.code yX5_digit cX5_digit 3 (some .int), Cond.methodLink RX5 107 yX5_in]
def wsX5_readsOrder_r2 : List Cond := [Cond.static yX5_in, Cond.code yX5_in cX5_in 3 (some .boolean), Cond.methodLink RX5 207 yX5_wants, Cond.instanceMethod yX5_wants, Cond.selects RX5 yX5_wants yX5_wants, Cond.code yX5_wants cX5_wants 2 none, Cond.methodLink RX5 217 yX5_readsVan, Cond.instanceMethod yX5_readsVan, Cond.selects RX5 yX5_readsVan yX5_readsVan, Cond.code yX5_readsVan cX5_readsVan 3 none]
def wsX5_readsOrder : List Cond := .code yX5_readsOrder cX5_readsOrder 3 none :: ((wsX5_readsOrder_r1 ++ wsX5_readsOrder_r2) ++ wsX50)
def wsX5_reads_r1 : List Cond := [Cond.fieldLink RX5 190 "VisitVansModel" "at" "I", Cond.fieldLink RX5 193 "VisitVansModel" "isWell" "Z", Cond.fieldLink RX5 211 "VisitVansModel" "toldMany" "I", Cond.fieldLink RX5 168 "VisitVansModel" "length" "I", Cond.methodLink RX5 220 yX5_readsOrder, Cond.instanceMethod yX5_readsOrder, Cond.selects RX5 yX5_readsOrder yX5_readsOrder, Cond.initialized RX5, Cond.code yX5_readsOrder cX5_readsOrder 3 none, Cond.fieldLink RX5 59 "VisitVansModel" "told" "[I", Cond.methodLink RX5 197 yX5_sign, Cond.instanceMethod yX5_sign, Cond.selects RX5 yX5_sign yX5_sign, Cond.code yX5_sign cX5_sign 1 (some .int), Cond.fieldLink RX5 23 "VisitVansModel" "pad" "[I", Cond.methodLink RX5 214 yX5_readsVisit, Cond.instanceMethod yX5_readsVisit, Cond.selects RX5 yX5_readsVisit yX5_readsVisit, Cond.code yX5_readsVisit cX5_readsVisit 2 none, Cond.methodLink RX5 204 yX5_number, Cond.instanceMethod yX5_number, Cond.selects RX5 yX5_number yX5_number, Cond.code yX5_number cX5_number 3 (some .int), Cond.methodLink RX5 201 yX5_digit]
def wsX5_reads_r2 : List Cond := [Cond.instanceMethod yX5_digit, Cond.selects RX5 yX5_digit yX5_digit, Cond.code yX5_digit cX5_digit 3 (some .int), Cond.methodLink RX5 107 yX5_in, Cond.static yX5_in, Cond.code yX5_in cX5_in 3 (some .boolean), Cond.methodLink RX5 207 yX5_wants, Cond.instanceMethod yX5_wants, Cond.selects RX5 yX5_wants yX5_wants, Cond.code yX5_wants cX5_wants 2 none, Cond.methodLink RX5 217 yX5_readsVan, Cond.instanceMethod yX5_readsVan, Cond.selects RX5 yX5_readsVan yX5_readsVan, Cond.code yX5_readsVan cX5_readsVan 3 none]
def wsX5_reads : List Cond := .code yX5_reads cX5_reads 1 (some .int) :: ((wsX5_reads_r1 ++ wsX5_reads_r2) ++ wsX50)
def wsX5_fault_r1 : List Cond := [Cond.fieldLink RX5 62 "VisitVansModel" "thrown" "I", Cond.methodLink RX5 223 yX5_reads, Cond.instanceMethod yX5_reads, Cond.selects RX5 yX5_reads yX5_reads, Cond.initialized RX5, Cond.code yX5_reads cX5_reads 1 (some .int), Cond.fieldLink RX5 190 "VisitVansModel" "at" "I", Cond.fieldLink RX5 193 "VisitVansModel" "isWell" "Z", Cond.fieldLink RX5 211 "VisitVansModel" "toldMany" "I", Cond.fieldLink RX5 168 "VisitVansModel" "length" "I", Cond.methodLink RX5 220 yX5_readsOrder, Cond.instanceMethod yX5_readsOrder, Cond.selects RX5 yX5_readsOrder yX5_readsOrder, Cond.code yX5_readsOrder cX5_readsOrder 3 none, Cond.fieldLink RX5 59 "VisitVansModel" "told" "[I", Cond.methodLink RX5 197 yX5_sign, Cond.instanceMethod yX5_sign, Cond.selects RX5 yX5_sign yX5_sign, Cond.code yX5_sign cX5_sign 1 (some .int), Cond.fieldLink RX5 23 "VisitVansModel" "pad" "[I", Cond.methodLink RX5 214 yX5_readsVisit, Cond.instanceMethod yX5_readsVisit, Cond.selects RX5 yX5_readsVisit yX5_readsVisit, Cond.code yX5_readsVisit cX5_readsVisit 2 none]
def wsX5_fault_r2 : List Cond := [Cond.methodLink RX5 204 yX5_number, Cond.instanceMethod yX5_number, Cond.selects RX5 yX5_number yX5_number, Cond.code yX5_number cX5_number 3 (some .int), Cond.methodLink RX5 201 yX5_digit, Cond.instanceMethod yX5_digit, Cond.selects RX5 yX5_digit yX5_digit, Cond.code yX5_digit cX5_digit 3 (some .int), Cond.methodLink RX5 107 yX5_in, Cond.static yX5_in, Cond.code yX5_in cX5_in 3 (some .boolean), Cond.methodLink RX5 207 yX5_wants, Cond.instanceMethod yX5_wants, Cond.selects RX5 yX5_wants yX5_wants, Cond.code yX5_wants cX5_wants 2 none, Cond.methodLink RX5 217 yX5_readsVan, Cond.instanceMethod yX5_readsVan, Cond.selects RX5 yX5_readsVan yX5_readsVan, Cond.code yX5_readsVan cX5_readsVan 3 none]
def wsX5_fault : List Cond := .code yX5_fault cX5_fault 1 (some .int) :: ((wsX5_fault_r1 ++ wsX5_fault_r2) ++ wsX50)
def wsX5_refusesOrder_r1 : List Cond := [Cond.fieldLink RX5 59 "VisitVansModel" "told" "[I", Cond.methodLink RX5 121 yX5_refusesVisit, Cond.instanceMethod yX5_refusesVisit, Cond.selects RX5 yX5_refusesVisit yX5_refusesVisit, Cond.initialized RX5, Cond.code yX5_refusesVisit cX5_refusesVisit 8 (some .int), Cond.fieldLink RX5 7 "VisitVansModel" "s" "[I", Cond.methodLink RX5 117 yX5_refuses, Cond.static yX5_refuses, Cond.code yX5_refuses cX5_refuses 6 (some .int), Cond.methodLink RX5 107 yX5_in, Cond.static yX5_in, Cond.code yX5_in cX5_in 3 (some .boolean), Cond.methodLink RX5 134 yX5_refusesVan, Cond.instanceMethod yX5_refusesVan, Cond.selects RX5 yX5_refusesVan yX5_refusesVan, Cond.code yX5_refusesVan cX5_refusesVan 3 (some .int), Cond.methodLink RX5 143 yX5_refusesLoad, Cond.instanceMethod yX5_refusesLoad, Cond.selects RX5 yX5_refusesLoad yX5_refusesLoad, Cond.code yX5_refusesLoad cX5_refusesLoad 4 (some .int), Cond.methodLink RX5 140 yX5_isVan, Cond.instanceMethod yX5_isVan, Cond.selects RX5 yX5_isVan yX5_isVan]
def wsX5_refusesOrder_r2 : List Cond := [Cond.code yX5_isVan cX5_isVan 2 (some .boolean), Cond.methodLink RX5 127 yX5_isVisit, Cond.instanceMethod yX5_isVisit, Cond.selects RX5 yX5_isVisit yX5_isVisit, Cond.code yX5_isVisit cX5_isVisit 2 (some .boolean)]
def wsX5_refusesOrder : List Cond := .code yX5_refusesOrder cX5_refusesOrder 2 (some .int) :: ((wsX5_refusesOrder_r1 ++ wsX5_refusesOrder_r2) ++ wsX50)
def wsX5_does : List Cond := .code yX5_does cX5_does 2 none :: ([.fieldLink RX5 59 "VisitVansModel" "told" "[I", .fieldLink RX5 7 "VisitVansModel" "s" "[I", .methodLink RX5 124 yX5_laysVisit, .instanceMethod yX5_laysVisit, .selects RX5 yX5_laysVisit yX5_laysVisit, .initialized RX5, .code yX5_laysVisit cX5_laysVisit 8 (some .int), .methodLink RX5 137 yX5_laysVan, .instanceMethod yX5_laysVan, .selects RX5 yX5_laysVan yX5_laysVan, .code yX5_laysVan cX5_laysVan 6 (some .int), .methodLink RX5 131 yX5_dropsVisit, .instanceMethod yX5_dropsVisit, .selects RX5 yX5_dropsVisit yX5_dropsVisit, .code yX5_dropsVisit cX5_dropsVisit 3 (some .int)] ++ wsX50)
def wsX5_carryOut_r1 : List Cond := [Cond.fieldLink RX5 62 "VisitVansModel" "thrown" "I", Cond.fieldLink RX5 168 "VisitVansModel" "length" "I", Cond.fieldLink RX5 211 "VisitVansModel" "toldMany" "I", Cond.methodLink RX5 223 yX5_reads, Cond.instanceMethod yX5_reads, Cond.selects RX5 yX5_reads yX5_reads, Cond.initialized RX5, Cond.code yX5_reads cX5_reads 1 (some .int), Cond.fieldLink RX5 190 "VisitVansModel" "at" "I", Cond.fieldLink RX5 193 "VisitVansModel" "isWell" "Z", Cond.methodLink RX5 220 yX5_readsOrder, Cond.instanceMethod yX5_readsOrder, Cond.selects RX5 yX5_readsOrder yX5_readsOrder, Cond.code yX5_readsOrder cX5_readsOrder 3 none, Cond.fieldLink RX5 59 "VisitVansModel" "told" "[I", Cond.methodLink RX5 197 yX5_sign, Cond.instanceMethod yX5_sign, Cond.selects RX5 yX5_sign yX5_sign, Cond.code yX5_sign cX5_sign 1 (some .int), Cond.fieldLink RX5 23 "VisitVansModel" "pad" "[I", Cond.methodLink RX5 214 yX5_readsVisit, Cond.instanceMethod yX5_readsVisit, Cond.selects RX5 yX5_readsVisit yX5_readsVisit, Cond.code yX5_readsVisit cX5_readsVisit 2 none]
def wsX5_carryOut_r2 : List Cond := [Cond.methodLink RX5 204 yX5_number, Cond.instanceMethod yX5_number, Cond.selects RX5 yX5_number yX5_number, Cond.code yX5_number cX5_number 3 (some .int), Cond.methodLink RX5 201 yX5_digit, Cond.instanceMethod yX5_digit, Cond.selects RX5 yX5_digit yX5_digit, Cond.code yX5_digit cX5_digit 3 (some .int), Cond.methodLink RX5 107 yX5_in, Cond.static yX5_in, Cond.code yX5_in cX5_in 3 (some .boolean), Cond.methodLink RX5 207 yX5_wants, Cond.instanceMethod yX5_wants, Cond.selects RX5 yX5_wants yX5_wants, Cond.code yX5_wants cX5_wants 2 none, Cond.methodLink RX5 217 yX5_readsVan, Cond.instanceMethod yX5_readsVan, Cond.selects RX5 yX5_readsVan yX5_readsVan, Cond.code yX5_readsVan cX5_readsVan 3 none, Cond.methodLink RX5 114 yX5_records, Cond.instanceMethod yX5_records, Cond.selects RX5 yX5_records yX5_records, Cond.code yX5_records cX5_records 2 none, Cond.fieldLink RX5 66 "VisitVansModel" "undoMany" "I"]
def wsX5_carryOut_r3 : List Cond := [Cond.fieldLink RX5 13 "VisitVansModel" "undos" "[I", Cond.fieldLink RX5 7 "VisitVansModel" "s" "[I", Cond.methodLink RX5 226 yX5_refusesOrder, Cond.instanceMethod yX5_refusesOrder, Cond.selects RX5 yX5_refusesOrder yX5_refusesOrder, Cond.code yX5_refusesOrder cX5_refusesOrder 2 (some .int), Cond.methodLink RX5 121 yX5_refusesVisit, Cond.instanceMethod yX5_refusesVisit, Cond.selects RX5 yX5_refusesVisit yX5_refusesVisit, Cond.code yX5_refusesVisit cX5_refusesVisit 8 (some .int), Cond.methodLink RX5 117 yX5_refuses, Cond.static yX5_refuses, Cond.code yX5_refuses cX5_refuses 6 (some .int), Cond.methodLink RX5 134 yX5_refusesVan, Cond.instanceMethod yX5_refusesVan, Cond.selects RX5 yX5_refusesVan yX5_refusesVan, Cond.code yX5_refusesVan cX5_refusesVan 3 (some .int), Cond.methodLink RX5 143 yX5_refusesLoad, Cond.instanceMethod yX5_refusesLoad, Cond.selects RX5 yX5_refusesLoad yX5_refusesLoad, Cond.code yX5_refusesLoad cX5_refusesLoad 4 (some .int), Cond.methodLink RX5 140 yX5_isVan, Cond.instanceMethod yX5_isVan, Cond.selects RX5 yX5_isVan yX5_isVan]
def wsX5_carryOut_r4 : List Cond := [Cond.code yX5_isVan cX5_isVan 2 (some .boolean), Cond.methodLink RX5 127 yX5_isVisit, Cond.instanceMethod yX5_isVisit, Cond.selects RX5 yX5_isVisit yX5_isVisit, Cond.code yX5_isVisit cX5_isVisit 2 (some .boolean), Cond.methodLink RX5 229 yX5_does, Cond.instanceMethod yX5_does, Cond.selects RX5 yX5_does yX5_does, Cond.code yX5_does cX5_does 2 none, Cond.methodLink RX5 124 yX5_laysVisit, Cond.instanceMethod yX5_laysVisit, Cond.selects RX5 yX5_laysVisit yX5_laysVisit, Cond.code yX5_laysVisit cX5_laysVisit 8 (some .int), Cond.methodLink RX5 137 yX5_laysVan, Cond.instanceMethod yX5_laysVan, Cond.selects RX5 yX5_laysVan yX5_laysVan, Cond.code yX5_laysVan cX5_laysVan 6 (some .int), Cond.methodLink RX5 131 yX5_dropsVisit, Cond.instanceMethod yX5_dropsVisit, Cond.selects RX5 yX5_dropsVisit yX5_dropsVisit, Cond.code yX5_dropsVisit cX5_dropsVisit 3 (some .int)]
def wsX5_carryOut : List Cond := .code yX5_carryOut cX5_carryOut 2 (some .int) :: ((wsX5_carryOut_r1 ++ (wsX5_carryOut_r2 ++ (wsX5_carryOut_r3 ++ wsX5_carryOut_r4))) ++ wsX50)
def wsX5_undo : List Cond := .code yX5_undo cX5_undo 2 (some .int) :: ([.fieldLink RX5 62 "VisitVansModel" "thrown" "I", .fieldLink RX5 66 "VisitVansModel" "undoMany" "I", .fieldLink RX5 7 "VisitVansModel" "s" "[I", .fieldLink RX5 13 "VisitVansModel" "undos" "[I"] ++ wsX50)
def wsX5_save : List Cond := .code yX5_save cX5_save 3 (some .int) :: ([.fieldLink RX5 62 "VisitVansModel" "thrown" "I", .fieldLink RX5 16 "VisitVansModel" "slots" "[I", .fieldLink RX5 7 "VisitVansModel" "s" "[I", .fieldLink RX5 19 "VisitVansModel" "hasSlot" "[Z", .methodLink RX5 107 yX5_in, .static yX5_in, .initialized RX5, .code yX5_in cX5_in 3 (some .boolean)] ++ wsX50)
def wsX5_restore : List Cond := .code yX5_restore cX5_restore 3 (some .int) :: ([.fieldLink RX5 62 "VisitVansModel" "thrown" "I", .fieldLink RX5 19 "VisitVansModel" "hasSlot" "[Z", .fieldLink RX5 7 "VisitVansModel" "s" "[I", .fieldLink RX5 16 "VisitVansModel" "slots" "[I", .methodLink RX5 107 yX5_in, .static yX5_in, .initialized RX5, .code yX5_in cX5_in 3 (some .boolean), .methodLink RX5 114 yX5_records, .instanceMethod yX5_records, .selects RX5 yX5_records yX5_records, .code yX5_records cX5_records 2 none, .fieldLink RX5 66 "VisitVansModel" "undoMany" "I", .fieldLink RX5 13 "VisitVansModel" "undos" "[I"] ++ wsX50)
def wsJ9_abs_0f7a4 : List Cond := .code yJ9_abs_0f7a4 cJ9_abs_0f7a4 1 (some .int) :: ([])
def wsJ9_max_7cf53 : List Cond := .code yJ9_max_7cf53 cJ9_max_7cf53 2 (some .int) :: ([])
def wsL_law_r1 : List Cond := [Cond.classLink RL 7 RX4, Cond.instantiable RX4 8, Cond.initialized RX4, Cond.classLink RL 10 RX5, Cond.instantiable RX5 23, Cond.initialized RX5, Cond.constantLong RL 83 (4294967295), Cond.methodLink RL 9 yX4_init, Cond.instanceMethod yX4_init, Cond.code yX4_init cX4_init 2 none, Cond.methodLink RX4 3 objectInit, Cond.instanceMethod objectInit, Cond.code objectInit ⟨#[0xb1]⟩ 1 none, Cond.classLink RX4 9 RX3, Cond.instantiable RX3 6, Cond.initialized RX3, Cond.fieldLink RX4 12 "VisitVans" "road" "LVisitVans$Road;", Cond.classLink RX4 16 RX2, Cond.instantiable RX2 7, Cond.initialized RX2, Cond.fieldLink RX4 19 "VisitVans" "plan" "LVisitVans$Plan;", Cond.fieldLink RX4 23 "VisitVans" "trialRoad" "LVisitVans$Road;", Cond.fieldLink RX4 26 "VisitVans" "trialPlan" "LVisitVans$Plan;", Cond.classLink RX4 29 RX0]
def wsL_law_r2 : List Cond := [Cond.instantiable RX0 3, Cond.initialized RX0, Cond.fieldLink RX4 32 "VisitVans" "history" "LVisitVans$History;", Cond.fieldLink RX4 36 "VisitVans" "slots" "[LVisitVans$Road;", Cond.arrayClass .boolean, Cond.fieldLink RX4 40 "VisitVans" "saved" "[Z", Cond.classLink RX4 44 RX1, Cond.instantiable RX1 6, Cond.initialized RX1, Cond.fieldLink RX4 47 "VisitVans" "pad" "LVisitVans$Pad;", Cond.instanceMethod yX3_init, Cond.code yX3_init cX3_init 1 none, Cond.methodLink RX3 3 objectInit, Cond.methodLink RX3 13 ⟨"[I", "clone", "()Ljava/lang/Object;"⟩, Cond.sameMethod "[I" "java/lang/Object" "clone" "()Ljava/lang/Object;", Cond.native ⟨"java/lang/Object", "clone", "()Ljava/lang/Object;"⟩, Cond.instanceMethod ⟨"java/lang/Object", "clone", "()Ljava/lang/Object;"⟩, Cond.selects "[I" ⟨"[I", "clone", "()Ljava/lang/Object;"⟩ ⟨"java/lang/Object", "clone", "()Ljava/lang/Object;"⟩, Cond.classLink RX3 14 "[I", Cond.fieldLink RX3 18 "VisitVans$Road" "settings" "[I", Cond.arrayClass .int, Cond.fieldLink RX3 23 "VisitVans$Road" "visits" "[I", Cond.fieldLink RX3 26 "VisitVans$Road" "vans" "[I", Cond.fieldLink RX3 29 "VisitVans$Road" "parts" "[I"]
def wsL_law_r3 : List Cond := [Cond.instanceMethod yX2_init, Cond.code yX2_init cX2_init 1 none, Cond.methodLink RX2 3 objectInit, Cond.fieldLink RX2 9 "VisitVans$Plan" "order" "[I", Cond.fieldLink RX2 15 "VisitVans$Plan" "outcomes" "[I", Cond.fieldLink RX2 18 "VisitVans$Plan" "drives" "[I", Cond.fieldLink RX2 21 "VisitVans$Plan" "left" "[I", Cond.fieldLink RX2 24 "VisitVans$Plan" "events" "[I", Cond.methodLink RX4 31 yX0_init, Cond.instanceMethod yX0_init, Cond.code yX0_init cX0_init 2 none, Cond.methodLink RX0 3 objectInit, Cond.classLink RX0 11 RX3, Cond.fieldLink RX0 13 "VisitVans$History" "states" "[LVisitVans$Road;", Cond.instanceMethod yX1_init, Cond.code yX1_init cX1_init 1 none, Cond.methodLink RX1 3 objectInit, Cond.arrayClass .char, Cond.fieldLink RX1 9 "VisitVans$Pad" "signs" "[C", Cond.fieldLink RX1 15 "VisitVans$Pad" "told" "[I", Cond.methodLink RL 12 yX5_init, Cond.instanceMethod yX5_init, Cond.code yX5_init cX5_init 1 none, Cond.methodLink RX5 1 objectInit]
def wsL_law_r4 : List Cond := [Cond.fieldLink RX5 7 "VisitVansModel" "s" "[I", Cond.fieldLink RX5 13 "VisitVansModel" "undos" "[I", Cond.fieldLink RX5 16 "VisitVansModel" "slots" "[I", Cond.fieldLink RX5 19 "VisitVansModel" "hasSlot" "[Z", Cond.fieldLink RX5 23 "VisitVansModel" "pad" "[I", Cond.fieldLink RX5 26 "VisitVansModel" "order" "[I", Cond.fieldLink RX5 29 "VisitVansModel" "promise" "[I", Cond.fieldLink RX5 32 "VisitVansModel" "vanOf" "[I", Cond.fieldLink RX5 35 "VisitVansModel" "begins" "[I", Cond.fieldLink RX5 38 "VisitVansModel" "comes" "[I", Cond.fieldLink RX5 41 "VisitVansModel" "leaves" "[I", Cond.fieldLink RX5 44 "VisitVansModel" "placeOf" "[I", Cond.fieldLink RX5 47 "VisitVansModel" "freeAt" "[I", Cond.fieldLink RX5 50 "VisitVansModel" "left" "[I", Cond.fieldLink RX5 53 "VisitVansModel" "ways" "[I", Cond.fieldLink RX5 56 "VisitVansModel" "waits" "[I", Cond.fieldLink RX5 59 "VisitVansModel" "told" "[I", Cond.fieldLink RX5 62 "VisitVansModel" "thrown" "I", Cond.methodLink RL 13 yX4_set, Cond.instanceMethod yX4_set, Cond.selects RX4 yX4_set yX4_set, Cond.code yX4_set cX4_set 3 (some .int), Cond.methodLink RX4 51 yX0_note, Cond.instanceMethod yX0_note]
def wsL_law_r5 : List Cond := [Cond.selects RX0 yX0_note yX0_note, Cond.code yX0_note cX0_note 2 none, Cond.fieldLink RX0 18 "VisitVans$History" "oldest" "I", Cond.fieldLink RX0 22 "VisitVans$History" "many" "I", Cond.methodLink RX0 25 yX3_copyFrom, Cond.instanceMethod yX3_copyFrom, Cond.selects RX3 yX3_copyFrom yX3_copyFrom, Cond.code yX3_copyFrom cX3_copyFrom 2 none, Cond.methodLink RX3 32 arraycopyName, Cond.native arraycopyName, Cond.static arraycopyName, Cond.initialized "java/lang/System", Cond.fieldLink RX3 38 "VisitVans$Road" "visitCount" "I", Cond.fieldLink RX3 42 "VisitVans$Road" "vanCount" "I", Cond.methodLink RX4 55 yX3_changeSetting, Cond.instanceMethod yX3_changeSetting, Cond.selects RX3 yX3_changeSetting yX3_changeSetting, Cond.code yX3_changeSetting cX3_changeSetting 4 (some .int), Cond.static yX4_within, Cond.code yX4_within cX4_within 3 (some .boolean), Cond.methodLink RX4 59 yX4_changed, Cond.instanceMethod yX4_changed, Cond.selects RX4 yX4_changed yX4_changed, Cond.code yX4_changed cX4_changed 2 (some .int)]
def wsL_law_r6 : List Cond := [Cond.methodLink RX4 182 yX0_keep, Cond.instanceMethod yX0_keep, Cond.selects RX0 yX0_keep yX0_keep, Cond.code yX0_keep cX0_keep 1 none, Cond.methodLink RX4 157 yX2_make, Cond.instanceMethod yX2_make, Cond.selects RX2 yX2_make yX2_make, Cond.code yX2_make cX2_make 3 none, Cond.fieldLink RX2 27 "VisitVans$Road" "visitCount" "I", Cond.fieldLink RX2 33 "VisitVans$Plan" "visitCount" "I", Cond.fieldLink RX2 34 "VisitVans$Road" "vanCount" "I", Cond.fieldLink RX2 37 "VisitVans$Plan" "vanCount" "I", Cond.methodLink RX2 38 yX2_sendVansHome, Cond.instanceMethod yX2_sendVansHome, Cond.selects RX2 yX2_sendVansHome yX2_sendVansHome, Cond.code yX2_sendVansHome cX2_sendVansHome 5 none, Cond.methodLink RX2 65 yX3_vanFact, Cond.instanceMethod yX3_vanFact, Cond.selects RX3 yX3_vanFact yX3_vanFact, Cond.code yX3_vanFact cX3_vanFact 3 (some .int), Cond.methodLink RX2 68 yX3_partsOf, Cond.instanceMethod yX3_partsOf, Cond.selects RX3 yX3_partsOf yX3_partsOf, Cond.code yX3_partsOf cX3_partsOf 3 (some .int)]
def wsL_law_r7 : List Cond := [Cond.methodLink RX2 42 yX2_orderByEnds, Cond.instanceMethod yX2_orderByEnds, Cond.selects RX2 yX2_orderByEnds yX2_orderByEnds, Cond.code yX2_orderByEnds cX2_orderByEnds 5 none, Cond.methodLink RX2 71 yX3_visitFact, Cond.instanceMethod yX3_visitFact, Cond.selects RX3 yX3_visitFact yX3_visitFact, Cond.code yX3_visitFact cX3_visitFact 3 (some .int), Cond.methodLink RX2 45 yX2_look, Cond.instanceMethod yX2_look, Cond.selects RX2 yX2_look yX2_look, Cond.code yX2_look cX2_look 8 none, Cond.fieldLink RX2 74 "VisitVans$Road" "settings" "[I", Cond.methodLink RX2 60 Lib.Math.max.name, Cond.static Lib.Math.max.name, Cond.initialized "java/lang/Math", Cond.code Lib.Math.max.name Lib.Math.max.code 2 (some .int), Cond.methodLink RX2 77 yX2_firstToBegin, Cond.instanceMethod yX2_firstToBegin, Cond.selects RX2 yX2_firstToBegin yX2_firstToBegin, Cond.code yX2_firstToBegin cX2_firstToBegin 10 (some .int), Cond.methodLink RX2 95 yX2_hasSkill, Cond.instanceMethod yX2_hasSkill, Cond.selects RX2 yX2_hasSkill yX2_hasSkill]
def wsL_law_r8 : List Cond := [Cond.code yX2_hasSkill cX2_hasSkill 4 (some .boolean), Cond.methodLink RX2 99 yX2_hasParts, Cond.instanceMethod yX2_hasParts, Cond.selects RX2 yX2_hasParts yX2_hasParts, Cond.code yX2_hasParts cX2_hasParts 4 (some .boolean), Cond.methodLink RX2 102 yX2_partsLeft, Cond.instanceMethod yX2_partsLeft, Cond.selects RX2 yX2_partsLeft yX2_partsLeft, Cond.code yX2_partsLeft cX2_partsLeft 3 (some .int), Cond.methodLink RX2 89 yX2_comes, Cond.instanceMethod yX2_comes, Cond.selects RX2 yX2_comes yX2_comes, Cond.code yX2_comes cX2_comes 5 (some .int), Cond.methodLink RX2 105 Lib.Math.abs.name, Cond.static Lib.Math.abs.name, Cond.code Lib.Math.abs.name Lib.Math.abs.code 1 (some .int), Cond.methodLink RX2 57 yX2_driveFact, Cond.instanceMethod yX2_driveFact, Cond.selects RX2 yX2_driveFact yX2_driveFact, Cond.code yX2_driveFact cX2_driveFact 3 (some .int), Cond.methodLink RX2 81 yX2_reason, Cond.instanceMethod yX2_reason, Cond.selects RX2 yX2_reason yX2_reason, Cond.code yX2_reason cX2_reason 5 (some .int)]
def wsL_law_r9 : List Cond := [Cond.methodLink RX2 85 yX2_putOutcome, Cond.instanceMethod yX2_putOutcome, Cond.selects RX2 yX2_putOutcome yX2_putOutcome, Cond.code yX2_putOutcome cX2_putOutcome 7 none, Cond.methodLink RX2 92 yX2_drive, Cond.instanceMethod yX2_drive, Cond.selects RX2 yX2_drive yX2_drive, Cond.code yX2_drive cX2_drive 9 none, Cond.methodLink RX2 49 yX2_outcome, Cond.instanceMethod yX2_outcome, Cond.selects RX2 yX2_outcome yX2_outcome, Cond.code yX2_outcome cX2_outcome 3 (some .int), Cond.methodLink RX2 108 yX2_addEvent, Cond.instanceMethod yX2_addEvent, Cond.selects RX2 yX2_addEvent yX2_addEvent, Cond.code yX2_addEvent cX2_addEvent 8 none, Cond.methodLink RL 17 yX5_set, Cond.instanceMethod yX5_set, Cond.selects RX5 yX5_set yX5_set, Cond.code yX5_set cX5_set 4 (some .int), Cond.methodLink RX5 111 yX5_isSetting, Cond.static yX5_isSetting, Cond.code yX5_isSetting cX5_isSetting 2 (some .boolean), Cond.methodLink RX5 107 yX5_in]
def wsL_law_r10 : List Cond := [Cond.static yX5_in, Cond.code yX5_in cX5_in 3 (some .boolean), Cond.methodLink RX5 114 yX5_records, Cond.instanceMethod yX5_records, Cond.selects RX5 yX5_records yX5_records, Cond.code yX5_records cX5_records 2 none, Cond.fieldLink RX5 66 "VisitVansModel" "undoMany" "I", Cond.methodLink RL 18 yX4_visit, Cond.instanceMethod yX4_visit, Cond.selects RX4 yX4_visit yX4_visit, Cond.code yX4_visit cX4_visit 7 (some .int), Cond.methodLink RX4 63 yX3_addVisit, Cond.instanceMethod yX3_addVisit, Cond.selects RX3 yX3_addVisit yX3_addVisit, Cond.code yX3_addVisit cX3_addVisit 8 (some .int), Cond.static yX4_visitError, Cond.code yX4_visitError cX4_visitError 6 (some .int), Cond.methodLink RX4 81 yX4_within, Cond.methodLink RX4 100 yX4_isPart, Cond.static yX4_isPart, Cond.code yX4_isPart cX4_isPart 1 (some .boolean), Cond.methodLink RX3 59 yX3_putVisit, Cond.instanceMethod yX3_putVisit, Cond.selects RX3 yX3_putVisit yX3_putVisit]
def wsL_law_r11 : List Cond := [Cond.code yX3_putVisit cX3_putVisit 8 (some .int), Cond.methodLink RL 22 yX5_visit, Cond.instanceMethod yX5_visit, Cond.selects RX5 yX5_visit yX5_visit, Cond.code yX5_visit cX5_visit 8 (some .int), Cond.methodLink RX5 121 yX5_refusesVisit, Cond.instanceMethod yX5_refusesVisit, Cond.selects RX5 yX5_refusesVisit yX5_refusesVisit, Cond.code yX5_refusesVisit cX5_refusesVisit 8 (some .int), Cond.methodLink RX5 117 yX5_refuses, Cond.static yX5_refuses, Cond.code yX5_refuses cX5_refuses 6 (some .int), Cond.methodLink RX5 124 yX5_laysVisit, Cond.instanceMethod yX5_laysVisit, Cond.selects RX5 yX5_laysVisit yX5_laysVisit, Cond.code yX5_laysVisit cX5_laysVisit 8 (some .int), Cond.methodLink RL 23 yX4_drop, Cond.instanceMethod yX4_drop, Cond.selects RX4 yX4_drop yX4_drop, Cond.code yX4_drop cX4_drop 2 (some .int), Cond.methodLink RX4 67 yX3_removeVisit, Cond.instanceMethod yX3_removeVisit, Cond.selects RX3 yX3_removeVisit yX3_removeVisit, Cond.code yX3_removeVisit cX3_removeVisit 4 (some .int)]
def wsL_law_r12 : List Cond := [Cond.methodLink RX3 62 yX3_hasVisit, Cond.instanceMethod yX3_hasVisit, Cond.selects RX3 yX3_hasVisit yX3_hasVisit, Cond.code yX3_hasVisit cX3_hasVisit 2 (some .boolean), Cond.methodLink RL 27 yX5_drop, Cond.instanceMethod yX5_drop, Cond.selects RX5 yX5_drop yX5_drop, Cond.code yX5_drop cX5_drop 2 (some .int), Cond.methodLink RX5 127 yX5_isVisit, Cond.instanceMethod yX5_isVisit, Cond.selects RX5 yX5_isVisit yX5_isVisit, Cond.code yX5_isVisit cX5_isVisit 2 (some .boolean), Cond.methodLink RX5 131 yX5_dropsVisit, Cond.instanceMethod yX5_dropsVisit, Cond.selects RX5 yX5_dropsVisit yX5_dropsVisit, Cond.code yX5_dropsVisit cX5_dropsVisit 3 (some .int), Cond.methodLink RL 28 yX4_van, Cond.instanceMethod yX4_van, Cond.selects RX4 yX4_van yX4_van, Cond.code yX4_van cX4_van 3 (some .int), Cond.methodLink RX4 70 yX3_addVan, Cond.instanceMethod yX3_addVan, Cond.selects RX3 yX3_addVan yX3_addVan, Cond.code yX3_addVan cX3_addVan 3 (some .int)]
def wsL_law_r13 : List Cond := [Cond.methodLink RL 31 yX5_van, Cond.instanceMethod yX5_van, Cond.selects RX5 yX5_van yX5_van, Cond.code yX5_van cX5_van 4 (some .int), Cond.methodLink RX5 134 yX5_refusesVan, Cond.instanceMethod yX5_refusesVan, Cond.selects RX5 yX5_refusesVan yX5_refusesVan, Cond.code yX5_refusesVan cX5_refusesVan 3 (some .int), Cond.methodLink RX5 137 yX5_laysVan, Cond.instanceMethod yX5_laysVan, Cond.selects RX5 yX5_laysVan yX5_laysVan, Cond.code yX5_laysVan cX5_laysVan 6 (some .int), Cond.methodLink RL 32 yX4_load, Cond.instanceMethod yX4_load, Cond.selects RX4 yX4_load yX4_load, Cond.code yX4_load cX4_load 4 (some .int), Cond.methodLink RX4 73 yX3_changeStock, Cond.instanceMethod yX3_changeStock, Cond.selects RX3 yX3_changeStock yX3_changeStock, Cond.code yX3_changeStock cX3_changeStock 5 (some .int), Cond.methodLink RX3 66 yX3_hasVan, Cond.instanceMethod yX3_hasVan, Cond.selects RX3 yX3_hasVan yX3_hasVan, Cond.code yX3_hasVan cX3_hasVan 2 (some .boolean)]
def wsL_law_r14 : List Cond := [Cond.methodLink RL 36 yX5_load, Cond.instanceMethod yX5_load, Cond.selects RX5 yX5_load yX5_load, Cond.code yX5_load cX5_load 6 (some .int), Cond.methodLink RX5 143 yX5_refusesLoad, Cond.instanceMethod yX5_refusesLoad, Cond.selects RX5 yX5_refusesLoad yX5_refusesLoad, Cond.code yX5_refusesLoad cX5_refusesLoad 4 (some .int), Cond.methodLink RX5 140 yX5_isVan, Cond.instanceMethod yX5_isVan, Cond.selects RX5 yX5_isVan yX5_isVan, Cond.code yX5_isVan cX5_isVan 2 (some .boolean), Cond.methodLink RX5 69 yX5_van0, Cond.instanceMethod yX5_van0, Cond.selects RX5 yX5_van0 yX5_van0, Cond.code yX5_van0 cX5_van0 3 (some .int), Cond.methodLink RL 37 yX4_ofVisit, Cond.instanceMethod yX4_ofVisit, Cond.selects RX4 yX4_ofVisit yX4_ofVisit, Cond.code yX4_ofVisit cX4_ofVisit 3 (some .int), Cond.methodLink RX4 77 yX3_hasVisit, Cond.methodLink RX4 85 yX3_visitFact, Cond.methodLink RX4 88 yX2_outcome, Cond.methodLink RL 40 yX5_ofVisit]
def wsL_law_r15 : List Cond := [Cond.instanceMethod yX5_ofVisit, Cond.selects RX5 yX5_ofVisit yX5_ofVisit, Cond.code yX5_ofVisit cX5_ofVisit 3 (some .int), Cond.methodLink RX5 146 yX5_plans, Cond.instanceMethod yX5_plans, Cond.selects RX5 yX5_plans yX5_plans, Cond.code yX5_plans cX5_plans 3 none, Cond.methodLink RX5 101 yX5_rankOf, Cond.instanceMethod yX5_rankOf, Cond.selects RX5 yX5_rankOf yX5_rankOf, Cond.code yX5_rankOf cX5_rankOf 5 (some .int), Cond.methodLink RX5 73 yX5_visit0, Cond.instanceMethod yX5_visit0, Cond.selects RX5 yX5_visit0 yX5_visit0, Cond.code yX5_visit0 cX5_visit0 3 (some .int), Cond.methodLink RX5 104 yX5_looks, Cond.instanceMethod yX5_looks, Cond.selects RX5 yX5_looks yX5_looks, Cond.code yX5_looks cX5_looks 5 (some .int), Cond.methodLink RX5 90 yX5_vanFor, Cond.instanceMethod yX5_vanFor, Cond.selects RX5 yX5_vanFor yX5_vanFor, Cond.code yX5_vanFor cX5_vanFor 6 (some .int), Cond.methodLink RX5 79 yX5_hasSkill]
def wsL_law_r16 : List Cond := [Cond.instanceMethod yX5_hasSkill, Cond.selects RX5 yX5_hasSkill yX5_hasSkill, Cond.code yX5_hasSkill cX5_hasSkill 3 (some .boolean), Cond.methodLink RX5 83 yX5_hasParts, Cond.instanceMethod yX5_hasParts, Cond.selects RX5 yX5_hasParts yX5_hasParts, Cond.code yX5_hasParts cX5_hasParts 3 (some .boolean), Cond.methodLink RX5 86 yX5_beginOf, Cond.instanceMethod yX5_beginOf, Cond.selects RX5 yX5_beginOf yX5_beginOf, Cond.code yX5_beginOf cX5_beginOf 6 (some .int), Cond.methodLink RX5 76 yX5_wayTo, Cond.instanceMethod yX5_wayTo, Cond.selects RX5 yX5_wayTo yX5_wayTo, Cond.code yX5_wayTo cX5_wayTo 4 (some .int), Cond.methodLink RX5 93 yX5_reason, Cond.instanceMethod yX5_reason, Cond.selects RX5 yX5_reason yX5_reason, Cond.code yX5_reason cX5_reason 5 (some .int), Cond.methodLink RX5 97 yX5_makes, Cond.instanceMethod yX5_makes, Cond.selects RX5 yX5_makes yX5_makes, Cond.code yX5_makes cX5_makes 6 none, Cond.methodLink RL 41 yX4_ofVan]
def wsL_law_r17 : List Cond := [Cond.instanceMethod yX4_ofVan, Cond.selects RX4 yX4_ofVan yX4_ofVan, Cond.code yX4_ofVan cX4_ofVan 3 (some .int), Cond.methodLink RX4 91 yX3_hasVan, Cond.methodLink RX4 94 yX3_vanFact, Cond.methodLink RX4 97 yX2_driveFact, Cond.methodLink RL 44 yX5_ofVan, Cond.instanceMethod yX5_ofVan, Cond.selects RX5 yX5_ofVan yX5_ofVan, Cond.code yX5_ofVan cX5_ofVan 3 (some .int), Cond.methodLink RX5 149 yX5_visitsOf, Cond.instanceMethod yX5_visitsOf, Cond.selects RX5 yX5_visitsOf yX5_visitsOf, Cond.code yX5_visitsOf cX5_visitsOf 4 (some .int), Cond.methodLink RX5 152 yX5_eventsOf, Cond.instanceMethod yX5_eventsOf, Cond.selects RX5 yX5_eventsOf yX5_eventsOf, Cond.code yX5_eventsOf cX5_eventsOf 5 (some .int), Cond.methodLink RL 45 yX4_stock, Cond.instanceMethod yX4_stock, Cond.selects RX4 yX4_stock yX4_stock, Cond.code yX4_stock cX4_stock 4 (some .int), Cond.methodLink RX4 103 yX3_partsOf, Cond.methodLink RX4 106 yX2_partsLeft]
def wsL_law_r18 : List Cond := [Cond.methodLink RL 48 yX5_stock, Cond.instanceMethod yX5_stock, Cond.selects RX5 yX5_stock yX5_stock, Cond.code yX5_stock cX5_stock 6 (some .int), Cond.methodLink RL 49 yX4_event, Cond.instanceMethod yX4_event, Cond.selects RX4 yX4_event yX4_event, Cond.code yX4_event cX4_event 4 (some .int), Cond.methodLink RX4 109 yX2_eventFact, Cond.instanceMethod yX2_eventFact, Cond.selects RX2 yX2_eventFact yX2_eventFact, Cond.code yX2_eventFact cX2_eventFact 4 (some .int), Cond.methodLink RL 52 yX5_event, Cond.instanceMethod yX5_event, Cond.selects RX5 yX5_event yX5_event, Cond.code yX5_event cX5_event 6 (some .int), Cond.methodLink RX5 155 yX5_nextVisit, Cond.instanceMethod yX5_nextVisit, Cond.selects RX5 yX5_nextVisit yX5_nextVisit, Cond.code yX5_nextVisit cX5_nextVisit 6 (some .int), Cond.methodLink RX5 158 yX5_tells, Cond.instanceMethod yX5_tells, Cond.selects RX5 yX5_tells yX5_tells, Cond.code yX5_tells cX5_tells 6 (some .int)]
def wsL_law_r19 : List Cond := [Cond.methodLink RL 53 yX4_count, Cond.instanceMethod yX4_count, Cond.selects RX4 yX4_count yX4_count, Cond.code yX4_count cX4_count 2 (some .int), Cond.fieldLink RX4 112 "VisitVans$Road" "visitCount" "I", Cond.fieldLink RX4 116 "VisitVans$Road" "vanCount" "I", Cond.fieldLink RX4 132 "VisitVans$Road" "settings" "[I", Cond.fieldLink RX4 136 "VisitVans$Pad" "length" "I", Cond.fieldLink RX4 139 "VisitVans$History" "many" "I", Cond.methodLink RX4 119 yX2_promisesThatAre, Cond.instanceMethod yX2_promisesThatAre, Cond.selects RX2 yX2_promisesThatAre yX2_promisesThatAre, Cond.code yX2_promisesThatAre cX2_promisesThatAre 4 (some .int), Cond.methodLink RX4 122 yX2_visitsMade, Cond.instanceMethod yX2_visitsMade, Cond.selects RX2 yX2_visitsMade yX2_visitsMade, Cond.code yX2_visitsMade cX2_visitsMade 1 (some .int), Cond.methodLink RX2 53 yX2_promisesThatAre, Cond.methodLink RX4 126 yX2_sumOverVans, Cond.instanceMethod yX2_sumOverVans, Cond.selects RX2 yX2_sumOverVans yX2_sumOverVans, Cond.code yX2_sumOverVans cX2_sumOverVans 4 (some .int), Cond.methodLink RX4 129 yX2_lastFree, Cond.instanceMethod yX2_lastFree]
def wsL_law_r20 : List Cond := [Cond.selects RX2 yX2_lastFree yX2_lastFree, Cond.code yX2_lastFree cX2_lastFree 3 (some .int), Cond.methodLink RL 56 yX5_count, Cond.instanceMethod yX5_count, Cond.selects RX5 yX5_count yX5_count, Cond.code yX5_count cX5_count 2 (some .int), Cond.fieldLink RX5 168 "VisitVansModel" "length" "I", Cond.methodLink RX5 162 yX5_withPromise, Cond.instanceMethod yX5_withPromise, Cond.selects RX5 yX5_withPromise yX5_withPromise, Cond.code yX5_withPromise cX5_withPromise 5 (some .int), Cond.methodLink RX5 165 yX5_overVans, Cond.instanceMethod yX5_overVans, Cond.selects RX5 yX5_overVans yX5_overVans, Cond.code yX5_overVans cX5_overVans 4 (some .int), Cond.methodLink RL 57 yX4_wanted, Cond.instanceMethod yX4_wanted, Cond.selects RX4 yX4_wanted yX4_wanted, Cond.code yX4_wanted cX4_wanted 4 (some .int), Cond.methodLink RL 60 yX5_wanted, Cond.instanceMethod yX5_wanted, Cond.selects RX5 yX5_wanted yX5_wanted, Cond.code yX5_wanted cX5_wanted 4 (some .int), Cond.methodLink RL 61 yX4_share]
def wsL_law_r21 : List Cond := [Cond.instanceMethod yX4_share, Cond.selects RX4 yX4_share yX4_share, Cond.code yX4_share cX4_share 2 (some .int), Cond.methodLink RX4 142 yX4_bitsOf, Cond.static yX4_bitsOf, Cond.code yX4_bitsOf cX4_bitsOf 9 (some .long), Cond.constantDouble RX4 205 (4611686018427387904), Cond.methodLink RL 65 yX5_share, Cond.instanceMethod yX5_share, Cond.selects RX5 yX5_share yX5_share, Cond.code yX5_share cX5_share 1 (some .int), Cond.methodLink RX5 171 yJxf58ca_floatToIntBits_5c35a, Cond.static yJxf58ca_floatToIntBits_5c35a, Cond.initialized RJxf58ca, Cond.code yJxf58ca_floatToIntBits_5c35a cJxf58ca_floatToIntBits_5c35a 1 (some .int), Cond.methodLink RJxf58ca 74 ⟨"java/lang/Float", "floatToRawIntBits", "(F)I"⟩, Cond.native ⟨"java/lang/Float", "floatToRawIntBits", "(F)I"⟩, Cond.static ⟨"java/lang/Float", "floatToRawIntBits", "(F)I"⟩, Cond.initialized "java/lang/Float", Cond.constant RJxf58ca 77 (2143289344), Cond.methodLink RJxf58ca 59 yJxf58ca_isNaN_12338, Cond.static yJxf58ca_isNaN_12338, Cond.code yJxf58ca_isNaN_12338 cJxf58ca_isNaN_12338 1 (some .boolean), Cond.methodLink RL 66 yX4_meanWay]
def wsL_law_r22 : List Cond := [Cond.instanceMethod yX4_meanWay, Cond.selects RX4 yX4_meanWay yX4_meanWay, Cond.code yX4_meanWay cX4_meanWay 7 (some .long), Cond.constantLong RX4 146 (-2), Cond.methodLink RL 70 yX5_meanWay, Cond.instanceMethod yX5_meanWay, Cond.selects RX5 yX5_meanWay yX5_meanWay, Cond.code yX5_meanWay cX5_meanWay 5 (some .long), Cond.constantLong RX5 177 (-2), Cond.methodLink RX5 179 yJxe99ae_doubleToLongBits_ccdee, Cond.static yJxe99ae_doubleToLongBits_ccdee, Cond.initialized RJxe99ae, Cond.code yJxe99ae_doubleToLongBits_ccdee cJxe99ae_doubleToLongBits_ccdee 2 (some .long), Cond.methodLink RJxe99ae 134 ⟨"java/lang/Double", "doubleToRawLongBits", "(D)J"⟩, Cond.native ⟨"java/lang/Double", "doubleToRawLongBits", "(D)J"⟩, Cond.static ⟨"java/lang/Double", "doubleToRawLongBits", "(D)J"⟩, Cond.initialized "java/lang/Double", Cond.constantLong RJxe99ae 137 (9221120237041090560), Cond.methodLink RJxe99ae 122 yJxe99ae_isNaN_b9ae7, Cond.static yJxe99ae_isNaN_b9ae7, Cond.code yJxe99ae_isNaN_b9ae7 cJxe99ae_isNaN_b9ae7 2 (some .boolean), Cond.methodLink RL 71 yX4_would, Cond.instanceMethod yX4_would, Cond.selects RX4 yX4_would yX4_would]
def wsL_law_r23 : List Cond := [Cond.code yX4_would cX4_would 9 (some .int), Cond.methodLink RX4 148 yX4_visitError, Cond.methodLink RX4 151 yX3_copyFrom, Cond.methodLink RX4 154 yX3_putVisit, Cond.methodLink RL 74 yX5_would, Cond.instanceMethod yX5_would, Cond.selects RX5 yX5_would yX5_would, Cond.code yX5_would cX5_would 10 (some .int), Cond.methodLink RL 75 yX4_withVan, Cond.instanceMethod yX4_withVan, Cond.selects RX4 yX4_withVan yX4_withVan, Cond.code yX4_withVan cX4_withVan 5 (some .int), Cond.methodLink RL 78 yX5_withVan, Cond.instanceMethod yX5_withVan, Cond.selects RX5 yX5_withVan yX5_withVan, Cond.code yX5_withVan cX5_withVan 5 (some .int), Cond.methodLink RL 79 yX4_slowest, Cond.instanceMethod yX4_slowest, Cond.selects RX4 yX4_slowest yX4_slowest, Cond.code yX4_slowest cX4_slowest 4 (some .int), Cond.fieldLink RX4 160 "VisitVans" "LEAST_SETTING" "[I", Cond.fieldLink RX4 166 "VisitVans" "MOST_SETTING" "[I", Cond.methodLink RX4 163 yX4_madeAtPace, Cond.instanceMethod yX4_madeAtPace]
def wsL_law_r24 : List Cond := [Cond.selects RX4 yX4_madeAtPace yX4_madeAtPace, Cond.code yX4_madeAtPace cX4_madeAtPace 2 (some .int), Cond.methodLink RL 82 yX5_slowest, Cond.instanceMethod yX5_slowest, Cond.selects RX5 yX5_slowest yX5_slowest, Cond.code yX5_slowest cX5_slowest 3 (some .int), Cond.methodLink RX5 185 yX5_brokenAt, Cond.instanceMethod yX5_brokenAt, Cond.selects RX5 yX5_brokenAt yX5_brokenAt, Cond.code yX5_brokenAt cX5_brokenAt 3 (some .int), Cond.methodLink RL 85 yX4_put, Cond.instanceMethod yX4_put, Cond.selects RX4 yX4_put yX4_put, Cond.code yX4_put cX4_put 3 (some .int), Cond.methodLink RX4 169 yX1_append, Cond.instanceMethod yX1_append, Cond.selects RX1 yX1_append yX1_append, Cond.code yX1_append cX1_append 6 (some .int), Cond.constantLong RX1 19 (255), Cond.fieldLink RX1 25 "VisitVans$Pad" "length" "I", Cond.methodLink RL 89 yX5_put, Cond.instanceMethod yX5_put, Cond.selects RX5 yX5_put yX5_put, Cond.code yX5_put cX5_put 8 (some .int)]
def wsL_law_r25 : List Cond := [Cond.constantLong RX5 188 (255), Cond.methodLink RL 90 yX4_wipe, Cond.instanceMethod yX4_wipe, Cond.selects RX4 yX4_wipe yX4_wipe, Cond.code yX4_wipe cX4_wipe 2 (some .int), Cond.methodLink RL 93 yX5_wipe, Cond.instanceMethod yX5_wipe, Cond.selects RX5 yX5_wipe yX5_wipe, Cond.code yX5_wipe cX5_wipe 2 (some .int), Cond.methodLink RL 94 yX4_fault, Cond.instanceMethod yX4_fault, Cond.selects RX4 yX4_fault yX4_fault, Cond.code yX4_fault cX4_fault 1 (some .int), Cond.methodLink RX4 173 yX1_firstFault, Cond.instanceMethod yX1_firstFault, Cond.selects RX1 yX1_firstFault yX1_firstFault, Cond.code yX1_firstFault cX1_firstFault 3 (some .int), Cond.fieldLink RX1 29 "VisitVans$Pad" "at" "I", Cond.methodLink RX1 32 yX1_start, Cond.instanceMethod yX1_start, Cond.selects RX1 yX1_start yX1_start, Cond.code yX1_start cX1_start 1 none, Cond.methodLink RX1 35 yX1_readOrder, Cond.instanceMethod yX1_readOrder]
def wsL_law_r26 : List Cond := [Cond.selects RX1 yX1_readOrder yX1_readOrder, Cond.code yX1_readOrder cX1_readOrder 4 (some .boolean), Cond.fieldLink RX1 50 "VisitVans$Pad" "kind" "C", Cond.fieldLink RX1 63 "VisitVans$Pad" "toldCount" "I", Cond.methodLink RX1 42 yX1_readSign, Cond.instanceMethod yX1_readSign, Cond.selects RX1 yX1_readSign yX1_readSign, Cond.code yX1_readSign cX1_readSign 2 (some .boolean), Cond.methodLink RX1 46 yX1_nextSign, Cond.instanceMethod yX1_nextSign, Cond.selects RX1 yX1_nextSign yX1_nextSign, Cond.code yX1_nextSign cX1_nextSign 1 (some .char), Cond.methodLink RX1 54 yX1_formOf, Cond.static yX1_formOf, Cond.code yX1_formOf cX1_formOf 1 (some (.object "java/lang/String")), Cond.methodLink RX1 58 yJ0_isEmpty_aae02, Cond.instanceMethod yJ0_isEmpty_aae02, Cond.selects RJ0 yJ0_isEmpty_aae02 yJ0_isEmpty_aae02, Cond.initialized RJ0, Cond.code yJ0_isEmpty_aae02 cJ0_isEmpty_aae02 1 (some .boolean), Cond.fieldLink RJ0 9 "java/lang/String" "value" "[B", Cond.methodLink RX1 66 yJ0_length_8abf5, Cond.instanceMethod yJ0_length_8abf5, Cond.selects RJ0 yJ0_length_8abf5 yJ0_length_8abf5]
def wsL_law_r27 : List Cond := [Cond.code yJ0_length_8abf5 cJ0_length_8abf5 1 (some .int), Cond.methodLink RJ0 335 yJ0_coder_7d493, Cond.instanceMethod yJ0_coder_7d493, Cond.selects RJ0 yJ0_coder_7d493 yJ0_coder_7d493, Cond.code yJ0_coder_7d493 cJ0_coder_7d493 1 (some .byte), Cond.fieldLink RJ0 38 "java/lang/String" "COMPACT_STRINGS" "Z", Cond.fieldLink RJ0 15 "java/lang/String" "coder" "B", Cond.methodLink RX1 69 yJ0_charAt_5068e, Cond.instanceMethod yJ0_charAt_5068e, Cond.selects RJ0 yJ0_charAt_5068e yJ0_charAt_5068e, Cond.code yJ0_charAt_5068e cJ0_charAt_5068e 2 (some .char), Cond.methodLink RJ0 492 yJ0_isLatin1_aae02, Cond.instanceMethod yJ0_isLatin1_aae02, Cond.selects RJ0 yJ0_isLatin1_aae02 yJ0_isLatin1_aae02, Cond.code yJ0_isLatin1_aae02 cJ0_isLatin1_aae02 1 (some .boolean), Cond.methodLink RJ0 495 yJ1_charAt_3b067, Cond.static yJ1_charAt_3b067, Cond.initialized RJ1, Cond.code yJ1_charAt_3b067 cJ1_charAt_3b067 2 (some .char), Cond.methodLink RJ1 9 yJ0_checkIndex_df160, Cond.static yJ0_checkIndex_df160, Cond.code yJ0_checkIndex_df160 cJ0_checkIndex_df160 2 none, Cond.fieldLink RJ0 1053 "jdk/internal/util/Preconditions" "SIOOBE_FORMATTER" "Ljava/util/function/BiFunction;", Cond.methodLink RJ0 1059 yJ3_checkIndex_8e157]
def wsL_law_r28 : List Cond := [Cond.static yJ3_checkIndex_8e157, Cond.initialized RJ3, Cond.code yJ3_checkIndex_8e157 cJ3_checkIndex_8e157 3 (some .int), Cond.methodLink RJ0 498 yJ2_charAt_3b067, Cond.static yJ2_charAt_3b067, Cond.initialized RJ2, Cond.code yJ2_charAt_3b067 cJ2_charAt_3b067 2 (some .char), Cond.methodLink RJ2 67 yJ2_checkIndex_2214a, Cond.static yJ2_checkIndex_2214a, Cond.code yJ2_checkIndex_2214a cJ2_checkIndex_2214a 2 none, Cond.methodLink RJ2 48 yJ2_length_9d52b, Cond.static yJ2_length_9d52b, Cond.code yJ2_length_9d52b cJ2_length_9d52b 1 (some .int), Cond.methodLink RJ2 414 yJ0_checkIndex_df160, Cond.methodLink RJ2 71 yJ2_getChar_3b067, Cond.static yJ2_getChar_3b067, Cond.code yJ2_getChar_3b067 cJ2_getChar_3b067 2 (some .char), Cond.fieldLink RJ2 44 "java/lang/StringUTF16" "$assertionsDisabled" "Z", Cond.fieldLink RJ2 59 "java/lang/StringUTF16" "HI_BYTE_SHIFT" "I", Cond.fieldLink RJ2 63 "java/lang/StringUTF16" "LO_BYTE_SHIFT" "I", Cond.methodLink RX1 73 yX1_readPiece, Cond.instanceMethod yX1_readPiece, Cond.selects RX1 yX1_readPiece yX1_readPiece, Cond.code yX1_readPiece cX1_readPiece 2 (some .boolean)]
def wsL_law_r29 : List Cond := [Cond.methodLink RX1 86 yX1_readNumber, Cond.instanceMethod yX1_readNumber, Cond.selects RX1 yX1_readNumber yX1_readNumber, Cond.code yX1_readNumber cX1_readNumber 3 (some .boolean), Cond.methodLink RX1 95 yX1_nextDigit, Cond.instanceMethod yX1_nextDigit, Cond.selects RX1 yX1_nextDigit yX1_nextDigit, Cond.code yX1_nextDigit cX1_nextDigit 2 (some .int), Cond.methodLink RX1 98 yX1_tell, Cond.instanceMethod yX1_tell, Cond.selects RX1 yX1_tell yX1_tell, Cond.code yX1_tell cX1_tell 2 none, Cond.methodLink RX1 89 yX1_readDigit, Cond.instanceMethod yX1_readDigit, Cond.selects RX1 yX1_readDigit yX1_readDigit, Cond.code yX1_readDigit cX1_readDigit 2 (some .boolean), Cond.methodLink RX1 92 yX1_readSkills, Cond.instanceMethod yX1_readSkills, Cond.selects RX1 yX1_readSkills yX1_readSkills, Cond.code yX1_readSkills cX1_readSkills 3 (some .boolean), Cond.methodLink RX1 39 yX1_hasMore, Cond.instanceMethod yX1_hasMore, Cond.selects RX1 yX1_hasMore yX1_hasMore, Cond.code yX1_hasMore cX1_hasMore 1 (some .boolean)]
def wsL_law_r30 : List Cond := [Cond.methodLink RL 97 yX5_fault, Cond.instanceMethod yX5_fault, Cond.selects RX5 yX5_fault yX5_fault, Cond.code yX5_fault cX5_fault 1 (some .int), Cond.methodLink RX5 223 yX5_reads, Cond.instanceMethod yX5_reads, Cond.selects RX5 yX5_reads yX5_reads, Cond.code yX5_reads cX5_reads 1 (some .int), Cond.fieldLink RX5 190 "VisitVansModel" "at" "I", Cond.fieldLink RX5 193 "VisitVansModel" "isWell" "Z", Cond.fieldLink RX5 211 "VisitVansModel" "toldMany" "I", Cond.methodLink RX5 220 yX5_readsOrder, Cond.instanceMethod yX5_readsOrder, Cond.selects RX5 yX5_readsOrder yX5_readsOrder, Cond.code yX5_readsOrder cX5_readsOrder 3 none, Cond.methodLink RX5 197 yX5_sign, Cond.instanceMethod yX5_sign, Cond.selects RX5 yX5_sign yX5_sign, Cond.code yX5_sign cX5_sign 1 (some .int), Cond.methodLink RX5 214 yX5_readsVisit, Cond.instanceMethod yX5_readsVisit, Cond.selects RX5 yX5_readsVisit yX5_readsVisit, Cond.code yX5_readsVisit cX5_readsVisit 2 none, Cond.methodLink RX5 204 yX5_number]
def wsL_law_r31 : List Cond := [Cond.instanceMethod yX5_number, Cond.selects RX5 yX5_number yX5_number, Cond.code yX5_number cX5_number 3 (some .int), Cond.methodLink RX5 201 yX5_digit, Cond.instanceMethod yX5_digit, Cond.selects RX5 yX5_digit yX5_digit, Cond.code yX5_digit cX5_digit 3 (some .int), Cond.methodLink RX5 207 yX5_wants, Cond.instanceMethod yX5_wants, Cond.selects RX5 yX5_wants yX5_wants, Cond.code yX5_wants cX5_wants 2 none, Cond.methodLink RX5 217 yX5_readsVan, Cond.instanceMethod yX5_readsVan, Cond.selects RX5 yX5_readsVan yX5_readsVan, Cond.code yX5_readsVan cX5_readsVan 3 none, Cond.methodLink RL 98 yX4_carryOut, Cond.instanceMethod yX4_carryOut, Cond.selects RX4 yX4_carryOut yX4_carryOut, Cond.code yX4_carryOut cX4_carryOut 2 (some .int), Cond.methodLink RX4 176 yX4_carryOrders, Cond.instanceMethod yX4_carryOrders, Cond.selects RX4 yX4_carryOrders yX4_carryOrders, Cond.code yX4_carryOrders cX4_carryOrders 2 (some .int), Cond.methodLink RX4 185 yX1_start]
def wsL_law_r32 : List Cond := [Cond.methodLink RX4 188 yX1_hasMore, Cond.methodLink RX4 192 yX1_readOrder, Cond.methodLink RX4 195 yX4_carryOne, Cond.instanceMethod yX4_carryOne, Cond.selects RX4 yX4_carryOne yX4_carryOne, Cond.code yX4_carryOne cX4_carryOne 2 (some .int), Cond.fieldLink RX4 198 "VisitVans$Pad" "told" "[I", Cond.fieldLink RX4 201 "VisitVans$Pad" "kind" "C", Cond.methodLink RL 101 yX5_carryOut, Cond.instanceMethod yX5_carryOut, Cond.selects RX5 yX5_carryOut yX5_carryOut, Cond.code yX5_carryOut cX5_carryOut 2 (some .int), Cond.methodLink RX5 226 yX5_refusesOrder, Cond.instanceMethod yX5_refusesOrder, Cond.selects RX5 yX5_refusesOrder yX5_refusesOrder, Cond.code yX5_refusesOrder cX5_refusesOrder 2 (some .int), Cond.methodLink RX5 229 yX5_does, Cond.instanceMethod yX5_does, Cond.selects RX5 yX5_does yX5_does, Cond.code yX5_does cX5_does 2 none, Cond.methodLink RL 102 yX4_undo, Cond.instanceMethod yX4_undo, Cond.selects RX4 yX4_undo yX4_undo, Cond.code yX4_undo cX4_undo 1 (some .int)]
def wsL_law_r33 : List Cond := [Cond.methodLink RX4 179 yX0_takeBack, Cond.instanceMethod yX0_takeBack, Cond.selects RX0 yX0_takeBack yX0_takeBack, Cond.code yX0_takeBack cX0_takeBack 2 none, Cond.methodLink RL 105 yX5_undo, Cond.instanceMethod yX5_undo, Cond.selects RX5 yX5_undo yX5_undo, Cond.code yX5_undo cX5_undo 2 (some .int), Cond.methodLink RL 106 yX4_save, Cond.instanceMethod yX4_save, Cond.selects RX4 yX4_save yX4_save, Cond.code yX4_save cX4_save 2 (some .int), Cond.methodLink RL 109 yX5_save, Cond.instanceMethod yX5_save, Cond.selects RX5 yX5_save yX5_save, Cond.code yX5_save cX5_save 3 (some .int), Cond.methodLink RL 110 yX4_restore, Cond.instanceMethod yX4_restore, Cond.selects RX4 yX4_restore yX4_restore, Cond.code yX4_restore cX4_restore 2 (some .int), Cond.methodLink RL 113 yX5_restore, Cond.instanceMethod yX5_restore, Cond.selects RX5 yX5_restore yX5_restore, Cond.code yX5_restore cX5_restore 3 (some .int)]
def wsL_law : List Cond := (wsL_law_r1 ++ (wsL_law_r2 ++ (wsL_law_r3 ++ (wsL_law_r4 ++ (wsL_law_r5 ++ (wsL_law_r6 ++ (wsL_law_r7 ++ (wsL_law_r8 ++ (wsL_law_r9 ++ (wsL_law_r10 ++ (wsL_law_r11 ++ (wsL_law_r12 ++ (wsL_law_r13 ++ (wsL_law_r14 ++ (wsL_law_r15 ++ (wsL_law_r16 ++ (wsL_law_r17 ++ (wsL_law_r18 ++ (wsL_law_r19 ++ (wsL_law_r20 ++ (wsL_law_r21 ++ (wsL_law_r22 ++ (wsL_law_r23 ++ (wsL_law_r24 ++ (wsL_law_r25 ++ (wsL_law_r26 ++ (wsL_law_r27 ++ (wsL_law_r28 ++ (wsL_law_r29 ++ (wsL_law_r30 ++ (wsL_law_r31 ++ (wsL_law_r32 ++ wsL_law_r33)))))))))))))))))))))))))))))))) ++ wsX40 ++ wsX50 ++ wsX30 ++ wsX20 ++ wsX00 ++ wsX10 ++ ([] : List Cond)
end
section
set_option maxRecDepth 20000 in
theorem ggX0_init_X3_init : GoodIn wsX0_init wsX3_init := goodIn_r _ [9, 10, 2, 3, 11, 12, 13, 14, 15, 16, 17, 18, 19, 20, 21, 25, 26, 27, 28, 29, 30] (by decide +kernel) (by decide +kernel)
set_option maxRecDepth 20000 in
theorem gX0_init_X3_init_n17 : GoodIn wsX0_init (wsX3_init) := ggX0_init_X3_init
theorem dX0_init_0 : decode cX0_init 0 = .ok (.aload_n 0, 1) := by decide +kernel
theorem dX0_init_1 : decode cX0_init 1 = .ok (.invokespecial 3, 3) := by decide +kernel
theorem dX0_init_4 : decode cX0_init 4 = .ok (.aload_n 0, 1) := by decide +kernel
theorem dX0_init_5 : decode cX0_init 5 = .ok (.bipush 7, 2) := by decide +kernel
theorem dX0_init_7 : decode cX0_init 7 = .ok (.anewarray 11, 3) := by decide +kernel
theorem dX0_init_10 : decode cX0_init 10 = .ok (.putfield 13, 3) := by decide +kernel
theorem dX0_init_13 : decode cX0_init 13 = .ok (.iconst 0, 1) := by decide +kernel
theorem dX0_init_14 : decode cX0_init 14 = .ok (.istore_n 1, 1) := by decide +kernel
theorem dX0_init_15 : decode cX0_init 15 = .ok (.iload_n 1, 1) := by decide +kernel
theorem dX0_init_16 : decode cX0_init 16 = .ok (.bipush 7, 2) := by decide +kernel
theorem dX0_init_18 : decode cX0_init 18 = .ok (.if_icmp .ge 22, 3) := by decide +kernel
theorem dX0_init_21 : decode cX0_init 21 = .ok (.aload_n 0, 1) := by decide +kernel
theorem dX0_init_22 : decode cX0_init 22 = .ok (.getfield 13, 3) := by decide +kernel
theorem dX0_init_25 : decode cX0_init 25 = .ok (.iload_n 1, 1) := by decide +kernel
theorem dX0_init_26 : decode cX0_init 26 = .ok (.new 11, 3) := by decide +kernel
theorem dX0_init_29 : decode cX0_init 29 = .ok (.dup, 1) := by decide +kernel
theorem dX0_init_30 : decode cX0_init 30 = .ok (.invokespecial 17, 3) := by decide +kernel
theorem dX0_init_33 : decode cX0_init 33 = .ok (.aastore, 1) := by decide +kernel
theorem dX0_init_34 : decode cX0_init 34 = .ok (.iinc 1 1, 3) := by decide +kernel
theorem dX0_init_37 : decode cX0_init 37 = .ok (.goto (-22), 3) := by decide +kernel
theorem dX0_init_40 : decode cX0_init 40 = .ok (.return_, 1) := by decide +kernel
set_option maxRecDepth 20000 in
theorem ggX0_note_X3_copyFrom : GoodIn wsX0_note wsX3_copyFrom := goodIn_r _ [8, 9, 10, 11, 12, 13, 14, 15, 16, 17, 18, 22, 23, 24, 25, 26, 27] (by decide +kernel) (by decide +kernel)
set_option maxRecDepth 20000 in
theorem gX0_note_X3_copyFrom : GoodIn wsX0_note (wsV RX0 25 RX3 yX3_copyFrom wsX3_copyFrom) := goodIn_app (goodIn_of _ (by decide +kernel)) ggX0_note_X3_copyFrom
theorem dX0_note_0 : decode cX0_note 0 = .ok (.aload_n 0, 1) := by decide +kernel
theorem dX0_note_1 : decode cX0_note 1 = .ok (.getfield 13, 3) := by decide +kernel
theorem dX0_note_4 : decode cX0_note 4 = .ok (.aload_n 0, 1) := by decide +kernel
theorem dX0_note_5 : decode cX0_note 5 = .ok (.getfield 18, 3) := by decide +kernel
theorem dX0_note_8 : decode cX0_note 8 = .ok (.aload_n 0, 1) := by decide +kernel
theorem dX0_note_9 : decode cX0_note 9 = .ok (.getfield 22, 3) := by decide +kernel
theorem dX0_note_12 : decode cX0_note 12 = .ok (.iadd, 1) := by decide +kernel
theorem dX0_note_13 : decode cX0_note 13 = .ok (.bipush 7, 2) := by decide +kernel
theorem dX0_note_15 : decode cX0_note 15 = .ok (.irem, 1) := by decide +kernel
theorem dX0_note_16 : decode cX0_note 16 = .ok (.aaload, 1) := by decide +kernel
theorem dX0_note_17 : decode cX0_note 17 = .ok (.aload_n 1, 1) := by decide +kernel
theorem dX0_note_18 : decode cX0_note 18 = .ok (.invokevirtual 25, 3) := by decide +kernel
theorem dX0_note_21 : decode cX0_note 21 = .ok (.return_, 1) := by decide +kernel
theorem dX0_keep_0 : decode cX0_keep 0 = .ok (.aload_n 0, 1) := by decide +kernel
theorem dX0_keep_1 : decode cX0_keep 1 = .ok (.getfield 22, 3) := by decide +kernel
theorem dX0_keep_4 : decode cX0_keep 4 = .ok (.bipush 6, 2) := by decide +kernel
theorem dX0_keep_6 : decode cX0_keep 6 = .ok (.if_icmp .ge 16, 3) := by decide +kernel
theorem dX0_keep_9 : decode cX0_keep 9 = .ok (.aload_n 0, 1) := by decide +kernel
theorem dX0_keep_10 : decode cX0_keep 10 = .ok (.dup, 1) := by decide +kernel
theorem dX0_keep_11 : decode cX0_keep 11 = .ok (.getfield 22, 3) := by decide +kernel
theorem dX0_keep_14 : decode cX0_keep 14 = .ok (.iconst 1, 1) := by decide +kernel
theorem dX0_keep_15 : decode cX0_keep 15 = .ok (.iadd, 1) := by decide +kernel
theorem dX0_keep_16 : decode cX0_keep 16 = .ok (.putfield 22, 3) := by decide +kernel
theorem dX0_keep_19 : decode cX0_keep 19 = .ok (.goto 16, 3) := by decide +kernel
theorem dX0_keep_22 : decode cX0_keep 22 = .ok (.aload_n 0, 1) := by decide +kernel
theorem dX0_keep_23 : decode cX0_keep 23 = .ok (.aload_n 0, 1) := by decide +kernel
theorem dX0_keep_24 : decode cX0_keep 24 = .ok (.getfield 18, 3) := by decide +kernel
theorem dX0_keep_27 : decode cX0_keep 27 = .ok (.iconst 1, 1) := by decide +kernel
theorem dX0_keep_28 : decode cX0_keep 28 = .ok (.iadd, 1) := by decide +kernel
theorem dX0_keep_29 : decode cX0_keep 29 = .ok (.bipush 7, 2) := by decide +kernel
theorem dX0_keep_31 : decode cX0_keep 31 = .ok (.irem, 1) := by decide +kernel
theorem dX0_keep_32 : decode cX0_keep 32 = .ok (.putfield 18, 3) := by decide +kernel
theorem dX0_keep_35 : decode cX0_keep 35 = .ok (.return_, 1) := by decide +kernel
set_option maxRecDepth 20000 in
theorem ggX0_takeBack_X3_copyFrom : GoodIn wsX0_takeBack wsX3_copyFrom := goodIn_r _ [8, 9, 10, 11, 12, 13, 14, 15, 16, 17, 18, 22, 23, 24, 25, 26, 27] (by decide +kernel) (by decide +kernel)
set_option maxRecDepth 20000 in
theorem gX0_takeBack_X3_copyFrom : GoodIn wsX0_takeBack (wsV RX0 25 RX3 yX3_copyFrom wsX3_copyFrom) := goodIn_app (goodIn_of _ (by decide +kernel)) ggX0_takeBack_X3_copyFrom
theorem dX0_takeBack_0 : decode cX0_takeBack 0 = .ok (.aload_n 0, 1) := by decide +kernel
theorem dX0_takeBack_1 : decode cX0_takeBack 1 = .ok (.getfield 22, 3) := by decide +kernel
theorem dX0_takeBack_4 : decode cX0_takeBack 4 = .ok (.ifCond .le 34, 3) := by decide +kernel
theorem dX0_takeBack_7 : decode cX0_takeBack 7 = .ok (.aload_n 0, 1) := by decide +kernel
theorem dX0_takeBack_8 : decode cX0_takeBack 8 = .ok (.dup, 1) := by decide +kernel
theorem dX0_takeBack_9 : decode cX0_takeBack 9 = .ok (.getfield 22, 3) := by decide +kernel
theorem dX0_takeBack_12 : decode cX0_takeBack 12 = .ok (.iconst 1, 1) := by decide +kernel
theorem dX0_takeBack_13 : decode cX0_takeBack 13 = .ok (.isub, 1) := by decide +kernel
theorem dX0_takeBack_14 : decode cX0_takeBack 14 = .ok (.putfield 22, 3) := by decide +kernel
theorem dX0_takeBack_17 : decode cX0_takeBack 17 = .ok (.aload_n 1, 1) := by decide +kernel
theorem dX0_takeBack_18 : decode cX0_takeBack 18 = .ok (.aload_n 0, 1) := by decide +kernel
theorem dX0_takeBack_19 : decode cX0_takeBack 19 = .ok (.getfield 13, 3) := by decide +kernel
theorem dX0_takeBack_22 : decode cX0_takeBack 22 = .ok (.aload_n 0, 1) := by decide +kernel
theorem dX0_takeBack_23 : decode cX0_takeBack 23 = .ok (.getfield 18, 3) := by decide +kernel
theorem dX0_takeBack_26 : decode cX0_takeBack 26 = .ok (.aload_n 0, 1) := by decide +kernel
theorem dX0_takeBack_27 : decode cX0_takeBack 27 = .ok (.getfield 22, 3) := by decide +kernel
theorem dX0_takeBack_30 : decode cX0_takeBack 30 = .ok (.iadd, 1) := by decide +kernel
theorem dX0_takeBack_31 : decode cX0_takeBack 31 = .ok (.bipush 7, 2) := by decide +kernel
theorem dX0_takeBack_33 : decode cX0_takeBack 33 = .ok (.irem, 1) := by decide +kernel
theorem dX0_takeBack_34 : decode cX0_takeBack 34 = .ok (.aaload, 1) := by decide +kernel
theorem dX0_takeBack_35 : decode cX0_takeBack 35 = .ok (.invokevirtual 25, 3) := by decide +kernel
theorem dX0_takeBack_38 : decode cX0_takeBack 38 = .ok (.return_, 1) := by decide +kernel
theorem dX1_init_0 : decode cX1_init 0 = .ok (.aload_n 0, 1) := by decide +kernel
theorem dX1_init_1 : decode cX1_init 1 = .ok (.invokespecial 3, 3) := by decide +kernel
theorem dX1_init_4 : decode cX1_init 4 = .ok (.aload_n 0, 1) := by decide +kernel
theorem dX1_init_5 : decode cX1_init 5 = .ok (.bipush 80, 2) := by decide +kernel
theorem dX1_init_7 : decode cX1_init 7 = .ok (.newarray .char, 2) := by decide +kernel
theorem dX1_init_9 : decode cX1_init 9 = .ok (.putfield 9, 3) := by decide +kernel
theorem dX1_init_12 : decode cX1_init 12 = .ok (.aload_n 0, 1) := by decide +kernel
theorem dX1_init_13 : decode cX1_init 13 = .ok (.bipush 6, 2) := by decide +kernel
theorem dX1_init_15 : decode cX1_init 15 = .ok (.newarray .int, 2) := by decide +kernel
theorem dX1_init_17 : decode cX1_init 17 = .ok (.putfield 15, 3) := by decide +kernel
theorem dX1_init_20 : decode cX1_init 20 = .ok (.return_, 1) := by decide +kernel
set_option maxRecDepth 20000 in
theorem ggX1_append_X4_within : GoodIn wsX1_append wsX4_within := goodIn_r _ [6] (by decide +kernel) (by decide +kernel)
set_option maxRecDepth 20000 in
theorem gX1_append_X4_within_n21 : GoodIn wsX1_append (wsX4_within) := ggX1_append_X4_within
theorem dX1_append_0 : decode cX1_append 0 = .ok (.iconst 0, 1) := by decide +kernel
theorem dX1_append_1 : decode cX1_append 1 = .ok (.istore_n 3, 1) := by decide +kernel
theorem dX1_append_2 : decode cX1_append 2 = .ok (.lload_n 1, 1) := by decide +kernel
theorem dX1_append_3 : decode cX1_append 3 = .ok (.lstore 4, 2) := by decide +kernel
theorem dX1_append_5 : decode cX1_append 5 = .ok (.lload 4, 2) := by decide +kernel
theorem dX1_append_7 : decode cX1_append 7 = .ok (.lconst 0, 1) := by decide +kernel
theorem dX1_append_8 : decode cX1_append 8 = .ok (.lcmp, 1) := by decide +kernel
theorem dX1_append_9 : decode cX1_append 9 = .ok (.ifCond .eq 42, 3) := by decide +kernel
theorem dX1_append_12 : decode cX1_append 12 = .ok (.iload_n 3, 1) := by decide +kernel
theorem dX1_append_13 : decode cX1_append 13 = .ok (.bipush 8, 2) := by decide +kernel
theorem dX1_append_15 : decode cX1_append 15 = .ok (.if_icmp .ge 36, 3) := by decide +kernel
theorem dX1_append_18 : decode cX1_append 18 = .ok (.lload 4, 2) := by decide +kernel
theorem dX1_append_20 : decode cX1_append 20 = .ok (.ldc2_w 19, 3) := by decide +kernel
theorem dX1_append_23 : decode cX1_append 23 = .ok (.land, 1) := by decide +kernel
theorem dX1_append_24 : decode cX1_append 24 = .ok (.l2i, 1) := by decide +kernel
theorem dX1_append_25 : decode cX1_append 25 = .ok (.bipush 33, 2) := by decide +kernel
theorem dX1_append_27 : decode cX1_append 27 = .ok (.bipush 126, 2) := by decide +kernel
theorem dX1_append_29 : decode cX1_append 29 = .ok (.invokestatic 21, 3) := by decide +kernel
theorem dX1_append_32 : decode cX1_append 32 = .ok (.ifCond .ne 6, 3) := by decide +kernel
theorem dX1_append_35 : decode cX1_append 35 = .ok (.bipush (-2), 2) := by decide +kernel
theorem dX1_append_37 : decode cX1_append 37 = .ok (.ireturn, 1) := by decide +kernel
theorem dX1_append_38 : decode cX1_append 38 = .ok (.iinc 3 1, 3) := by decide +kernel
theorem dX1_append_41 : decode cX1_append 41 = .ok (.lload 4, 2) := by decide +kernel
theorem dX1_append_43 : decode cX1_append 43 = .ok (.bipush 8, 2) := by decide +kernel
theorem dX1_append_45 : decode cX1_append 45 = .ok (.lushr, 1) := by decide +kernel
theorem dX1_append_46 : decode cX1_append 46 = .ok (.lstore 4, 2) := by decide +kernel
theorem dX1_append_48 : decode cX1_append 48 = .ok (.goto (-43), 3) := by decide +kernel
theorem dX1_append_51 : decode cX1_append 51 = .ok (.iload_n 3, 1) := by decide +kernel
theorem dX1_append_52 : decode cX1_append 52 = .ok (.ifCond .ne 6, 3) := by decide +kernel
theorem dX1_append_55 : decode cX1_append 55 = .ok (.bipush (-2), 2) := by decide +kernel
theorem dX1_append_57 : decode cX1_append 57 = .ok (.ireturn, 1) := by decide +kernel
theorem dX1_append_58 : decode cX1_append 58 = .ok (.aload_n 0, 1) := by decide +kernel
theorem dX1_append_59 : decode cX1_append 59 = .ok (.getfield 25, 3) := by decide +kernel
theorem dX1_append_62 : decode cX1_append 62 = .ok (.iload_n 3, 1) := by decide +kernel
theorem dX1_append_63 : decode cX1_append 63 = .ok (.iadd, 1) := by decide +kernel
theorem dX1_append_64 : decode cX1_append 64 = .ok (.bipush 80, 2) := by decide +kernel
theorem dX1_append_66 : decode cX1_append 66 = .ok (.if_icmp .le 6, 3) := by decide +kernel
theorem dX1_append_69 : decode cX1_append 69 = .ok (.bipush (-4), 2) := by decide +kernel
theorem dX1_append_71 : decode cX1_append 71 = .ok (.ireturn, 1) := by decide +kernel
theorem dX1_append_72 : decode cX1_append 72 = .ok (.iconst 0, 1) := by decide +kernel
theorem dX1_append_73 : decode cX1_append 73 = .ok (.istore 4, 2) := by decide +kernel
theorem dX1_append_75 : decode cX1_append 75 = .ok (.iload 4, 2) := by decide +kernel
theorem dX1_append_77 : decode cX1_append 77 = .ok (.iload_n 3, 1) := by decide +kernel
theorem dX1_append_78 : decode cX1_append 78 = .ok (.if_icmp .ge 38, 3) := by decide +kernel
theorem dX1_append_81 : decode cX1_append 81 = .ok (.aload_n 0, 1) := by decide +kernel
theorem dX1_append_82 : decode cX1_append 82 = .ok (.getfield 9, 3) := by decide +kernel
theorem dX1_append_85 : decode cX1_append 85 = .ok (.aload_n 0, 1) := by decide +kernel
theorem dX1_append_86 : decode cX1_append 86 = .ok (.getfield 25, 3) := by decide +kernel
theorem dX1_append_89 : decode cX1_append 89 = .ok (.iload_n 3, 1) := by decide +kernel
theorem dX1_append_90 : decode cX1_append 90 = .ok (.iadd, 1) := by decide +kernel
theorem dX1_append_91 : decode cX1_append 91 = .ok (.iconst 1, 1) := by decide +kernel
theorem dX1_append_92 : decode cX1_append 92 = .ok (.isub, 1) := by decide +kernel
theorem dX1_append_93 : decode cX1_append 93 = .ok (.iload 4, 2) := by decide +kernel
theorem dX1_append_95 : decode cX1_append 95 = .ok (.isub, 1) := by decide +kernel
theorem dX1_append_96 : decode cX1_append 96 = .ok (.lload_n 1, 1) := by decide +kernel
theorem dX1_append_97 : decode cX1_append 97 = .ok (.bipush 8, 2) := by decide +kernel
theorem dX1_append_99 : decode cX1_append 99 = .ok (.iload 4, 2) := by decide +kernel
theorem dX1_append_101 : decode cX1_append 101 = .ok (.imul, 1) := by decide +kernel
theorem dX1_append_102 : decode cX1_append 102 = .ok (.lushr, 1) := by decide +kernel
theorem dX1_append_103 : decode cX1_append 103 = .ok (.ldc2_w 19, 3) := by decide +kernel
theorem dX1_append_106 : decode cX1_append 106 = .ok (.land, 1) := by decide +kernel
theorem dX1_append_107 : decode cX1_append 107 = .ok (.l2i, 1) := by decide +kernel
theorem dX1_append_108 : decode cX1_append 108 = .ok (.i2c, 1) := by decide +kernel
theorem dX1_append_109 : decode cX1_append 109 = .ok (.castore, 1) := by decide +kernel
theorem dX1_append_110 : decode cX1_append 110 = .ok (.iinc 4 1, 3) := by decide +kernel
theorem dX1_append_113 : decode cX1_append 113 = .ok (.goto (-38), 3) := by decide +kernel
theorem dX1_append_116 : decode cX1_append 116 = .ok (.aload_n 0, 1) := by decide +kernel
theorem dX1_append_117 : decode cX1_append 117 = .ok (.dup, 1) := by decide +kernel
theorem dX1_append_118 : decode cX1_append 118 = .ok (.getfield 25, 3) := by decide +kernel
theorem dX1_append_121 : decode cX1_append 121 = .ok (.iload_n 3, 1) := by decide +kernel
theorem dX1_append_122 : decode cX1_append 122 = .ok (.iadd, 1) := by decide +kernel
theorem dX1_append_123 : decode cX1_append 123 = .ok (.putfield 25, 3) := by decide +kernel
theorem dX1_append_126 : decode cX1_append 126 = .ok (.aload_n 0, 1) := by decide +kernel
theorem dX1_append_127 : decode cX1_append 127 = .ok (.getfield 25, 3) := by decide +kernel
theorem dX1_append_130 : decode cX1_append 130 = .ok (.ireturn, 1) := by decide +kernel
theorem dX1_start_0 : decode cX1_start 0 = .ok (.aload_n 0, 1) := by decide +kernel
theorem dX1_start_1 : decode cX1_start 1 = .ok (.iconst 0, 1) := by decide +kernel
theorem dX1_start_2 : decode cX1_start 2 = .ok (.putfield 29, 3) := by decide +kernel
theorem dX1_start_5 : decode cX1_start 5 = .ok (.return_, 1) := by decide +kernel
theorem dX1_hasMore_0 : decode cX1_hasMore 0 = .ok (.aload_n 0, 1) := by decide +kernel
theorem dX1_hasMore_1 : decode cX1_hasMore 1 = .ok (.getfield 29, 3) := by decide +kernel
theorem dX1_hasMore_4 : decode cX1_hasMore 4 = .ok (.aload_n 0, 1) := by decide +kernel
theorem dX1_hasMore_5 : decode cX1_hasMore 5 = .ok (.getfield 25, 3) := by decide +kernel
theorem dX1_hasMore_8 : decode cX1_hasMore 8 = .ok (.if_icmp .ge 7, 3) := by decide +kernel
theorem dX1_hasMore_11 : decode cX1_hasMore 11 = .ok (.iconst 1, 1) := by decide +kernel
theorem dX1_hasMore_12 : decode cX1_hasMore 12 = .ok (.goto 4, 3) := by decide +kernel
theorem dX1_hasMore_15 : decode cX1_hasMore 15 = .ok (.iconst 0, 1) := by decide +kernel
theorem dX1_hasMore_16 : decode cX1_hasMore 16 = .ok (.ireturn, 1) := by decide +kernel
set_option maxRecDepth 20000 in
theorem ggX1_firstFault_X1_start : GoodIn wsX1_firstFault wsX1_start := goodIn_r _ [6, 1, 111, 112, 113, 114, 115, 116] (by decide +kernel) (by decide +kernel)
set_option maxRecDepth 20000 in
theorem gX1_firstFault_X1_start : GoodIn wsX1_firstFault (wsV RX1 32 RX1 yX1_start wsX1_start) := goodIn_app (goodIn_of _ (by decide +kernel)) ggX1_firstFault_X1_start
set_option maxRecDepth 20000 in
theorem ggX1_firstFault_X1_readOrder : GoodIn wsX1_firstFault wsX1_readOrder := goodIn_r _ [10, 1, 11, 12, 13, 14, 15, 5, 16, 17, 18, 19, 20, 21, 22, 23, 24, 25, 26, 27, 28, 29, 30, 31, 32, 33, 34, 35, 36, 37, 38, 39, 40, 41, 42, 43, 44, 45, 46, 47, 48, 49, 50, 51, 52, 53, 54, 55, 56, 57, 58, 59, 60, 61, 62, 63, 64, 65, 66, 67, 68, 69, 70, 71, 72, 73, 74, 75, 76, 77, 78, 79, 80, 81, 82, 83, 84, 85, 86, 87, 88, 89, 90, 91, 92, 93, 94, 95, 96, 97, 98, 99, 100, 101, 102, 103, 104, 105, 106, 111, 112, 113, 114, 115, 116] (by decide +kernel) (by decide +kernel)
set_option maxRecDepth 20000 in
theorem gX1_firstFault_X1_readOrder : GoodIn wsX1_firstFault (wsV RX1 35 RX1 yX1_readOrder wsX1_readOrder) := goodIn_app (goodIn_of _ (by decide +kernel)) ggX1_firstFault_X1_readOrder
set_option maxRecDepth 20000 in
theorem ggX1_firstFault_X1_hasMore : GoodIn wsX1_firstFault wsX1_hasMore := goodIn_r _ [110, 1, 21, 111, 112, 113, 114, 115, 116] (by decide +kernel) (by decide +kernel)
set_option maxRecDepth 20000 in
theorem gX1_firstFault_X1_hasMore : GoodIn wsX1_firstFault (wsV RX1 39 RX1 yX1_hasMore wsX1_hasMore) := goodIn_app (goodIn_of _ (by decide +kernel)) ggX1_firstFault_X1_hasMore
theorem dX1_firstFault_0 : decode cX1_firstFault 0 = .ok (.aload_n 0, 1) := by decide +kernel
theorem dX1_firstFault_1 : decode cX1_firstFault 1 = .ok (.invokevirtual 32, 3) := by decide +kernel
theorem dX1_firstFault_4 : decode cX1_firstFault 4 = .ok (.aload_n 0, 1) := by decide +kernel
theorem dX1_firstFault_5 : decode cX1_firstFault 5 = .ok (.invokevirtual 35, 3) := by decide +kernel
theorem dX1_firstFault_8 : decode cX1_firstFault 8 = .ok (.istore_n 1, 1) := by decide +kernel
theorem dX1_firstFault_9 : decode cX1_firstFault 9 = .ok (.iconst 1, 1) := by decide +kernel
theorem dX1_firstFault_10 : decode cX1_firstFault 10 = .ok (.istore_n 2, 1) := by decide +kernel
theorem dX1_firstFault_11 : decode cX1_firstFault 11 = .ok (.iload_n 1, 1) := by decide +kernel
theorem dX1_firstFault_12 : decode cX1_firstFault 12 = .ok (.ifCond .eq 27, 3) := by decide +kernel
theorem dX1_firstFault_15 : decode cX1_firstFault 15 = .ok (.aload_n 0, 1) := by decide +kernel
theorem dX1_firstFault_16 : decode cX1_firstFault 16 = .ok (.invokevirtual 39, 3) := by decide +kernel
theorem dX1_firstFault_19 : decode cX1_firstFault 19 = .ok (.ifCond .eq 20, 3) := by decide +kernel
theorem dX1_firstFault_22 : decode cX1_firstFault 22 = .ok (.iload_n 2, 1) := by decide +kernel
theorem dX1_firstFault_23 : decode cX1_firstFault 23 = .ok (.bipush 80, 2) := by decide +kernel
theorem dX1_firstFault_25 : decode cX1_firstFault 25 = .ok (.if_icmp .ge 14, 3) := by decide +kernel
theorem dX1_firstFault_28 : decode cX1_firstFault 28 = .ok (.aload_n 0, 1) := by decide +kernel
theorem dX1_firstFault_29 : decode cX1_firstFault 29 = .ok (.invokevirtual 35, 3) := by decide +kernel
theorem dX1_firstFault_32 : decode cX1_firstFault 32 = .ok (.istore_n 1, 1) := by decide +kernel
theorem dX1_firstFault_33 : decode cX1_firstFault 33 = .ok (.iinc 2 1, 3) := by decide +kernel
theorem dX1_firstFault_36 : decode cX1_firstFault 36 = .ok (.goto (-25), 3) := by decide +kernel
theorem dX1_firstFault_39 : decode cX1_firstFault 39 = .ok (.iload_n 1, 1) := by decide +kernel
theorem dX1_firstFault_40 : decode cX1_firstFault 40 = .ok (.ifCond .eq 8, 3) := by decide +kernel
theorem dX1_firstFault_43 : decode cX1_firstFault 43 = .ok (.bipush (-6), 2) := by decide +kernel
theorem dX1_firstFault_45 : decode cX1_firstFault 45 = .ok (.goto 7, 3) := by decide +kernel
theorem dX1_firstFault_48 : decode cX1_firstFault 48 = .ok (.aload_n 0, 1) := by decide +kernel
theorem dX1_firstFault_49 : decode cX1_firstFault 49 = .ok (.getfield 29, 3) := by decide +kernel
theorem dX1_firstFault_52 : decode cX1_firstFault 52 = .ok (.ireturn, 1) := by decide +kernel
set_option maxRecDepth 20000 in
theorem ggX1_readOrder_X1_readSign : GoodIn wsX1_readOrder wsX1_readSign := goodIn_r _ [8, 1, 9, 10, 11, 7, 12, 13, 14, 99, 100, 101, 102, 103, 104] (by decide +kernel) (by decide +kernel)
set_option maxRecDepth 20000 in
theorem gX1_readOrder_X1_readSign : GoodIn wsX1_readOrder (wsV RX1 42 RX1 yX1_readSign wsX1_readSign) := goodIn_app (goodIn_of _ (by decide +kernel)) ggX1_readOrder_X1_readSign
set_option maxRecDepth 20000 in
theorem ggX1_readOrder_X1_nextSign : GoodIn wsX1_readOrder wsX1_nextSign := goodIn_r _ [12, 1, 13, 14, 99, 100, 101, 102, 103, 104] (by decide +kernel) (by decide +kernel)
set_option maxRecDepth 20000 in
theorem gX1_readOrder_X1_nextSign : GoodIn wsX1_readOrder (wsV RX1 46 RX1 yX1_nextSign wsX1_nextSign) := goodIn_app (goodIn_of _ (by decide +kernel)) ggX1_readOrder_X1_nextSign
set_option maxRecDepth 20000 in
theorem ggX1_readOrder_X1_formOf : GoodIn wsX1_readOrder wsX1_formOf := goodIn_r _ [17] (by decide +kernel) (by decide +kernel)
set_option maxRecDepth 20000 in
theorem gX1_readOrder_X1_formOf : GoodIn wsX1_readOrder (va_wsS RX1 54 yX1_formOf wsX1_formOf) := goodIn_app (goodIn_of _ (by decide +kernel)) ggX1_readOrder_X1_formOf
set_option maxRecDepth 20000 in
theorem ggX1_readOrder_J0_isEmpty_aae02 : GoodIn wsX1_readOrder wsJ0_isEmpty_aae02 := goodIn_r _ [22, 23] (by decide +kernel) (by decide +kernel)
set_option maxRecDepth 20000 in
theorem gX1_readOrder_J0_isEmpty_aae02 : GoodIn wsX1_readOrder (wsV RX1 58 RJ0 yJ0_isEmpty_aae02 wsJ0_isEmpty_aae02) := goodIn_app (goodIn_of _ (by decide +kernel)) ggX1_readOrder_J0_isEmpty_aae02
set_option maxRecDepth 20000 in
theorem ggX1_readOrder_J0_length_8abf5 : GoodIn wsX1_readOrder wsJ0_length_8abf5 := goodIn_r _ [27, 23, 28, 29, 30, 21, 31, 32, 33] (by decide +kernel) (by decide +kernel)
set_option maxRecDepth 20000 in
theorem gX1_readOrder_J0_length_8abf5 : GoodIn wsX1_readOrder (wsV RX1 66 RJ0 yJ0_length_8abf5 wsJ0_length_8abf5) := goodIn_app (goodIn_of _ (by decide +kernel)) ggX1_readOrder_J0_length_8abf5
set_option maxRecDepth 20000 in
theorem ggX1_readOrder_J0_charAt_5068e : GoodIn wsX1_readOrder wsJ0_charAt_5068e := goodIn_r _ [37, 23, 38, 39, 40, 21, 41, 32, 33, 42, 43, 44, 45, 46, 47, 48, 49, 50, 51, 52, 53, 54, 55, 56, 57, 58, 59, 60, 61, 62, 63, 64, 65, 66, 67, 68, 69, 70] (by decide +kernel) (by decide +kernel)
set_option maxRecDepth 20000 in
theorem gX1_readOrder_J0_charAt_5068e : GoodIn wsX1_readOrder (wsV RX1 69 RJ0 yJ0_charAt_5068e wsJ0_charAt_5068e) := goodIn_app (goodIn_of _ (by decide +kernel)) ggX1_readOrder_J0_charAt_5068e
set_option maxRecDepth 20000 in
theorem ggX1_readOrder_X1_readPiece : GoodIn wsX1_readOrder wsX1_readPiece := goodIn_r _ [74, 75, 76, 77, 7, 78, 1, 79, 80, 81, 82, 9, 10, 11, 12, 13, 14, 83, 84, 85, 86, 87, 88, 89, 3, 90, 91, 92, 93, 94, 95, 96, 97, 98, 4, 5, 6, 8, 99, 100, 101, 102, 103, 104] (by decide +kernel) (by decide +kernel)
set_option maxRecDepth 20000 in
theorem gX1_readOrder_X1_readPiece : GoodIn wsX1_readOrder (wsV RX1 73 RX1 yX1_readPiece wsX1_readPiece) := goodIn_app (goodIn_of _ (by decide +kernel)) ggX1_readOrder_X1_readPiece
theorem dX1_readOrder_0 : decode cX1_readOrder 0 = .ok (.aload_n 0, 1) := by decide +kernel
theorem dX1_readOrder_1 : decode cX1_readOrder 1 = .ok (.getfield 29, 3) := by decide +kernel
theorem dX1_readOrder_4 : decode cX1_readOrder 4 = .ok (.ifCond .le 14, 3) := by decide +kernel
theorem dX1_readOrder_7 : decode cX1_readOrder 7 = .ok (.aload_n 0, 1) := by decide +kernel
theorem dX1_readOrder_8 : decode cX1_readOrder 8 = .ok (.bipush 59, 2) := by decide +kernel
theorem dX1_readOrder_10 : decode cX1_readOrder 10 = .ok (.invokevirtual 42, 3) := by decide +kernel
theorem dX1_readOrder_13 : decode cX1_readOrder 13 = .ok (.ifCond .ne 5, 3) := by decide +kernel
theorem dX1_readOrder_16 : decode cX1_readOrder 16 = .ok (.iconst 0, 1) := by decide +kernel
theorem dX1_readOrder_17 : decode cX1_readOrder 17 = .ok (.ireturn, 1) := by decide +kernel
theorem dX1_readOrder_18 : decode cX1_readOrder 18 = .ok (.aload_n 0, 1) := by decide +kernel
theorem dX1_readOrder_19 : decode cX1_readOrder 19 = .ok (.aload_n 0, 1) := by decide +kernel
theorem dX1_readOrder_20 : decode cX1_readOrder 20 = .ok (.invokevirtual 46, 3) := by decide +kernel
theorem dX1_readOrder_23 : decode cX1_readOrder 23 = .ok (.putfield 50, 3) := by decide +kernel
theorem dX1_readOrder_26 : decode cX1_readOrder 26 = .ok (.aload_n 0, 1) := by decide +kernel
theorem dX1_readOrder_27 : decode cX1_readOrder 27 = .ok (.getfield 50, 3) := by decide +kernel
theorem dX1_readOrder_30 : decode cX1_readOrder 30 = .ok (.invokestatic 54, 3) := by decide +kernel
theorem dX1_readOrder_33 : decode cX1_readOrder 33 = .ok (.astore_n 1, 1) := by decide +kernel
theorem dX1_readOrder_34 : decode cX1_readOrder 34 = .ok (.aload_n 1, 1) := by decide +kernel
theorem dX1_readOrder_35 : decode cX1_readOrder 35 = .ok (.invokevirtual 58, 3) := by decide +kernel
theorem dX1_readOrder_38 : decode cX1_readOrder 38 = .ok (.ifCond .ne 18, 3) := by decide +kernel
theorem dX1_readOrder_41 : decode cX1_readOrder 41 = .ok (.aload_n 0, 1) := by decide +kernel
theorem dX1_readOrder_42 : decode cX1_readOrder 42 = .ok (.aload_n 0, 1) := by decide +kernel
theorem dX1_readOrder_43 : decode cX1_readOrder 43 = .ok (.getfield 50, 3) := by decide +kernel
theorem dX1_readOrder_46 : decode cX1_readOrder 46 = .ok (.invokevirtual 42, 3) := by decide +kernel
theorem dX1_readOrder_49 : decode cX1_readOrder 49 = .ok (.ifCond .eq 7, 3) := by decide +kernel
theorem dX1_readOrder_52 : decode cX1_readOrder 52 = .ok (.iconst 1, 1) := by decide +kernel
theorem dX1_readOrder_53 : decode cX1_readOrder 53 = .ok (.goto 4, 3) := by decide +kernel
theorem dX1_readOrder_56 : decode cX1_readOrder 56 = .ok (.iconst 0, 1) := by decide +kernel
theorem dX1_readOrder_57 : decode cX1_readOrder 57 = .ok (.istore_n 2, 1) := by decide +kernel
theorem dX1_readOrder_58 : decode cX1_readOrder 58 = .ok (.aload_n 0, 1) := by decide +kernel
theorem dX1_readOrder_59 : decode cX1_readOrder 59 = .ok (.iconst 0, 1) := by decide +kernel
theorem dX1_readOrder_60 : decode cX1_readOrder 60 = .ok (.putfield 63, 3) := by decide +kernel
theorem dX1_readOrder_63 : decode cX1_readOrder 63 = .ok (.iconst 0, 1) := by decide +kernel
theorem dX1_readOrder_64 : decode cX1_readOrder 64 = .ok (.istore_n 3, 1) := by decide +kernel
theorem dX1_readOrder_65 : decode cX1_readOrder 65 = .ok (.iload_n 2, 1) := by decide +kernel
theorem dX1_readOrder_66 : decode cX1_readOrder 66 = .ok (.ifCond .eq 27, 3) := by decide +kernel
theorem dX1_readOrder_69 : decode cX1_readOrder 69 = .ok (.iload_n 3, 1) := by decide +kernel
theorem dX1_readOrder_70 : decode cX1_readOrder 70 = .ok (.aload_n 1, 1) := by decide +kernel
theorem dX1_readOrder_71 : decode cX1_readOrder 71 = .ok (.invokevirtual 66, 3) := by decide +kernel
theorem dX1_readOrder_74 : decode cX1_readOrder 74 = .ok (.if_icmp .ge 19, 3) := by decide +kernel
theorem dX1_readOrder_77 : decode cX1_readOrder 77 = .ok (.aload_n 0, 1) := by decide +kernel
theorem dX1_readOrder_78 : decode cX1_readOrder 78 = .ok (.aload_n 1, 1) := by decide +kernel
theorem dX1_readOrder_79 : decode cX1_readOrder 79 = .ok (.iload_n 3, 1) := by decide +kernel
theorem dX1_readOrder_80 : decode cX1_readOrder 80 = .ok (.invokevirtual 69, 3) := by decide +kernel
theorem dX1_readOrder_83 : decode cX1_readOrder 83 = .ok (.invokevirtual 73, 3) := by decide +kernel
theorem dX1_readOrder_86 : decode cX1_readOrder 86 = .ok (.istore_n 2, 1) := by decide +kernel
theorem dX1_readOrder_87 : decode cX1_readOrder 87 = .ok (.iinc 3 1, 3) := by decide +kernel
theorem dX1_readOrder_90 : decode cX1_readOrder 90 = .ok (.goto (-25), 3) := by decide +kernel
theorem dX1_readOrder_93 : decode cX1_readOrder 93 = .ok (.iload_n 2, 1) := by decide +kernel
theorem dX1_readOrder_94 : decode cX1_readOrder 94 = .ok (.ireturn, 1) := by decide +kernel
theorem dX1_formOf_0 : decode cX1_formOf 0 = .ok (.iload_n 0, 1) := by decide +kernel
theorem dX1_formOf_1 : decode cX1_formOf 1 = .ok (.lookupswitch 55 #[(108, 49), (118, 43), (119, 46), (120, 52)], 43) := by decide +kernel
theorem dX1_formOf_44 : decode cX1_formOf 44 = .ok (.ldc 76, 2) := by decide +kernel
theorem dX1_formOf_46 : decode cX1_formOf 46 = .ok (.areturn, 1) := by decide +kernel
theorem dX1_formOf_47 : decode cX1_formOf 47 = .ok (.ldc 78, 2) := by decide +kernel
theorem dX1_formOf_49 : decode cX1_formOf 49 = .ok (.areturn, 1) := by decide +kernel
theorem dX1_formOf_50 : decode cX1_formOf 50 = .ok (.ldc 80, 2) := by decide +kernel
theorem dX1_formOf_52 : decode cX1_formOf 52 = .ok (.areturn, 1) := by decide +kernel
theorem dX1_formOf_53 : decode cX1_formOf 53 = .ok (.ldc 82, 2) := by decide +kernel
theorem dX1_formOf_55 : decode cX1_formOf 55 = .ok (.areturn, 1) := by decide +kernel
theorem dX1_formOf_56 : decode cX1_formOf 56 = .ok (.ldc 84, 2) := by decide +kernel
theorem dX1_formOf_58 : decode cX1_formOf 58 = .ok (.areturn, 1) := by decide +kernel
set_option maxRecDepth 20000 in
theorem ggX1_readPiece_X1_readNumber : GoodIn wsX1_readPiece wsX1_readNumber := goodIn_r _ [5, 6, 7, 8, 9, 4, 10, 11, 12, 13, 14, 15, 16, 17, 18, 19, 20, 21, 22, 23, 24, 25, 38, 39, 40, 41, 42, 43] (by decide +kernel) (by decide +kernel)
set_option maxRecDepth 20000 in
theorem gX1_readPiece_X1_readNumber : GoodIn wsX1_readPiece (wsV RX1 86 RX1 yX1_readNumber wsX1_readNumber) := goodIn_app (goodIn_of _ (by decide +kernel)) ggX1_readPiece_X1_readNumber
set_option maxRecDepth 20000 in
theorem ggX1_readPiece_X1_readDigit : GoodIn wsX1_readPiece wsX1_readDigit := goodIn_r _ [29, 6, 7, 8, 9, 4, 10, 11, 12, 13, 14, 15, 16, 17, 18, 19, 20, 21, 22, 23, 24, 25, 38, 39, 40, 41, 42, 43] (by decide +kernel) (by decide +kernel)
set_option maxRecDepth 20000 in
theorem gX1_readPiece_X1_readDigit : GoodIn wsX1_readPiece (wsV RX1 89 RX1 yX1_readDigit wsX1_readDigit) := goodIn_app (goodIn_of _ (by decide +kernel)) ggX1_readPiece_X1_readDigit
set_option maxRecDepth 20000 in
theorem ggX1_readPiece_X1_readSkills : GoodIn wsX1_readPiece wsX1_readSkills := goodIn_r _ [33, 6, 7, 8, 9, 4, 10, 11, 12, 13, 14, 15, 16, 17, 18, 19, 20, 21, 22, 23, 24, 25, 38, 39, 40, 41, 42, 43] (by decide +kernel) (by decide +kernel)
set_option maxRecDepth 20000 in
theorem gX1_readPiece_X1_readSkills : GoodIn wsX1_readPiece (wsV RX1 92 RX1 yX1_readSkills wsX1_readSkills) := goodIn_app (goodIn_of _ (by decide +kernel)) ggX1_readPiece_X1_readSkills
set_option maxRecDepth 20000 in
theorem ggX1_readPiece_X1_readSign : GoodIn wsX1_readPiece wsX1_readSign := goodIn_r _ [37, 6, 11, 12, 13, 4, 14, 15, 16, 38, 39, 40, 41, 42, 43] (by decide +kernel) (by decide +kernel)
set_option maxRecDepth 20000 in
theorem gX1_readPiece_X1_readSign : GoodIn wsX1_readPiece (wsV RX1 42 RX1 yX1_readSign wsX1_readSign) := goodIn_app (goodIn_of _ (by decide +kernel)) ggX1_readPiece_X1_readSign
theorem dX1_readPiece_0 : decode cX1_readPiece 0 = .ok (.iload_n 1, 1) := by decide +kernel
theorem dX1_readPiece_1 : decode cX1_readPiece 1 = .ok (.lookupswitch 50 #[(100, 40), (110, 35), (115, 45)], 35) := by decide +kernel
theorem dX1_readPiece_36 : decode cX1_readPiece 36 = .ok (.aload_n 0, 1) := by decide +kernel
theorem dX1_readPiece_37 : decode cX1_readPiece 37 = .ok (.invokevirtual 86, 3) := by decide +kernel
theorem dX1_readPiece_40 : decode cX1_readPiece 40 = .ok (.ireturn, 1) := by decide +kernel
theorem dX1_readPiece_41 : decode cX1_readPiece 41 = .ok (.aload_n 0, 1) := by decide +kernel
theorem dX1_readPiece_42 : decode cX1_readPiece 42 = .ok (.invokevirtual 89, 3) := by decide +kernel
theorem dX1_readPiece_45 : decode cX1_readPiece 45 = .ok (.ireturn, 1) := by decide +kernel
theorem dX1_readPiece_46 : decode cX1_readPiece 46 = .ok (.aload_n 0, 1) := by decide +kernel
theorem dX1_readPiece_47 : decode cX1_readPiece 47 = .ok (.invokevirtual 92, 3) := by decide +kernel
theorem dX1_readPiece_50 : decode cX1_readPiece 50 = .ok (.ireturn, 1) := by decide +kernel
theorem dX1_readPiece_51 : decode cX1_readPiece 51 = .ok (.aload_n 0, 1) := by decide +kernel
theorem dX1_readPiece_52 : decode cX1_readPiece 52 = .ok (.iload_n 1, 1) := by decide +kernel
theorem dX1_readPiece_53 : decode cX1_readPiece 53 = .ok (.invokevirtual 42, 3) := by decide +kernel
theorem dX1_readPiece_56 : decode cX1_readPiece 56 = .ok (.ireturn, 1) := by decide +kernel
theorem dX1_nextSign_0 : decode cX1_nextSign 0 = .ok (.aload_n 0, 1) := by decide +kernel
theorem dX1_nextSign_1 : decode cX1_nextSign 1 = .ok (.getfield 29, 3) := by decide +kernel
theorem dX1_nextSign_4 : decode cX1_nextSign 4 = .ok (.ifCond .lt 26, 3) := by decide +kernel
theorem dX1_nextSign_7 : decode cX1_nextSign 7 = .ok (.aload_n 0, 1) := by decide +kernel
theorem dX1_nextSign_8 : decode cX1_nextSign 8 = .ok (.getfield 29, 3) := by decide +kernel
theorem dX1_nextSign_11 : decode cX1_nextSign 11 = .ok (.aload_n 0, 1) := by decide +kernel
theorem dX1_nextSign_12 : decode cX1_nextSign 12 = .ok (.getfield 25, 3) := by decide +kernel
theorem dX1_nextSign_15 : decode cX1_nextSign 15 = .ok (.if_icmp .ge 15, 3) := by decide +kernel
theorem dX1_nextSign_18 : decode cX1_nextSign 18 = .ok (.aload_n 0, 1) := by decide +kernel
theorem dX1_nextSign_19 : decode cX1_nextSign 19 = .ok (.getfield 9, 3) := by decide +kernel
theorem dX1_nextSign_22 : decode cX1_nextSign 22 = .ok (.aload_n 0, 1) := by decide +kernel
theorem dX1_nextSign_23 : decode cX1_nextSign 23 = .ok (.getfield 29, 3) := by decide +kernel
theorem dX1_nextSign_26 : decode cX1_nextSign 26 = .ok (.caload, 1) := by decide +kernel
theorem dX1_nextSign_27 : decode cX1_nextSign 27 = .ok (.goto 4, 3) := by decide +kernel
theorem dX1_nextSign_30 : decode cX1_nextSign 30 = .ok (.iconst 0, 1) := by decide +kernel
theorem dX1_nextSign_31 : decode cX1_nextSign 31 = .ok (.ireturn, 1) := by decide +kernel
set_option maxRecDepth 20000 in
theorem ggX1_readSign_X1_nextSign : GoodIn wsX1_readSign wsX1_nextSign := goodIn_r _ [6, 1, 7, 8, 9, 10, 11, 12, 13, 14] (by decide +kernel) (by decide +kernel)
set_option maxRecDepth 20000 in
theorem gX1_readSign_X1_nextSign : GoodIn wsX1_readSign (wsV RX1 46 RX1 yX1_nextSign wsX1_nextSign) := goodIn_app (goodIn_of _ (by decide +kernel)) ggX1_readSign_X1_nextSign
theorem dX1_readSign_0 : decode cX1_readSign 0 = .ok (.aload_n 0, 1) := by decide +kernel
theorem dX1_readSign_1 : decode cX1_readSign 1 = .ok (.invokevirtual 46, 3) := by decide +kernel
theorem dX1_readSign_4 : decode cX1_readSign 4 = .ok (.iload_n 1, 1) := by decide +kernel
theorem dX1_readSign_5 : decode cX1_readSign 5 = .ok (.if_icmp .eq 5, 3) := by decide +kernel
theorem dX1_readSign_8 : decode cX1_readSign 8 = .ok (.iconst 0, 1) := by decide +kernel
theorem dX1_readSign_9 : decode cX1_readSign 9 = .ok (.ireturn, 1) := by decide +kernel
theorem dX1_readSign_10 : decode cX1_readSign 10 = .ok (.aload_n 0, 1) := by decide +kernel
theorem dX1_readSign_11 : decode cX1_readSign 11 = .ok (.dup, 1) := by decide +kernel
theorem dX1_readSign_12 : decode cX1_readSign 12 = .ok (.getfield 29, 3) := by decide +kernel
theorem dX1_readSign_15 : decode cX1_readSign 15 = .ok (.iconst 1, 1) := by decide +kernel
theorem dX1_readSign_16 : decode cX1_readSign 16 = .ok (.iadd, 1) := by decide +kernel
theorem dX1_readSign_17 : decode cX1_readSign 17 = .ok (.putfield 29, 3) := by decide +kernel
theorem dX1_readSign_20 : decode cX1_readSign 20 = .ok (.iconst 1, 1) := by decide +kernel
theorem dX1_readSign_21 : decode cX1_readSign 21 = .ok (.ireturn, 1) := by decide +kernel
set_option maxRecDepth 20000 in
theorem ggX1_nextDigit_X1_nextSign : GoodIn wsX1_nextDigit wsX1_nextSign := goodIn_r _ [5, 6, 7, 8, 12, 13, 14, 15, 16, 17] (by decide +kernel) (by decide +kernel)
set_option maxRecDepth 20000 in
theorem gX1_nextDigit_X1_nextSign : GoodIn wsX1_nextDigit (wsV RX1 46 RX1 yX1_nextSign wsX1_nextSign) := goodIn_app (goodIn_of _ (by decide +kernel)) ggX1_nextDigit_X1_nextSign
set_option maxRecDepth 20000 in
theorem ggX1_nextDigit_X4_within : GoodIn wsX1_nextDigit wsX4_within := goodIn_r _ [11] (by decide +kernel) (by decide +kernel)
set_option maxRecDepth 20000 in
theorem gX1_nextDigit_X4_within_n21 : GoodIn wsX1_nextDigit (wsX4_within) := ggX1_nextDigit_X4_within
theorem dX1_nextDigit_0 : decode cX1_nextDigit 0 = .ok (.aload_n 0, 1) := by decide +kernel
theorem dX1_nextDigit_1 : decode cX1_nextDigit 1 = .ok (.invokevirtual 46, 3) := by decide +kernel
theorem dX1_nextDigit_4 : decode cX1_nextDigit 4 = .ok (.bipush 48, 2) := by decide +kernel
theorem dX1_nextDigit_6 : decode cX1_nextDigit 6 = .ok (.isub, 1) := by decide +kernel
theorem dX1_nextDigit_7 : decode cX1_nextDigit 7 = .ok (.istore_n 1, 1) := by decide +kernel
theorem dX1_nextDigit_8 : decode cX1_nextDigit 8 = .ok (.iload_n 1, 1) := by decide +kernel
theorem dX1_nextDigit_9 : decode cX1_nextDigit 9 = .ok (.iconst 0, 1) := by decide +kernel
theorem dX1_nextDigit_10 : decode cX1_nextDigit 10 = .ok (.bipush 9, 2) := by decide +kernel
theorem dX1_nextDigit_12 : decode cX1_nextDigit 12 = .ok (.invokestatic 21, 3) := by decide +kernel
theorem dX1_nextDigit_15 : decode cX1_nextDigit 15 = .ok (.ifCond .eq 7, 3) := by decide +kernel
theorem dX1_nextDigit_18 : decode cX1_nextDigit 18 = .ok (.iload_n 1, 1) := by decide +kernel
theorem dX1_nextDigit_19 : decode cX1_nextDigit 19 = .ok (.goto 5, 3) := by decide +kernel
theorem dX1_nextDigit_22 : decode cX1_nextDigit 22 = .ok (.bipush (-6), 2) := by decide +kernel
theorem dX1_nextDigit_24 : decode cX1_nextDigit 24 = .ok (.ireturn, 1) := by decide +kernel
set_option maxRecDepth 20000 in
theorem ggX1_readDigit_X1_nextDigit : GoodIn wsX1_readDigit wsX1_nextDigit := goodIn_r _ [6, 7, 8, 9, 5, 10, 1, 11, 12, 13, 14, 15, 22, 23, 24, 25, 26, 27] (by decide +kernel) (by decide +kernel)
set_option maxRecDepth 20000 in
theorem gX1_readDigit_X1_nextDigit : GoodIn wsX1_readDigit (wsV RX1 95 RX1 yX1_nextDigit wsX1_nextDigit) := goodIn_app (goodIn_of _ (by decide +kernel)) ggX1_readDigit_X1_nextDigit
set_option maxRecDepth 20000 in
theorem ggX1_readDigit_X1_tell : GoodIn wsX1_readDigit wsX1_tell := goodIn_r _ [19, 20, 21, 22, 23, 24, 25, 26, 27] (by decide +kernel) (by decide +kernel)
set_option maxRecDepth 20000 in
theorem gX1_readDigit_X1_tell : GoodIn wsX1_readDigit (wsV RX1 98 RX1 yX1_tell wsX1_tell) := goodIn_app (goodIn_of _ (by decide +kernel)) ggX1_readDigit_X1_tell
theorem dX1_readDigit_0 : decode cX1_readDigit 0 = .ok (.aload_n 0, 1) := by decide +kernel
theorem dX1_readDigit_1 : decode cX1_readDigit 1 = .ok (.invokevirtual 95, 3) := by decide +kernel
theorem dX1_readDigit_4 : decode cX1_readDigit 4 = .ok (.istore_n 1, 1) := by decide +kernel
theorem dX1_readDigit_5 : decode cX1_readDigit 5 = .ok (.iload_n 1, 1) := by decide +kernel
theorem dX1_readDigit_6 : decode cX1_readDigit 6 = .ok (.bipush (-6), 2) := by decide +kernel
theorem dX1_readDigit_8 : decode cX1_readDigit 8 = .ok (.if_icmp .ne 5, 3) := by decide +kernel
theorem dX1_readDigit_11 : decode cX1_readDigit 11 = .ok (.iconst 0, 1) := by decide +kernel
theorem dX1_readDigit_12 : decode cX1_readDigit 12 = .ok (.ireturn, 1) := by decide +kernel
theorem dX1_readDigit_13 : decode cX1_readDigit 13 = .ok (.aload_n 0, 1) := by decide +kernel
theorem dX1_readDigit_14 : decode cX1_readDigit 14 = .ok (.dup, 1) := by decide +kernel
theorem dX1_readDigit_15 : decode cX1_readDigit 15 = .ok (.getfield 29, 3) := by decide +kernel
theorem dX1_readDigit_18 : decode cX1_readDigit 18 = .ok (.iconst 1, 1) := by decide +kernel
theorem dX1_readDigit_19 : decode cX1_readDigit 19 = .ok (.iadd, 1) := by decide +kernel
theorem dX1_readDigit_20 : decode cX1_readDigit 20 = .ok (.putfield 29, 3) := by decide +kernel
theorem dX1_readDigit_23 : decode cX1_readDigit 23 = .ok (.aload_n 0, 1) := by decide +kernel
theorem dX1_readDigit_24 : decode cX1_readDigit 24 = .ok (.iload_n 1, 1) := by decide +kernel
theorem dX1_readDigit_25 : decode cX1_readDigit 25 = .ok (.invokevirtual 98, 3) := by decide +kernel
theorem dX1_readDigit_28 : decode cX1_readDigit 28 = .ok (.iconst 1, 1) := by decide +kernel
theorem dX1_readDigit_29 : decode cX1_readDigit 29 = .ok (.ireturn, 1) := by decide +kernel
set_option maxRecDepth 20000 in
theorem ggX1_readNumber_X1_nextDigit : GoodIn wsX1_readNumber wsX1_nextDigit := goodIn_r _ [6, 7, 8, 9, 5, 10, 1, 11, 12, 13, 14, 15, 22, 23, 24, 25, 26, 27] (by decide +kernel) (by decide +kernel)
set_option maxRecDepth 20000 in
theorem gX1_readNumber_X1_nextDigit : GoodIn wsX1_readNumber (wsV RX1 95 RX1 yX1_nextDigit wsX1_nextDigit) := goodIn_app (goodIn_of _ (by decide +kernel)) ggX1_readNumber_X1_nextDigit
set_option maxRecDepth 20000 in
theorem ggX1_readNumber_X1_tell : GoodIn wsX1_readNumber wsX1_tell := goodIn_r _ [19, 20, 21, 22, 23, 24, 25, 26, 27] (by decide +kernel) (by decide +kernel)
set_option maxRecDepth 20000 in
theorem gX1_readNumber_X1_tell : GoodIn wsX1_readNumber (wsV RX1 98 RX1 yX1_tell wsX1_tell) := goodIn_app (goodIn_of _ (by decide +kernel)) ggX1_readNumber_X1_tell
theorem dX1_readNumber_0 : decode cX1_readNumber 0 = .ok (.aload_n 0, 1) := by decide +kernel
theorem dX1_readNumber_1 : decode cX1_readNumber 1 = .ok (.invokevirtual 95, 3) := by decide +kernel
theorem dX1_readNumber_4 : decode cX1_readNumber 4 = .ok (.istore_n 1, 1) := by decide +kernel
theorem dX1_readNumber_5 : decode cX1_readNumber 5 = .ok (.iload_n 1, 1) := by decide +kernel
theorem dX1_readNumber_6 : decode cX1_readNumber 6 = .ok (.bipush (-6), 2) := by decide +kernel
theorem dX1_readNumber_8 : decode cX1_readNumber 8 = .ok (.if_icmp .ne 5, 3) := by decide +kernel
theorem dX1_readNumber_11 : decode cX1_readNumber 11 = .ok (.iconst 0, 1) := by decide +kernel
theorem dX1_readNumber_12 : decode cX1_readNumber 12 = .ok (.ireturn, 1) := by decide +kernel
theorem dX1_readNumber_13 : decode cX1_readNumber 13 = .ok (.aload_n 0, 1) := by decide +kernel
theorem dX1_readNumber_14 : decode cX1_readNumber 14 = .ok (.dup, 1) := by decide +kernel
theorem dX1_readNumber_15 : decode cX1_readNumber 15 = .ok (.getfield 29, 3) := by decide +kernel
theorem dX1_readNumber_18 : decode cX1_readNumber 18 = .ok (.iconst 1, 1) := by decide +kernel
theorem dX1_readNumber_19 : decode cX1_readNumber 19 = .ok (.iadd, 1) := by decide +kernel
theorem dX1_readNumber_20 : decode cX1_readNumber 20 = .ok (.putfield 29, 3) := by decide +kernel
theorem dX1_readNumber_23 : decode cX1_readNumber 23 = .ok (.iconst 1, 1) := by decide +kernel
theorem dX1_readNumber_24 : decode cX1_readNumber 24 = .ok (.istore_n 2, 1) := by decide +kernel
theorem dX1_readNumber_25 : decode cX1_readNumber 25 = .ok (.iload_n 2, 1) := by decide +kernel
theorem dX1_readNumber_26 : decode cX1_readNumber 26 = .ok (.iconst 3, 1) := by decide +kernel
theorem dX1_readNumber_27 : decode cX1_readNumber 27 = .ok (.if_icmp .ge 42, 3) := by decide +kernel
theorem dX1_readNumber_30 : decode cX1_readNumber 30 = .ok (.iload_n 1, 1) := by decide +kernel
theorem dX1_readNumber_31 : decode cX1_readNumber 31 = .ok (.ifCond .le 38, 3) := by decide +kernel
theorem dX1_readNumber_34 : decode cX1_readNumber 34 = .ok (.aload_n 0, 1) := by decide +kernel
theorem dX1_readNumber_35 : decode cX1_readNumber 35 = .ok (.invokevirtual 95, 3) := by decide +kernel
theorem dX1_readNumber_38 : decode cX1_readNumber 38 = .ok (.bipush (-6), 2) := by decide +kernel
theorem dX1_readNumber_40 : decode cX1_readNumber 40 = .ok (.if_icmp .eq 29, 3) := by decide +kernel
theorem dX1_readNumber_43 : decode cX1_readNumber 43 = .ok (.iload_n 1, 1) := by decide +kernel
theorem dX1_readNumber_44 : decode cX1_readNumber 44 = .ok (.bipush 10, 2) := by decide +kernel
theorem dX1_readNumber_46 : decode cX1_readNumber 46 = .ok (.imul, 1) := by decide +kernel
theorem dX1_readNumber_47 : decode cX1_readNumber 47 = .ok (.aload_n 0, 1) := by decide +kernel
theorem dX1_readNumber_48 : decode cX1_readNumber 48 = .ok (.invokevirtual 95, 3) := by decide +kernel
theorem dX1_readNumber_51 : decode cX1_readNumber 51 = .ok (.iadd, 1) := by decide +kernel
theorem dX1_readNumber_52 : decode cX1_readNumber 52 = .ok (.istore_n 1, 1) := by decide +kernel
theorem dX1_readNumber_53 : decode cX1_readNumber 53 = .ok (.aload_n 0, 1) := by decide +kernel
theorem dX1_readNumber_54 : decode cX1_readNumber 54 = .ok (.dup, 1) := by decide +kernel
theorem dX1_readNumber_55 : decode cX1_readNumber 55 = .ok (.getfield 29, 3) := by decide +kernel
theorem dX1_readNumber_58 : decode cX1_readNumber 58 = .ok (.iconst 1, 1) := by decide +kernel
theorem dX1_readNumber_59 : decode cX1_readNumber 59 = .ok (.iadd, 1) := by decide +kernel
theorem dX1_readNumber_60 : decode cX1_readNumber 60 = .ok (.putfield 29, 3) := by decide +kernel
theorem dX1_readNumber_63 : decode cX1_readNumber 63 = .ok (.iinc 2 1, 3) := by decide +kernel
theorem dX1_readNumber_66 : decode cX1_readNumber 66 = .ok (.goto (-41), 3) := by decide +kernel
theorem dX1_readNumber_69 : decode cX1_readNumber 69 = .ok (.aload_n 0, 1) := by decide +kernel
theorem dX1_readNumber_70 : decode cX1_readNumber 70 = .ok (.iload_n 1, 1) := by decide +kernel
theorem dX1_readNumber_71 : decode cX1_readNumber 71 = .ok (.invokevirtual 98, 3) := by decide +kernel
theorem dX1_readNumber_74 : decode cX1_readNumber 74 = .ok (.iconst 1, 1) := by decide +kernel
theorem dX1_readNumber_75 : decode cX1_readNumber 75 = .ok (.ireturn, 1) := by decide +kernel
set_option maxRecDepth 20000 in
theorem ggX1_readSkills_X1_nextDigit : GoodIn wsX1_readSkills wsX1_nextDigit := goodIn_r _ [6, 7, 8, 9, 5, 10, 1, 11, 12, 13, 14, 15, 22, 23, 24, 25, 26, 27] (by decide +kernel) (by decide +kernel)
set_option maxRecDepth 20000 in
theorem gX1_readSkills_X1_nextDigit : GoodIn wsX1_readSkills (wsV RX1 95 RX1 yX1_nextDigit wsX1_nextDigit) := goodIn_app (goodIn_of _ (by decide +kernel)) ggX1_readSkills_X1_nextDigit
set_option maxRecDepth 20000 in
theorem ggX1_readSkills_X4_within : GoodIn wsX1_readSkills wsX4_within := goodIn_r _ [15] (by decide +kernel) (by decide +kernel)
set_option maxRecDepth 20000 in
theorem gX1_readSkills_X4_within_n21 : GoodIn wsX1_readSkills (wsX4_within) := ggX1_readSkills_X4_within
set_option maxRecDepth 20000 in
theorem ggX1_readSkills_X1_tell : GoodIn wsX1_readSkills wsX1_tell := goodIn_r _ [19, 20, 21, 22, 23, 24, 25, 26, 27] (by decide +kernel) (by decide +kernel)
set_option maxRecDepth 20000 in
theorem gX1_readSkills_X1_tell : GoodIn wsX1_readSkills (wsV RX1 98 RX1 yX1_tell wsX1_tell) := goodIn_app (goodIn_of _ (by decide +kernel)) ggX1_readSkills_X1_tell
theorem dX1_readSkills_0 : decode cX1_readSkills 0 = .ok (.iconst 0, 1) := by decide +kernel
theorem dX1_readSkills_1 : decode cX1_readSkills 1 = .ok (.istore_n 1, 1) := by decide +kernel
theorem dX1_readSkills_2 : decode cX1_readSkills 2 = .ok (.iconst 0, 1) := by decide +kernel
theorem dX1_readSkills_3 : decode cX1_readSkills 3 = .ok (.istore_n 2, 1) := by decide +kernel
theorem dX1_readSkills_4 : decode cX1_readSkills 4 = .ok (.iload_n 2, 1) := by decide +kernel
theorem dX1_readSkills_5 : decode cX1_readSkills 5 = .ok (.bipush 80, 2) := by decide +kernel
theorem dX1_readSkills_7 : decode cX1_readSkills 7 = .ok (.if_icmp .ge 40, 3) := by decide +kernel
theorem dX1_readSkills_10 : decode cX1_readSkills 10 = .ok (.aload_n 0, 1) := by decide +kernel
theorem dX1_readSkills_11 : decode cX1_readSkills 11 = .ok (.invokevirtual 95, 3) := by decide +kernel
theorem dX1_readSkills_14 : decode cX1_readSkills 14 = .ok (.iconst 0, 1) := by decide +kernel
theorem dX1_readSkills_15 : decode cX1_readSkills 15 = .ok (.iconst 3, 1) := by decide +kernel
theorem dX1_readSkills_16 : decode cX1_readSkills 16 = .ok (.invokestatic 21, 3) := by decide +kernel
theorem dX1_readSkills_19 : decode cX1_readSkills 19 = .ok (.ifCond .eq 28, 3) := by decide +kernel
theorem dX1_readSkills_22 : decode cX1_readSkills 22 = .ok (.iload_n 1, 1) := by decide +kernel
theorem dX1_readSkills_23 : decode cX1_readSkills 23 = .ok (.iconst 1, 1) := by decide +kernel
theorem dX1_readSkills_24 : decode cX1_readSkills 24 = .ok (.aload_n 0, 1) := by decide +kernel
theorem dX1_readSkills_25 : decode cX1_readSkills 25 = .ok (.invokevirtual 95, 3) := by decide +kernel
theorem dX1_readSkills_28 : decode cX1_readSkills 28 = .ok (.ishl, 1) := by decide +kernel
theorem dX1_readSkills_29 : decode cX1_readSkills 29 = .ok (.ior, 1) := by decide +kernel
theorem dX1_readSkills_30 : decode cX1_readSkills 30 = .ok (.istore_n 1, 1) := by decide +kernel
theorem dX1_readSkills_31 : decode cX1_readSkills 31 = .ok (.aload_n 0, 1) := by decide +kernel
theorem dX1_readSkills_32 : decode cX1_readSkills 32 = .ok (.dup, 1) := by decide +kernel
theorem dX1_readSkills_33 : decode cX1_readSkills 33 = .ok (.getfield 29, 3) := by decide +kernel
theorem dX1_readSkills_36 : decode cX1_readSkills 36 = .ok (.iconst 1, 1) := by decide +kernel
theorem dX1_readSkills_37 : decode cX1_readSkills 37 = .ok (.iadd, 1) := by decide +kernel
theorem dX1_readSkills_38 : decode cX1_readSkills 38 = .ok (.putfield 29, 3) := by decide +kernel
theorem dX1_readSkills_41 : decode cX1_readSkills 41 = .ok (.iinc 2 1, 3) := by decide +kernel
theorem dX1_readSkills_44 : decode cX1_readSkills 44 = .ok (.goto (-40), 3) := by decide +kernel
theorem dX1_readSkills_47 : decode cX1_readSkills 47 = .ok (.aload_n 0, 1) := by decide +kernel
theorem dX1_readSkills_48 : decode cX1_readSkills 48 = .ok (.iload_n 1, 1) := by decide +kernel
theorem dX1_readSkills_49 : decode cX1_readSkills 49 = .ok (.invokevirtual 98, 3) := by decide +kernel
theorem dX1_readSkills_52 : decode cX1_readSkills 52 = .ok (.iload_n 1, 1) := by decide +kernel
theorem dX1_readSkills_53 : decode cX1_readSkills 53 = .ok (.ifCond .eq 7, 3) := by decide +kernel
theorem dX1_readSkills_56 : decode cX1_readSkills 56 = .ok (.iconst 1, 1) := by decide +kernel
theorem dX1_readSkills_57 : decode cX1_readSkills 57 = .ok (.goto 4, 3) := by decide +kernel
theorem dX1_readSkills_60 : decode cX1_readSkills 60 = .ok (.iconst 0, 1) := by decide +kernel
theorem dX1_readSkills_61 : decode cX1_readSkills 61 = .ok (.ireturn, 1) := by decide +kernel
theorem dX1_tell_0 : decode cX1_tell 0 = .ok (.aload_n 0, 1) := by decide +kernel
theorem dX1_tell_1 : decode cX1_tell 1 = .ok (.getfield 63, 3) := by decide +kernel
theorem dX1_tell_4 : decode cX1_tell 4 = .ok (.bipush 6, 2) := by decide +kernel
theorem dX1_tell_6 : decode cX1_tell 6 = .ok (.if_icmp .ge 23, 3) := by decide +kernel
theorem dX1_tell_9 : decode cX1_tell 9 = .ok (.aload_n 0, 1) := by decide +kernel
theorem dX1_tell_10 : decode cX1_tell 10 = .ok (.getfield 15, 3) := by decide +kernel
theorem dX1_tell_13 : decode cX1_tell 13 = .ok (.aload_n 0, 1) := by decide +kernel
theorem dX1_tell_14 : decode cX1_tell 14 = .ok (.getfield 63, 3) := by decide +kernel
theorem dX1_tell_17 : decode cX1_tell 17 = .ok (.iload_n 1, 1) := by decide +kernel
theorem dX1_tell_18 : decode cX1_tell 18 = .ok (.iastore, 1) := by decide +kernel
theorem dX1_tell_19 : decode cX1_tell 19 = .ok (.aload_n 0, 1) := by decide +kernel
theorem dX1_tell_20 : decode cX1_tell 20 = .ok (.dup, 1) := by decide +kernel
theorem dX1_tell_21 : decode cX1_tell 21 = .ok (.getfield 63, 3) := by decide +kernel
theorem dX1_tell_24 : decode cX1_tell 24 = .ok (.iconst 1, 1) := by decide +kernel
theorem dX1_tell_25 : decode cX1_tell 25 = .ok (.iadd, 1) := by decide +kernel
theorem dX1_tell_26 : decode cX1_tell 26 = .ok (.putfield 63, 3) := by decide +kernel
theorem dX1_tell_29 : decode cX1_tell 29 = .ok (.return_, 1) := by decide +kernel
theorem dX2_init_0 : decode cX2_init 0 = .ok (.aload_n 0, 1) := by decide +kernel
theorem dX2_init_1 : decode cX2_init 1 = .ok (.invokespecial 3, 3) := by decide +kernel
theorem dX2_init_4 : decode cX2_init 4 = .ok (.aload_n 0, 1) := by decide +kernel
theorem dX2_init_5 : decode cX2_init 5 = .ok (.bipush 21, 2) := by decide +kernel
theorem dX2_init_7 : decode cX2_init 7 = .ok (.newarray .int, 2) := by decide +kernel
theorem dX2_init_9 : decode cX2_init 9 = .ok (.putfield 9, 3) := by decide +kernel
theorem dX2_init_12 : decode cX2_init 12 = .ok (.aload_n 0, 1) := by decide +kernel
theorem dX2_init_13 : decode cX2_init 13 = .ok (.bipush 84, 2) := by decide +kernel
theorem dX2_init_15 : decode cX2_init 15 = .ok (.newarray .int, 2) := by decide +kernel
theorem dX2_init_17 : decode cX2_init 17 = .ok (.putfield 15, 3) := by decide +kernel
theorem dX2_init_20 : decode cX2_init 20 = .ok (.aload_n 0, 1) := by decide +kernel
theorem dX2_init_21 : decode cX2_init 21 = .ok (.bipush 24, 2) := by decide +kernel
theorem dX2_init_23 : decode cX2_init 23 = .ok (.newarray .int, 2) := by decide +kernel
theorem dX2_init_25 : decode cX2_init 25 = .ok (.putfield 18, 3) := by decide +kernel
theorem dX2_init_28 : decode cX2_init 28 = .ok (.aload_n 0, 1) := by decide +kernel
theorem dX2_init_29 : decode cX2_init 29 = .ok (.bipush 20, 2) := by decide +kernel
theorem dX2_init_31 : decode cX2_init 31 = .ok (.newarray .int, 2) := by decide +kernel
theorem dX2_init_33 : decode cX2_init 33 = .ok (.putfield 21, 3) := by decide +kernel
theorem dX2_init_36 : decode cX2_init 36 = .ok (.aload_n 0, 1) := by decide +kernel
theorem dX2_init_37 : decode cX2_init 37 = .ok (.sipush 1008, 3) := by decide +kernel
theorem dX2_init_40 : decode cX2_init 40 = .ok (.newarray .int, 2) := by decide +kernel
theorem dX2_init_42 : decode cX2_init 42 = .ok (.putfield 24, 3) := by decide +kernel
theorem dX2_init_45 : decode cX2_init 45 = .ok (.return_, 1) := by decide +kernel
set_option maxRecDepth 20000 in
theorem ggX2_make_X2_sendVansHome : GoodIn wsX2_make wsX2_sendVansHome := goodIn_r _ [10, 4, 11, 12, 13, 14, 15, 16, 17, 18, 19, 20, 21, 22, 23, 97, 98, 99, 100, 101, 102, 103, 91, 92, 93, 94, 95, 96] (by decide +kernel) (by decide +kernel)
set_option maxRecDepth 20000 in
theorem gX2_make_X2_sendVansHome : GoodIn wsX2_make (wsV RX2 38 RX2 yX2_sendVansHome wsX2_sendVansHome) := goodIn_app (goodIn_of _ (by decide +kernel)) ggX2_make_X2_sendVansHome
set_option maxRecDepth 20000 in
theorem ggX2_make_X2_orderByEnds : GoodIn wsX2_make wsX2_orderByEnds := goodIn_r _ [27, 2, 5, 28, 29, 30, 16, 31, 32, 97, 98, 99, 100, 101, 102, 103, 91, 92, 93, 94, 95, 96] (by decide +kernel) (by decide +kernel)
set_option maxRecDepth 20000 in
theorem gX2_make_X2_orderByEnds : GoodIn wsX2_make (wsV RX2 42 RX2 yX2_orderByEnds wsX2_orderByEnds) := goodIn_app (goodIn_of _ (by decide +kernel)) ggX2_make_X2_orderByEnds
set_option maxRecDepth 20000 in
theorem ggX2_make_X2_look : GoodIn wsX2_make wsX2_look := goodIn_r _ [36, 37, 38, 39, 40, 41, 42, 43, 44, 9, 45, 4, 28, 29, 30, 16, 31, 32, 46, 47, 48, 49, 13, 14, 15, 17, 18, 50, 51, 52, 53, 54, 55, 56, 57, 12, 58, 59, 60, 61, 62, 63, 64, 65, 66, 67, 68, 11, 69, 70, 71, 72, 73, 74, 75, 76, 77, 78, 79, 80, 81, 82, 83, 84, 85, 86, 87, 88, 89, 90, 91, 92, 93, 94, 95, 96, 97, 98, 99, 100, 101, 102, 103] (by decide +kernel) (by decide +kernel)
set_option maxRecDepth 20000 in
theorem gX2_make_X2_look : GoodIn wsX2_make (wsV RX2 45 RX2 yX2_look wsX2_look) := goodIn_app (goodIn_of _ (by decide +kernel)) ggX2_make_X2_look
set_option maxRecDepth 20000 in
theorem ggX2_make_X2_outcome : GoodIn wsX2_make wsX2_outcome := goodIn_r _ [85, 77, 97, 98, 99, 100, 101, 102, 103] (by decide +kernel) (by decide +kernel)
set_option maxRecDepth 20000 in
theorem gX2_make_X2_outcome : GoodIn wsX2_make (wsV RX2 49 RX2 yX2_outcome wsX2_outcome) := goodIn_app (goodIn_of _ (by decide +kernel)) ggX2_make_X2_outcome
theorem dX2_make_0 : decode cX2_make 0 = .ok (.aload_n 0, 1) := by decide +kernel
theorem dX2_make_1 : decode cX2_make 1 = .ok (.aload_n 1, 1) := by decide +kernel
theorem dX2_make_2 : decode cX2_make 2 = .ok (.getfield 27, 3) := by decide +kernel
theorem dX2_make_5 : decode cX2_make 5 = .ok (.putfield 33, 3) := by decide +kernel
theorem dX2_make_8 : decode cX2_make 8 = .ok (.aload_n 0, 1) := by decide +kernel
theorem dX2_make_9 : decode cX2_make 9 = .ok (.aload_n 1, 1) := by decide +kernel
theorem dX2_make_10 : decode cX2_make 10 = .ok (.getfield 34, 3) := by decide +kernel
theorem dX2_make_13 : decode cX2_make 13 = .ok (.putfield 37, 3) := by decide +kernel
theorem dX2_make_16 : decode cX2_make 16 = .ok (.aload_n 0, 1) := by decide +kernel
theorem dX2_make_17 : decode cX2_make 17 = .ok (.aload_n 1, 1) := by decide +kernel
theorem dX2_make_18 : decode cX2_make 18 = .ok (.invokevirtual 38, 3) := by decide +kernel
theorem dX2_make_21 : decode cX2_make 21 = .ok (.aload_n 0, 1) := by decide +kernel
theorem dX2_make_22 : decode cX2_make 22 = .ok (.aload_n 1, 1) := by decide +kernel
theorem dX2_make_23 : decode cX2_make 23 = .ok (.invokevirtual 42, 3) := by decide +kernel
theorem dX2_make_26 : decode cX2_make 26 = .ok (.iconst 0, 1) := by decide +kernel
theorem dX2_make_27 : decode cX2_make 27 = .ok (.istore_n 2, 1) := by decide +kernel
theorem dX2_make_28 : decode cX2_make 28 = .ok (.iload_n 2, 1) := by decide +kernel
theorem dX2_make_29 : decode cX2_make 29 = .ok (.aload_n 0, 1) := by decide +kernel
theorem dX2_make_30 : decode cX2_make 30 = .ok (.getfield 33, 3) := by decide +kernel
theorem dX2_make_33 : decode cX2_make 33 = .ok (.if_icmp .ge 21, 3) := by decide +kernel
theorem dX2_make_36 : decode cX2_make 36 = .ok (.aload_n 0, 1) := by decide +kernel
theorem dX2_make_37 : decode cX2_make 37 = .ok (.aload_n 1, 1) := by decide +kernel
theorem dX2_make_38 : decode cX2_make 38 = .ok (.aload_n 0, 1) := by decide +kernel
theorem dX2_make_39 : decode cX2_make 39 = .ok (.getfield 9, 3) := by decide +kernel
theorem dX2_make_42 : decode cX2_make 42 = .ok (.iload_n 2, 1) := by decide +kernel
theorem dX2_make_43 : decode cX2_make 43 = .ok (.iaload, 1) := by decide +kernel
theorem dX2_make_44 : decode cX2_make 44 = .ok (.iconst 0, 1) := by decide +kernel
theorem dX2_make_45 : decode cX2_make 45 = .ok (.invokevirtual 45, 3) := by decide +kernel
theorem dX2_make_48 : decode cX2_make 48 = .ok (.iinc 2 1, 3) := by decide +kernel
theorem dX2_make_51 : decode cX2_make 51 = .ok (.goto (-23), 3) := by decide +kernel
theorem dX2_make_54 : decode cX2_make 54 = .ok (.iconst 0, 1) := by decide +kernel
theorem dX2_make_55 : decode cX2_make 55 = .ok (.istore_n 2, 1) := by decide +kernel
theorem dX2_make_56 : decode cX2_make 56 = .ok (.iload_n 2, 1) := by decide +kernel
theorem dX2_make_57 : decode cX2_make 57 = .ok (.aload_n 0, 1) := by decide +kernel
theorem dX2_make_58 : decode cX2_make 58 = .ok (.getfield 33, 3) := by decide +kernel
theorem dX2_make_61 : decode cX2_make 61 = .ok (.if_icmp .ge 36, 3) := by decide +kernel
theorem dX2_make_64 : decode cX2_make 64 = .ok (.aload_n 0, 1) := by decide +kernel
theorem dX2_make_65 : decode cX2_make 65 = .ok (.aload_n 0, 1) := by decide +kernel
theorem dX2_make_66 : decode cX2_make 66 = .ok (.getfield 9, 3) := by decide +kernel
theorem dX2_make_69 : decode cX2_make 69 = .ok (.iload_n 2, 1) := by decide +kernel
theorem dX2_make_70 : decode cX2_make 70 = .ok (.iaload, 1) := by decide +kernel
theorem dX2_make_71 : decode cX2_make 71 = .ok (.iconst 0, 1) := by decide +kernel
theorem dX2_make_72 : decode cX2_make 72 = .ok (.invokevirtual 49, 3) := by decide +kernel
theorem dX2_make_75 : decode cX2_make 75 = .ok (.iconst 4, 1) := by decide +kernel
theorem dX2_make_76 : decode cX2_make 76 = .ok (.if_icmp .ne 15, 3) := by decide +kernel
theorem dX2_make_79 : decode cX2_make 79 = .ok (.aload_n 0, 1) := by decide +kernel
theorem dX2_make_80 : decode cX2_make 80 = .ok (.aload_n 1, 1) := by decide +kernel
theorem dX2_make_81 : decode cX2_make 81 = .ok (.aload_n 0, 1) := by decide +kernel
theorem dX2_make_82 : decode cX2_make 82 = .ok (.getfield 9, 3) := by decide +kernel
theorem dX2_make_85 : decode cX2_make 85 = .ok (.iload_n 2, 1) := by decide +kernel
theorem dX2_make_86 : decode cX2_make 86 = .ok (.iaload, 1) := by decide +kernel
theorem dX2_make_87 : decode cX2_make 87 = .ok (.iconst 1, 1) := by decide +kernel
theorem dX2_make_88 : decode cX2_make 88 = .ok (.invokevirtual 45, 3) := by decide +kernel
theorem dX2_make_91 : decode cX2_make 91 = .ok (.iinc 2 1, 3) := by decide +kernel
theorem dX2_make_94 : decode cX2_make 94 = .ok (.goto (-38), 3) := by decide +kernel
theorem dX2_make_97 : decode cX2_make 97 = .ok (.return_, 1) := by decide +kernel
theorem dX2_outcome_0 : decode cX2_outcome 0 = .ok (.aload_n 0, 1) := by decide +kernel
theorem dX2_outcome_1 : decode cX2_outcome 1 = .ok (.getfield 15, 3) := by decide +kernel
theorem dX2_outcome_4 : decode cX2_outcome 4 = .ok (.iload_n 1, 1) := by decide +kernel
theorem dX2_outcome_5 : decode cX2_outcome 5 = .ok (.iconst 4, 1) := by decide +kernel
theorem dX2_outcome_6 : decode cX2_outcome 6 = .ok (.imul, 1) := by decide +kernel
theorem dX2_outcome_7 : decode cX2_outcome 7 = .ok (.iload_n 2, 1) := by decide +kernel
theorem dX2_outcome_8 : decode cX2_outcome 8 = .ok (.iadd, 1) := by decide +kernel
theorem dX2_outcome_9 : decode cX2_outcome 9 = .ok (.iaload, 1) := by decide +kernel
theorem dX2_outcome_10 : decode cX2_outcome 10 = .ok (.ireturn, 1) := by decide +kernel
theorem dX2_driveFact_0 : decode cX2_driveFact 0 = .ok (.aload_n 0, 1) := by decide +kernel
theorem dX2_driveFact_1 : decode cX2_driveFact 1 = .ok (.getfield 18, 3) := by decide +kernel
theorem dX2_driveFact_4 : decode cX2_driveFact 4 = .ok (.iload_n 1, 1) := by decide +kernel
theorem dX2_driveFact_5 : decode cX2_driveFact 5 = .ok (.bipush 6, 2) := by decide +kernel
theorem dX2_driveFact_7 : decode cX2_driveFact 7 = .ok (.imul, 1) := by decide +kernel
theorem dX2_driveFact_8 : decode cX2_driveFact 8 = .ok (.iload_n 2, 1) := by decide +kernel
theorem dX2_driveFact_9 : decode cX2_driveFact 9 = .ok (.iadd, 1) := by decide +kernel
theorem dX2_driveFact_10 : decode cX2_driveFact 10 = .ok (.iaload, 1) := by decide +kernel
theorem dX2_driveFact_11 : decode cX2_driveFact 11 = .ok (.ireturn, 1) := by decide +kernel
theorem dX2_partsLeft_0 : decode cX2_partsLeft 0 = .ok (.aload_n 0, 1) := by decide +kernel
theorem dX2_partsLeft_1 : decode cX2_partsLeft 1 = .ok (.getfield 21, 3) := by decide +kernel
theorem dX2_partsLeft_4 : decode cX2_partsLeft 4 = .ok (.iload_n 1, 1) := by decide +kernel
theorem dX2_partsLeft_5 : decode cX2_partsLeft 5 = .ok (.iconst 5, 1) := by decide +kernel
theorem dX2_partsLeft_6 : decode cX2_partsLeft 6 = .ok (.imul, 1) := by decide +kernel
theorem dX2_partsLeft_7 : decode cX2_partsLeft 7 = .ok (.iload_n 2, 1) := by decide +kernel
theorem dX2_partsLeft_8 : decode cX2_partsLeft 8 = .ok (.iadd, 1) := by decide +kernel
theorem dX2_partsLeft_9 : decode cX2_partsLeft 9 = .ok (.iaload, 1) := by decide +kernel
theorem dX2_partsLeft_10 : decode cX2_partsLeft 10 = .ok (.ireturn, 1) := by decide +kernel
theorem dX2_eventFact_0 : decode cX2_eventFact 0 = .ok (.aload_n 0, 1) := by decide +kernel
theorem dX2_eventFact_1 : decode cX2_eventFact 1 = .ok (.getfield 24, 3) := by decide +kernel
theorem dX2_eventFact_4 : decode cX2_eventFact 4 = .ok (.iload_n 1, 1) := by decide +kernel
theorem dX2_eventFact_5 : decode cX2_eventFact 5 = .ok (.bipush 63, 2) := by decide +kernel
theorem dX2_eventFact_7 : decode cX2_eventFact 7 = .ok (.imul, 1) := by decide +kernel
theorem dX2_eventFact_8 : decode cX2_eventFact 8 = .ok (.iload_n 2, 1) := by decide +kernel
theorem dX2_eventFact_9 : decode cX2_eventFact 9 = .ok (.iadd, 1) := by decide +kernel
theorem dX2_eventFact_10 : decode cX2_eventFact 10 = .ok (.iconst 4, 1) := by decide +kernel
theorem dX2_eventFact_11 : decode cX2_eventFact 11 = .ok (.imul, 1) := by decide +kernel
theorem dX2_eventFact_12 : decode cX2_eventFact 12 = .ok (.iload_n 3, 1) := by decide +kernel
theorem dX2_eventFact_13 : decode cX2_eventFact 13 = .ok (.iadd, 1) := by decide +kernel
theorem dX2_eventFact_14 : decode cX2_eventFact 14 = .ok (.iaload, 1) := by decide +kernel
theorem dX2_eventFact_15 : decode cX2_eventFact 15 = .ok (.ireturn, 1) := by decide +kernel
set_option maxRecDepth 20000 in
theorem ggX2_promisesThatAre_X2_outcome : GoodIn wsX2_promisesThatAre wsX2_outcome := goodIn_r _ [6, 7, 8, 9, 10, 11, 12, 13, 14] (by decide +kernel) (by decide +kernel)
set_option maxRecDepth 20000 in
theorem gX2_promisesThatAre_X2_outcome : GoodIn wsX2_promisesThatAre (wsV RX2 49 RX2 yX2_outcome wsX2_outcome) := goodIn_app (goodIn_of _ (by decide +kernel)) ggX2_promisesThatAre_X2_outcome
theorem dX2_promisesThatAre_0 : decode cX2_promisesThatAre 0 = .ok (.iconst 0, 1) := by decide +kernel
theorem dX2_promisesThatAre_1 : decode cX2_promisesThatAre 1 = .ok (.istore_n 2, 1) := by decide +kernel
theorem dX2_promisesThatAre_2 : decode cX2_promisesThatAre 2 = .ok (.iconst 0, 1) := by decide +kernel
theorem dX2_promisesThatAre_3 : decode cX2_promisesThatAre 3 = .ok (.istore_n 3, 1) := by decide +kernel
theorem dX2_promisesThatAre_4 : decode cX2_promisesThatAre 4 = .ok (.iload_n 3, 1) := by decide +kernel
theorem dX2_promisesThatAre_5 : decode cX2_promisesThatAre 5 = .ok (.aload_n 0, 1) := by decide +kernel
theorem dX2_promisesThatAre_6 : decode cX2_promisesThatAre 6 = .ok (.getfield 33, 3) := by decide +kernel
theorem dX2_promisesThatAre_9 : decode cX2_promisesThatAre 9 = .ok (.if_icmp .ge 22, 3) := by decide +kernel
theorem dX2_promisesThatAre_12 : decode cX2_promisesThatAre 12 = .ok (.aload_n 0, 1) := by decide +kernel
theorem dX2_promisesThatAre_13 : decode cX2_promisesThatAre 13 = .ok (.iload_n 3, 1) := by decide +kernel
theorem dX2_promisesThatAre_14 : decode cX2_promisesThatAre 14 = .ok (.iconst 0, 1) := by decide +kernel
theorem dX2_promisesThatAre_15 : decode cX2_promisesThatAre 15 = .ok (.invokevirtual 49, 3) := by decide +kernel
theorem dX2_promisesThatAre_18 : decode cX2_promisesThatAre 18 = .ok (.iload_n 1, 1) := by decide +kernel
theorem dX2_promisesThatAre_19 : decode cX2_promisesThatAre 19 = .ok (.if_icmp .ne 6, 3) := by decide +kernel
theorem dX2_promisesThatAre_22 : decode cX2_promisesThatAre 22 = .ok (.iinc 2 1, 3) := by decide +kernel
theorem dX2_promisesThatAre_25 : decode cX2_promisesThatAre 25 = .ok (.iinc 3 1, 3) := by decide +kernel
theorem dX2_promisesThatAre_28 : decode cX2_promisesThatAre 28 = .ok (.goto (-24), 3) := by decide +kernel
theorem dX2_promisesThatAre_31 : decode cX2_promisesThatAre 31 = .ok (.iload_n 2, 1) := by decide +kernel
theorem dX2_promisesThatAre_32 : decode cX2_promisesThatAre 32 = .ok (.ireturn, 1) := by decide +kernel
set_option maxRecDepth 20000 in
theorem ggX2_visitsMade_X2_promisesThatAre : GoodIn wsX2_visitsMade wsX2_promisesThatAre := goodIn_r _ [5, 6, 7, 8, 9, 4, 10, 11, 12, 13, 14, 15, 16, 17, 18] (by decide +kernel) (by decide +kernel)
set_option maxRecDepth 20000 in
theorem gX2_visitsMade_X2_promisesThatAre : GoodIn wsX2_visitsMade (wsV RX2 53 RX2 yX2_promisesThatAre wsX2_promisesThatAre) := goodIn_app (goodIn_of _ (by decide +kernel)) ggX2_visitsMade_X2_promisesThatAre
theorem dX2_visitsMade_0 : decode cX2_visitsMade 0 = .ok (.aload_n 0, 1) := by decide +kernel
theorem dX2_visitsMade_1 : decode cX2_visitsMade 1 = .ok (.iconst 0, 1) := by decide +kernel
theorem dX2_visitsMade_2 : decode cX2_visitsMade 2 = .ok (.invokevirtual 53, 3) := by decide +kernel
theorem dX2_visitsMade_5 : decode cX2_visitsMade 5 = .ok (.aload_n 0, 1) := by decide +kernel
theorem dX2_visitsMade_6 : decode cX2_visitsMade 6 = .ok (.iconst 1, 1) := by decide +kernel
theorem dX2_visitsMade_7 : decode cX2_visitsMade 7 = .ok (.invokevirtual 53, 3) := by decide +kernel
theorem dX2_visitsMade_10 : decode cX2_visitsMade 10 = .ok (.iadd, 1) := by decide +kernel
theorem dX2_visitsMade_11 : decode cX2_visitsMade 11 = .ok (.ireturn, 1) := by decide +kernel
set_option maxRecDepth 20000 in
theorem ggX2_sumOverVans_X2_driveFact : GoodIn wsX2_sumOverVans wsX2_driveFact := goodIn_r _ [6, 7, 8, 9, 10, 11, 12, 13, 14] (by decide +kernel) (by decide +kernel)
set_option maxRecDepth 20000 in
theorem gX2_sumOverVans_X2_driveFact : GoodIn wsX2_sumOverVans (wsV RX2 57 RX2 yX2_driveFact wsX2_driveFact) := goodIn_app (goodIn_of _ (by decide +kernel)) ggX2_sumOverVans_X2_driveFact
theorem dX2_sumOverVans_0 : decode cX2_sumOverVans 0 = .ok (.iconst 0, 1) := by decide +kernel
theorem dX2_sumOverVans_1 : decode cX2_sumOverVans 1 = .ok (.istore_n 2, 1) := by decide +kernel
theorem dX2_sumOverVans_2 : decode cX2_sumOverVans 2 = .ok (.iconst 0, 1) := by decide +kernel
theorem dX2_sumOverVans_3 : decode cX2_sumOverVans 3 = .ok (.istore_n 3, 1) := by decide +kernel
theorem dX2_sumOverVans_4 : decode cX2_sumOverVans 4 = .ok (.iload_n 3, 1) := by decide +kernel
theorem dX2_sumOverVans_5 : decode cX2_sumOverVans 5 = .ok (.aload_n 0, 1) := by decide +kernel
theorem dX2_sumOverVans_6 : decode cX2_sumOverVans 6 = .ok (.getfield 37, 3) := by decide +kernel
theorem dX2_sumOverVans_9 : decode cX2_sumOverVans 9 = .ok (.if_icmp .ge 18, 3) := by decide +kernel
theorem dX2_sumOverVans_12 : decode cX2_sumOverVans 12 = .ok (.iload_n 2, 1) := by decide +kernel
theorem dX2_sumOverVans_13 : decode cX2_sumOverVans 13 = .ok (.aload_n 0, 1) := by decide +kernel
theorem dX2_sumOverVans_14 : decode cX2_sumOverVans 14 = .ok (.iload_n 3, 1) := by decide +kernel
theorem dX2_sumOverVans_15 : decode cX2_sumOverVans 15 = .ok (.iload_n 1, 1) := by decide +kernel
theorem dX2_sumOverVans_16 : decode cX2_sumOverVans 16 = .ok (.invokevirtual 57, 3) := by decide +kernel
theorem dX2_sumOverVans_19 : decode cX2_sumOverVans 19 = .ok (.iadd, 1) := by decide +kernel
theorem dX2_sumOverVans_20 : decode cX2_sumOverVans 20 = .ok (.istore_n 2, 1) := by decide +kernel
theorem dX2_sumOverVans_21 : decode cX2_sumOverVans 21 = .ok (.iinc 3 1, 3) := by decide +kernel
theorem dX2_sumOverVans_24 : decode cX2_sumOverVans 24 = .ok (.goto (-20), 3) := by decide +kernel
theorem dX2_sumOverVans_27 : decode cX2_sumOverVans 27 = .ok (.iload_n 2, 1) := by decide +kernel
theorem dX2_sumOverVans_28 : decode cX2_sumOverVans 28 = .ok (.ireturn, 1) := by decide +kernel
set_option maxRecDepth 20000 in
theorem ggX2_lastFree_X2_driveFact : GoodIn wsX2_lastFree wsX2_driveFact := goodIn_r _ [10, 11, 12, 13, 14, 15, 16, 17, 18] (by decide +kernel) (by decide +kernel)
set_option maxRecDepth 20000 in
theorem gX2_lastFree_X2_driveFact : GoodIn wsX2_lastFree (wsV RX2 57 RX2 yX2_driveFact wsX2_driveFact) := goodIn_app (goodIn_of _ (by decide +kernel)) ggX2_lastFree_X2_driveFact
theorem dX2_lastFree_0 : decode cX2_lastFree 0 = .ok (.iconst 0, 1) := by decide +kernel
theorem dX2_lastFree_1 : decode cX2_lastFree 1 = .ok (.istore_n 1, 1) := by decide +kernel
theorem dX2_lastFree_2 : decode cX2_lastFree 2 = .ok (.iconst 0, 1) := by decide +kernel
theorem dX2_lastFree_3 : decode cX2_lastFree 3 = .ok (.istore_n 2, 1) := by decide +kernel
theorem dX2_lastFree_4 : decode cX2_lastFree 4 = .ok (.iload_n 2, 1) := by decide +kernel
theorem dX2_lastFree_5 : decode cX2_lastFree 5 = .ok (.aload_n 0, 1) := by decide +kernel
theorem dX2_lastFree_6 : decode cX2_lastFree 6 = .ok (.getfield 37, 3) := by decide +kernel
theorem dX2_lastFree_9 : decode cX2_lastFree 9 = .ok (.if_icmp .ge 20, 3) := by decide +kernel
theorem dX2_lastFree_12 : decode cX2_lastFree 12 = .ok (.iload_n 1, 1) := by decide +kernel
theorem dX2_lastFree_13 : decode cX2_lastFree 13 = .ok (.aload_n 0, 1) := by decide +kernel
theorem dX2_lastFree_14 : decode cX2_lastFree 14 = .ok (.iload_n 2, 1) := by decide +kernel
theorem dX2_lastFree_15 : decode cX2_lastFree 15 = .ok (.iconst 3, 1) := by decide +kernel
theorem dX2_lastFree_16 : decode cX2_lastFree 16 = .ok (.invokevirtual 57, 3) := by decide +kernel
theorem dX2_lastFree_19 : decode cX2_lastFree 19 = .ok (.invokestatic 60, 3) := by decide +kernel
theorem dX2_lastFree_22 : decode cX2_lastFree 22 = .ok (.istore_n 1, 1) := by decide +kernel
theorem dX2_lastFree_23 : decode cX2_lastFree 23 = .ok (.iinc 2 1, 3) := by decide +kernel
theorem dX2_lastFree_26 : decode cX2_lastFree 26 = .ok (.goto (-22), 3) := by decide +kernel
theorem dX2_lastFree_29 : decode cX2_lastFree 29 = .ok (.iload_n 1, 1) := by decide +kernel
theorem dX2_lastFree_30 : decode cX2_lastFree 30 = .ok (.ireturn, 1) := by decide +kernel
set_option maxRecDepth 20000 in
theorem ggX2_sendVansHome_X3_vanFact : GoodIn wsX2_sendVansHome wsX3_vanFact := goodIn_r _ [8, 9, 22, 23, 24, 25, 26, 27] (by decide +kernel) (by decide +kernel)
set_option maxRecDepth 20000 in
theorem gX2_sendVansHome_X3_vanFact : GoodIn wsX2_sendVansHome (wsV RX2 65 RX3 yX3_vanFact wsX3_vanFact) := goodIn_app (goodIn_of _ (by decide +kernel)) ggX2_sendVansHome_X3_vanFact
set_option maxRecDepth 20000 in
theorem ggX2_sendVansHome_X3_partsOf : GoodIn wsX2_sendVansHome wsX3_partsOf := goodIn_r _ [13, 14, 22, 23, 24, 25, 26, 27] (by decide +kernel) (by decide +kernel)
set_option maxRecDepth 20000 in
theorem gX2_sendVansHome_X3_partsOf : GoodIn wsX2_sendVansHome (wsV RX2 68 RX3 yX3_partsOf wsX3_partsOf) := goodIn_app (goodIn_of _ (by decide +kernel)) ggX2_sendVansHome_X3_partsOf
theorem dX2_sendVansHome_0 : decode cX2_sendVansHome 0 = .ok (.iconst 0, 1) := by decide +kernel
theorem dX2_sendVansHome_1 : decode cX2_sendVansHome 1 = .ok (.istore_n 2, 1) := by decide +kernel
theorem dX2_sendVansHome_2 : decode cX2_sendVansHome 2 = .ok (.iload_n 2, 1) := by decide +kernel
theorem dX2_sendVansHome_3 : decode cX2_sendVansHome 3 = .ok (.aload_n 0, 1) := by decide +kernel
theorem dX2_sendVansHome_4 : decode cX2_sendVansHome 4 = .ok (.getfield 37, 3) := by decide +kernel
theorem dX2_sendVansHome_7 : decode cX2_sendVansHome 7 = .ok (.if_icmp .ge 87, 3) := by decide +kernel
theorem dX2_sendVansHome_10 : decode cX2_sendVansHome 10 = .ok (.iload_n 2, 1) := by decide +kernel
theorem dX2_sendVansHome_11 : decode cX2_sendVansHome 11 = .ok (.bipush 6, 2) := by decide +kernel
theorem dX2_sendVansHome_13 : decode cX2_sendVansHome 13 = .ok (.imul, 1) := by decide +kernel
theorem dX2_sendVansHome_14 : decode cX2_sendVansHome 14 = .ok (.istore_n 3, 1) := by decide +kernel
theorem dX2_sendVansHome_15 : decode cX2_sendVansHome 15 = .ok (.iconst 0, 1) := by decide +kernel
theorem dX2_sendVansHome_16 : decode cX2_sendVansHome 16 = .ok (.istore 4, 2) := by decide +kernel
theorem dX2_sendVansHome_18 : decode cX2_sendVansHome 18 = .ok (.iload 4, 2) := by decide +kernel
theorem dX2_sendVansHome_20 : decode cX2_sendVansHome 20 = .ok (.bipush 6, 2) := by decide +kernel
theorem dX2_sendVansHome_22 : decode cX2_sendVansHome 22 = .ok (.if_icmp .ge 19, 3) := by decide +kernel
theorem dX2_sendVansHome_25 : decode cX2_sendVansHome 25 = .ok (.aload_n 0, 1) := by decide +kernel
theorem dX2_sendVansHome_26 : decode cX2_sendVansHome 26 = .ok (.getfield 18, 3) := by decide +kernel
theorem dX2_sendVansHome_29 : decode cX2_sendVansHome 29 = .ok (.iload_n 3, 1) := by decide +kernel
theorem dX2_sendVansHome_30 : decode cX2_sendVansHome 30 = .ok (.iload 4, 2) := by decide +kernel
theorem dX2_sendVansHome_32 : decode cX2_sendVansHome 32 = .ok (.iadd, 1) := by decide +kernel
theorem dX2_sendVansHome_33 : decode cX2_sendVansHome 33 = .ok (.iconst 0, 1) := by decide +kernel
theorem dX2_sendVansHome_34 : decode cX2_sendVansHome 34 = .ok (.iastore, 1) := by decide +kernel
theorem dX2_sendVansHome_35 : decode cX2_sendVansHome 35 = .ok (.iinc 4 1, 3) := by decide +kernel
theorem dX2_sendVansHome_38 : decode cX2_sendVansHome 38 = .ok (.goto (-20), 3) := by decide +kernel
theorem dX2_sendVansHome_41 : decode cX2_sendVansHome 41 = .ok (.aload_n 0, 1) := by decide +kernel
theorem dX2_sendVansHome_42 : decode cX2_sendVansHome 42 = .ok (.getfield 18, 3) := by decide +kernel
theorem dX2_sendVansHome_45 : decode cX2_sendVansHome 45 = .ok (.iload_n 3, 1) := by decide +kernel
theorem dX2_sendVansHome_46 : decode cX2_sendVansHome 46 = .ok (.iconst 4, 1) := by decide +kernel
theorem dX2_sendVansHome_47 : decode cX2_sendVansHome 47 = .ok (.iadd, 1) := by decide +kernel
theorem dX2_sendVansHome_48 : decode cX2_sendVansHome 48 = .ok (.aload_n 1, 1) := by decide +kernel
theorem dX2_sendVansHome_49 : decode cX2_sendVansHome 49 = .ok (.iload_n 2, 1) := by decide +kernel
theorem dX2_sendVansHome_50 : decode cX2_sendVansHome 50 = .ok (.iconst 0, 1) := by decide +kernel
theorem dX2_sendVansHome_51 : decode cX2_sendVansHome 51 = .ok (.invokevirtual 65, 3) := by decide +kernel
theorem dX2_sendVansHome_54 : decode cX2_sendVansHome 54 = .ok (.iastore, 1) := by decide +kernel
theorem dX2_sendVansHome_55 : decode cX2_sendVansHome 55 = .ok (.iconst 0, 1) := by decide +kernel
theorem dX2_sendVansHome_56 : decode cX2_sendVansHome 56 = .ok (.istore 4, 2) := by decide +kernel
theorem dX2_sendVansHome_58 : decode cX2_sendVansHome 58 = .ok (.iload 4, 2) := by decide +kernel
theorem dX2_sendVansHome_60 : decode cX2_sendVansHome 60 = .ok (.iconst 5, 1) := by decide +kernel
theorem dX2_sendVansHome_61 : decode cX2_sendVansHome 61 = .ok (.if_icmp .ge 27, 3) := by decide +kernel
theorem dX2_sendVansHome_64 : decode cX2_sendVansHome 64 = .ok (.aload_n 0, 1) := by decide +kernel
theorem dX2_sendVansHome_65 : decode cX2_sendVansHome 65 = .ok (.getfield 21, 3) := by decide +kernel
theorem dX2_sendVansHome_68 : decode cX2_sendVansHome 68 = .ok (.iload_n 2, 1) := by decide +kernel
theorem dX2_sendVansHome_69 : decode cX2_sendVansHome 69 = .ok (.iconst 5, 1) := by decide +kernel
theorem dX2_sendVansHome_70 : decode cX2_sendVansHome 70 = .ok (.imul, 1) := by decide +kernel
theorem dX2_sendVansHome_71 : decode cX2_sendVansHome 71 = .ok (.iload 4, 2) := by decide +kernel
theorem dX2_sendVansHome_73 : decode cX2_sendVansHome 73 = .ok (.iadd, 1) := by decide +kernel
theorem dX2_sendVansHome_74 : decode cX2_sendVansHome 74 = .ok (.aload_n 1, 1) := by decide +kernel
theorem dX2_sendVansHome_75 : decode cX2_sendVansHome 75 = .ok (.iload_n 2, 1) := by decide +kernel
theorem dX2_sendVansHome_76 : decode cX2_sendVansHome 76 = .ok (.iload 4, 2) := by decide +kernel
theorem dX2_sendVansHome_78 : decode cX2_sendVansHome 78 = .ok (.invokevirtual 68, 3) := by decide +kernel
theorem dX2_sendVansHome_81 : decode cX2_sendVansHome 81 = .ok (.iastore, 1) := by decide +kernel
theorem dX2_sendVansHome_82 : decode cX2_sendVansHome 82 = .ok (.iinc 4 1, 3) := by decide +kernel
theorem dX2_sendVansHome_85 : decode cX2_sendVansHome 85 = .ok (.goto (-27), 3) := by decide +kernel
theorem dX2_sendVansHome_88 : decode cX2_sendVansHome 88 = .ok (.iinc 2 1, 3) := by decide +kernel
theorem dX2_sendVansHome_91 : decode cX2_sendVansHome 91 = .ok (.goto (-89), 3) := by decide +kernel
theorem dX2_sendVansHome_94 : decode cX2_sendVansHome 94 = .ok (.return_, 1) := by decide +kernel
set_option maxRecDepth 20000 in
theorem ggX2_orderByEnds_X3_visitFact : GoodIn wsX2_orderByEnds wsX3_visitFact := goodIn_r _ [7, 8, 16, 17, 18, 19, 20, 21] (by decide +kernel) (by decide +kernel)
set_option maxRecDepth 20000 in
theorem gX2_orderByEnds_X3_visitFact : GoodIn wsX2_orderByEnds (wsV RX2 71 RX3 yX3_visitFact wsX3_visitFact) := goodIn_app (goodIn_of _ (by decide +kernel)) ggX2_orderByEnds_X3_visitFact
theorem dX2_orderByEnds_0 : decode cX2_orderByEnds 0 = .ok (.iconst 0, 1) := by decide +kernel
theorem dX2_orderByEnds_1 : decode cX2_orderByEnds 1 = .ok (.istore_n 2, 1) := by decide +kernel
theorem dX2_orderByEnds_2 : decode cX2_orderByEnds 2 = .ok (.iload_n 2, 1) := by decide +kernel
theorem dX2_orderByEnds_3 : decode cX2_orderByEnds 3 = .ok (.aload_n 0, 1) := by decide +kernel
theorem dX2_orderByEnds_4 : decode cX2_orderByEnds 4 = .ok (.getfield 33, 3) := by decide +kernel
theorem dX2_orderByEnds_7 : decode cX2_orderByEnds 7 = .ok (.if_icmp .ge 72, 3) := by decide +kernel
theorem dX2_orderByEnds_10 : decode cX2_orderByEnds 10 = .ok (.aload_n 1, 1) := by decide +kernel
theorem dX2_orderByEnds_11 : decode cX2_orderByEnds 11 = .ok (.iload_n 2, 1) := by decide +kernel
theorem dX2_orderByEnds_12 : decode cX2_orderByEnds 12 = .ok (.iconst 5, 1) := by decide +kernel
theorem dX2_orderByEnds_13 : decode cX2_orderByEnds 13 = .ok (.invokevirtual 71, 3) := by decide +kernel
theorem dX2_orderByEnds_16 : decode cX2_orderByEnds 16 = .ok (.istore_n 3, 1) := by decide +kernel
theorem dX2_orderByEnds_17 : decode cX2_orderByEnds 17 = .ok (.iload_n 2, 1) := by decide +kernel
theorem dX2_orderByEnds_18 : decode cX2_orderByEnds 18 = .ok (.istore 4, 2) := by decide +kernel
theorem dX2_orderByEnds_20 : decode cX2_orderByEnds 20 = .ok (.iload 4, 2) := by decide +kernel
theorem dX2_orderByEnds_22 : decode cX2_orderByEnds 22 = .ok (.ifCond .le 43, 3) := by decide +kernel
theorem dX2_orderByEnds_25 : decode cX2_orderByEnds 25 = .ok (.aload_n 1, 1) := by decide +kernel
theorem dX2_orderByEnds_26 : decode cX2_orderByEnds 26 = .ok (.aload_n 0, 1) := by decide +kernel
theorem dX2_orderByEnds_27 : decode cX2_orderByEnds 27 = .ok (.getfield 9, 3) := by decide +kernel
theorem dX2_orderByEnds_30 : decode cX2_orderByEnds 30 = .ok (.iload 4, 2) := by decide +kernel
theorem dX2_orderByEnds_32 : decode cX2_orderByEnds 32 = .ok (.iconst 1, 1) := by decide +kernel
theorem dX2_orderByEnds_33 : decode cX2_orderByEnds 33 = .ok (.isub, 1) := by decide +kernel
theorem dX2_orderByEnds_34 : decode cX2_orderByEnds 34 = .ok (.iaload, 1) := by decide +kernel
theorem dX2_orderByEnds_35 : decode cX2_orderByEnds 35 = .ok (.iconst 5, 1) := by decide +kernel
theorem dX2_orderByEnds_36 : decode cX2_orderByEnds 36 = .ok (.invokevirtual 71, 3) := by decide +kernel
theorem dX2_orderByEnds_39 : decode cX2_orderByEnds 39 = .ok (.iload_n 3, 1) := by decide +kernel
theorem dX2_orderByEnds_40 : decode cX2_orderByEnds 40 = .ok (.if_icmp .le 25, 3) := by decide +kernel
theorem dX2_orderByEnds_43 : decode cX2_orderByEnds 43 = .ok (.aload_n 0, 1) := by decide +kernel
theorem dX2_orderByEnds_44 : decode cX2_orderByEnds 44 = .ok (.getfield 9, 3) := by decide +kernel
theorem dX2_orderByEnds_47 : decode cX2_orderByEnds 47 = .ok (.iload 4, 2) := by decide +kernel
theorem dX2_orderByEnds_49 : decode cX2_orderByEnds 49 = .ok (.aload_n 0, 1) := by decide +kernel
theorem dX2_orderByEnds_50 : decode cX2_orderByEnds 50 = .ok (.getfield 9, 3) := by decide +kernel
theorem dX2_orderByEnds_53 : decode cX2_orderByEnds 53 = .ok (.iload 4, 2) := by decide +kernel
theorem dX2_orderByEnds_55 : decode cX2_orderByEnds 55 = .ok (.iconst 1, 1) := by decide +kernel
theorem dX2_orderByEnds_56 : decode cX2_orderByEnds 56 = .ok (.isub, 1) := by decide +kernel
theorem dX2_orderByEnds_57 : decode cX2_orderByEnds 57 = .ok (.iaload, 1) := by decide +kernel
theorem dX2_orderByEnds_58 : decode cX2_orderByEnds 58 = .ok (.iastore, 1) := by decide +kernel
theorem dX2_orderByEnds_59 : decode cX2_orderByEnds 59 = .ok (.iinc 4 (-1), 3) := by decide +kernel
theorem dX2_orderByEnds_62 : decode cX2_orderByEnds 62 = .ok (.goto (-42), 3) := by decide +kernel
theorem dX2_orderByEnds_65 : decode cX2_orderByEnds 65 = .ok (.aload_n 0, 1) := by decide +kernel
theorem dX2_orderByEnds_66 : decode cX2_orderByEnds 66 = .ok (.getfield 9, 3) := by decide +kernel
theorem dX2_orderByEnds_69 : decode cX2_orderByEnds 69 = .ok (.iload 4, 2) := by decide +kernel
theorem dX2_orderByEnds_71 : decode cX2_orderByEnds 71 = .ok (.iload_n 2, 1) := by decide +kernel
theorem dX2_orderByEnds_72 : decode cX2_orderByEnds 72 = .ok (.iastore, 1) := by decide +kernel
theorem dX2_orderByEnds_73 : decode cX2_orderByEnds 73 = .ok (.iinc 2 1, 3) := by decide +kernel
theorem dX2_orderByEnds_76 : decode cX2_orderByEnds 76 = .ok (.goto (-74), 3) := by decide +kernel
theorem dX2_orderByEnds_79 : decode cX2_orderByEnds 79 = .ok (.return_, 1) := by decide +kernel
set_option maxRecDepth 20000 in
theorem ggX2_look_X2_firstToBegin : GoodIn wsX2_look wsX2_firstToBegin := goodIn_r _ [10, 11, 2, 3, 4, 5, 12, 13, 14, 15, 16, 17, 18, 19, 20, 9, 21, 22, 23, 24, 25, 26, 27, 28, 29, 30, 31, 32, 33, 34, 35, 36, 37, 38, 39, 40, 41, 42, 1, 43, 44, 45, 46, 47, 76, 77, 78, 79, 80, 81, 82, 70, 71, 72, 73, 74, 75] (by decide +kernel) (by decide +kernel)
set_option maxRecDepth 20000 in
theorem gX2_look_X2_firstToBegin : GoodIn wsX2_look (wsV RX2 77 RX2 yX2_firstToBegin wsX2_firstToBegin) := goodIn_app (goodIn_of _ (by decide +kernel)) ggX2_look_X2_firstToBegin
set_option maxRecDepth 20000 in
theorem ggX2_look_X2_reason : GoodIn wsX2_look wsX2_reason := goodIn_r _ [51, 11, 18, 19, 20, 9, 21, 22, 23, 24, 15, 25, 26, 12, 13, 14, 16, 17, 27, 28, 29, 30, 31, 32, 33, 34, 35, 76, 77, 78, 79, 80, 81, 82, 70, 71, 72, 73, 74, 75] (by decide +kernel) (by decide +kernel)
set_option maxRecDepth 20000 in
theorem gX2_look_X2_reason : GoodIn wsX2_look (wsV RX2 81 RX2 yX2_reason wsX2_reason) := goodIn_app (goodIn_of _ (by decide +kernel)) ggX2_look_X2_reason
set_option maxRecDepth 20000 in
theorem ggX2_look_X2_putOutcome : GoodIn wsX2_look wsX2_putOutcome := goodIn_r _ [55, 56, 76, 77, 78, 79, 80, 81, 82] (by decide +kernel) (by decide +kernel)
set_option maxRecDepth 20000 in
theorem gX2_look_X2_putOutcome : GoodIn wsX2_look (wsV RX2 85 RX2 yX2_putOutcome wsX2_putOutcome) := goodIn_app (goodIn_of _ (by decide +kernel)) ggX2_look_X2_putOutcome
set_option maxRecDepth 20000 in
theorem ggX2_look_X2_comes : GoodIn wsX2_look wsX2_comes := goodIn_r _ [39, 40, 41, 4, 42, 1, 12, 13, 14, 15, 16, 17, 43, 44, 45, 9, 46, 47, 70, 71, 72, 73, 74, 75, 76, 77, 78, 79, 80, 81, 82] (by decide +kernel) (by decide +kernel)
set_option maxRecDepth 20000 in
theorem gX2_look_X2_comes : GoodIn wsX2_look (wsV RX2 89 RX2 yX2_comes wsX2_comes) := goodIn_app (goodIn_of _ (by decide +kernel)) ggX2_look_X2_comes
set_option maxRecDepth 20000 in
theorem ggX2_look_X3_visitFact : GoodIn wsX2_look wsX3_visitFact := goodIn_r _ [16, 17, 70, 71, 72, 73, 74, 75] (by decide +kernel) (by decide +kernel)
set_option maxRecDepth 20000 in
theorem gX2_look_X3_visitFact : GoodIn wsX2_look (wsV RX2 71 RX3 yX3_visitFact wsX3_visitFact) := goodIn_app (goodIn_of _ (by decide +kernel)) ggX2_look_X3_visitFact
set_option maxRecDepth 20000 in
theorem ggX2_look_X2_drive : GoodIn wsX2_look wsX2_drive := goodIn_r _ [60, 47, 35, 36, 37, 38, 9, 39, 40, 41, 4, 42, 1, 12, 13, 14, 15, 16, 17, 43, 44, 45, 46, 61, 62, 63, 64, 56, 65, 66, 67, 68, 69, 76, 77, 78, 79, 80, 81, 82, 70, 71, 72, 73, 74, 75] (by decide +kernel) (by decide +kernel)
set_option maxRecDepth 20000 in
theorem gX2_look_X2_drive : GoodIn wsX2_look (wsV RX2 92 RX2 yX2_drive wsX2_drive) := goodIn_app (goodIn_of _ (by decide +kernel)) ggX2_look_X2_drive
theorem dX2_look_0 : decode cX2_look 0 = .ok (.iload_n 3, 1) := by decide +kernel
theorem dX2_look_1 : decode cX2_look 1 = .ok (.aload_n 1, 1) := by decide +kernel
theorem dX2_look_2 : decode cX2_look 2 = .ok (.getfield 74, 3) := by decide +kernel
theorem dX2_look_5 : decode cX2_look 5 = .ok (.iconst 2, 1) := by decide +kernel
theorem dX2_look_6 : decode cX2_look 6 = .ok (.iaload, 1) := by decide +kernel
theorem dX2_look_7 : decode cX2_look 7 = .ok (.imul, 1) := by decide +kernel
theorem dX2_look_8 : decode cX2_look 8 = .ok (.istore 4, 2) := by decide +kernel
theorem dX2_look_10 : decode cX2_look 10 = .ok (.aload_n 0, 1) := by decide +kernel
theorem dX2_look_11 : decode cX2_look 11 = .ok (.aload_n 1, 1) := by decide +kernel
theorem dX2_look_12 : decode cX2_look 12 = .ok (.iload_n 2, 1) := by decide +kernel
theorem dX2_look_13 : decode cX2_look 13 = .ok (.iload 4, 2) := by decide +kernel
theorem dX2_look_15 : decode cX2_look 15 = .ok (.invokevirtual 77, 3) := by decide +kernel
theorem dX2_look_18 : decode cX2_look 18 = .ok (.istore 5, 2) := by decide +kernel
theorem dX2_look_20 : decode cX2_look 20 = .ok (.iload 5, 2) := by decide +kernel
theorem dX2_look_22 : decode cX2_look 22 = .ok (.bipush (-6), 2) := by decide +kernel
theorem dX2_look_24 : decode cX2_look 24 = .ok (.if_icmp .ne 21, 3) := by decide +kernel
theorem dX2_look_27 : decode cX2_look 27 = .ok (.aload_n 0, 1) := by decide +kernel
theorem dX2_look_28 : decode cX2_look 28 = .ok (.iload_n 2, 1) := by decide +kernel
theorem dX2_look_29 : decode cX2_look 29 = .ok (.aload_n 0, 1) := by decide +kernel
theorem dX2_look_30 : decode cX2_look 30 = .ok (.aload_n 1, 1) := by decide +kernel
theorem dX2_look_31 : decode cX2_look 31 = .ok (.iload_n 2, 1) := by decide +kernel
theorem dX2_look_32 : decode cX2_look 32 = .ok (.invokevirtual 81, 3) := by decide +kernel
theorem dX2_look_35 : decode cX2_look 35 = .ok (.bipush (-6), 2) := by decide +kernel
theorem dX2_look_37 : decode cX2_look 37 = .ok (.bipush (-6), 2) := by decide +kernel
theorem dX2_look_39 : decode cX2_look 39 = .ok (.bipush (-6), 2) := by decide +kernel
theorem dX2_look_41 : decode cX2_look 41 = .ok (.invokevirtual 85, 3) := by decide +kernel
theorem dX2_look_44 : decode cX2_look 44 = .ok (.return_, 1) := by decide +kernel
theorem dX2_look_45 : decode cX2_look 45 = .ok (.aload_n 0, 1) := by decide +kernel
theorem dX2_look_46 : decode cX2_look 46 = .ok (.aload_n 1, 1) := by decide +kernel
theorem dX2_look_47 : decode cX2_look 47 = .ok (.iload 5, 2) := by decide +kernel
theorem dX2_look_49 : decode cX2_look 49 = .ok (.iload_n 2, 1) := by decide +kernel
theorem dX2_look_50 : decode cX2_look 50 = .ok (.invokevirtual 89, 3) := by decide +kernel
theorem dX2_look_53 : decode cX2_look 53 = .ok (.aload_n 1, 1) := by decide +kernel
theorem dX2_look_54 : decode cX2_look 54 = .ok (.iload_n 2, 1) := by decide +kernel
theorem dX2_look_55 : decode cX2_look 55 = .ok (.iconst 4, 1) := by decide +kernel
theorem dX2_look_56 : decode cX2_look 56 = .ok (.invokevirtual 71, 3) := by decide +kernel
theorem dX2_look_59 : decode cX2_look 59 = .ok (.iload 4, 2) := by decide +kernel
theorem dX2_look_61 : decode cX2_look 61 = .ok (.iadd, 1) := by decide +kernel
theorem dX2_look_62 : decode cX2_look 62 = .ok (.invokestatic 60, 3) := by decide +kernel
theorem dX2_look_65 : decode cX2_look 65 = .ok (.istore 6, 2) := by decide +kernel
theorem dX2_look_67 : decode cX2_look 67 = .ok (.iload 6, 2) := by decide +kernel
theorem dX2_look_69 : decode cX2_look 69 = .ok (.aload_n 1, 1) := by decide +kernel
theorem dX2_look_70 : decode cX2_look 70 = .ok (.getfield 74, 3) := by decide +kernel
theorem dX2_look_73 : decode cX2_look 73 = .ok (.iconst 1, 1) := by decide +kernel
theorem dX2_look_74 : decode cX2_look 74 = .ok (.iaload, 1) := by decide +kernel
theorem dX2_look_75 : decode cX2_look 75 = .ok (.iadd, 1) := by decide +kernel
theorem dX2_look_76 : decode cX2_look 76 = .ok (.istore 7, 2) := by decide +kernel
theorem dX2_look_78 : decode cX2_look 78 = .ok (.aload_n 0, 1) := by decide +kernel
theorem dX2_look_79 : decode cX2_look 79 = .ok (.iload_n 2, 1) := by decide +kernel
theorem dX2_look_80 : decode cX2_look 80 = .ok (.iload_n 3, 1) := by decide +kernel
theorem dX2_look_81 : decode cX2_look 81 = .ok (.ifCond .ne 7, 3) := by decide +kernel
theorem dX2_look_84 : decode cX2_look 84 = .ok (.iconst 0, 1) := by decide +kernel
theorem dX2_look_85 : decode cX2_look 85 = .ok (.goto 4, 3) := by decide +kernel
theorem dX2_look_88 : decode cX2_look 88 = .ok (.iconst 1, 1) := by decide +kernel
theorem dX2_look_89 : decode cX2_look 89 = .ok (.iload 5, 2) := by decide +kernel
theorem dX2_look_91 : decode cX2_look 91 = .ok (.iload 6, 2) := by decide +kernel
theorem dX2_look_93 : decode cX2_look 93 = .ok (.iload 7, 2) := by decide +kernel
theorem dX2_look_95 : decode cX2_look 95 = .ok (.invokevirtual 85, 3) := by decide +kernel
theorem dX2_look_98 : decode cX2_look 98 = .ok (.aload_n 0, 1) := by decide +kernel
theorem dX2_look_99 : decode cX2_look 99 = .ok (.aload_n 1, 1) := by decide +kernel
theorem dX2_look_100 : decode cX2_look 100 = .ok (.iload 5, 2) := by decide +kernel
theorem dX2_look_102 : decode cX2_look 102 = .ok (.iload_n 2, 1) := by decide +kernel
theorem dX2_look_103 : decode cX2_look 103 = .ok (.invokevirtual 92, 3) := by decide +kernel
theorem dX2_look_106 : decode cX2_look 106 = .ok (.return_, 1) := by decide +kernel
set_option maxRecDepth 20000 in
theorem ggX2_firstToBegin_X3_visitFact : GoodIn wsX2_firstToBegin wsX3_visitFact := goodIn_r _ [10, 11, 51, 52, 53, 54, 55, 56] (by decide +kernel) (by decide +kernel)
set_option maxRecDepth 20000 in
theorem gX2_firstToBegin_X3_visitFact : GoodIn wsX2_firstToBegin (wsV RX2 71 RX3 yX3_visitFact wsX3_visitFact) := goodIn_app (goodIn_of _ (by decide +kernel)) ggX2_firstToBegin_X3_visitFact
set_option maxRecDepth 20000 in
theorem ggX2_firstToBegin_X2_hasSkill : GoodIn wsX2_firstToBegin wsX2_hasSkill := goodIn_r _ [16, 17, 18, 19, 9, 20, 21, 6, 7, 8, 10, 11, 51, 52, 53, 54, 55, 56] (by decide +kernel) (by decide +kernel)
set_option maxRecDepth 20000 in
theorem gX2_firstToBegin_X2_hasSkill : GoodIn wsX2_firstToBegin (wsV RX2 95 RX2 yX2_hasSkill wsX2_hasSkill) := goodIn_app (goodIn_of _ (by decide +kernel)) ggX2_firstToBegin_X2_hasSkill
set_option maxRecDepth 20000 in
theorem ggX2_firstToBegin_X2_hasParts : GoodIn wsX2_firstToBegin wsX2_hasParts := goodIn_r _ [25, 6, 7, 8, 9, 10, 11, 26, 27, 28, 15, 29, 30, 51, 52, 53, 54, 55, 56, 44, 45, 46, 47, 48, 49, 50] (by decide +kernel) (by decide +kernel)
set_option maxRecDepth 20000 in
theorem gX2_firstToBegin_X2_hasParts : GoodIn wsX2_firstToBegin (wsV RX2 99 RX2 yX2_hasParts wsX2_hasParts) := goodIn_app (goodIn_of _ (by decide +kernel)) ggX2_firstToBegin_X2_hasParts
set_option maxRecDepth 20000 in
theorem ggX2_firstToBegin_X2_comes : GoodIn wsX2_firstToBegin wsX2_comes := goodIn_r _ [34, 35, 36, 4, 37, 38, 6, 7, 8, 9, 10, 11, 39, 40, 41, 15, 42, 43, 51, 52, 53, 54, 55, 56, 44, 45, 46, 47, 48, 49, 50] (by decide +kernel) (by decide +kernel)
set_option maxRecDepth 20000 in
theorem gX2_firstToBegin_X2_comes : GoodIn wsX2_firstToBegin (wsV RX2 89 RX2 yX2_comes wsX2_comes) := goodIn_app (goodIn_of _ (by decide +kernel)) ggX2_firstToBegin_X2_comes
theorem dX2_firstToBegin_0 : decode cX2_firstToBegin 0 = .ok (.aload_n 1, 1) := by decide +kernel
theorem dX2_firstToBegin_1 : decode cX2_firstToBegin 1 = .ok (.iload_n 2, 1) := by decide +kernel
theorem dX2_firstToBegin_2 : decode cX2_firstToBegin 2 = .ok (.iconst 4, 1) := by decide +kernel
theorem dX2_firstToBegin_3 : decode cX2_firstToBegin 3 = .ok (.invokevirtual 71, 3) := by decide +kernel
theorem dX2_firstToBegin_6 : decode cX2_firstToBegin 6 = .ok (.iload_n 3, 1) := by decide +kernel
theorem dX2_firstToBegin_7 : decode cX2_firstToBegin 7 = .ok (.iadd, 1) := by decide +kernel
theorem dX2_firstToBegin_8 : decode cX2_firstToBegin 8 = .ok (.istore 4, 2) := by decide +kernel
theorem dX2_firstToBegin_10 : decode cX2_firstToBegin 10 = .ok (.aload_n 1, 1) := by decide +kernel
theorem dX2_firstToBegin_11 : decode cX2_firstToBegin 11 = .ok (.iload_n 2, 1) := by decide +kernel
theorem dX2_firstToBegin_12 : decode cX2_firstToBegin 12 = .ok (.iconst 5, 1) := by decide +kernel
theorem dX2_firstToBegin_13 : decode cX2_firstToBegin 13 = .ok (.invokevirtual 71, 3) := by decide +kernel
theorem dX2_firstToBegin_16 : decode cX2_firstToBegin 16 = .ok (.iload_n 3, 1) := by decide +kernel
theorem dX2_firstToBegin_17 : decode cX2_firstToBegin 17 = .ok (.iadd, 1) := by decide +kernel
theorem dX2_firstToBegin_18 : decode cX2_firstToBegin 18 = .ok (.istore 5, 2) := by decide +kernel
theorem dX2_firstToBegin_20 : decode cX2_firstToBegin 20 = .ok (.bipush (-6), 2) := by decide +kernel
theorem dX2_firstToBegin_22 : decode cX2_firstToBegin 22 = .ok (.istore 6, 2) := by decide +kernel
theorem dX2_firstToBegin_24 : decode cX2_firstToBegin 24 = .ok (.iconst 0, 1) := by decide +kernel
theorem dX2_firstToBegin_25 : decode cX2_firstToBegin 25 = .ok (.istore 7, 2) := by decide +kernel
theorem dX2_firstToBegin_27 : decode cX2_firstToBegin 27 = .ok (.iconst 0, 1) := by decide +kernel
theorem dX2_firstToBegin_28 : decode cX2_firstToBegin 28 = .ok (.istore 8, 2) := by decide +kernel
theorem dX2_firstToBegin_30 : decode cX2_firstToBegin 30 = .ok (.iload 8, 2) := by decide +kernel
theorem dX2_firstToBegin_32 : decode cX2_firstToBegin 32 = .ok (.aload_n 0, 1) := by decide +kernel
theorem dX2_firstToBegin_33 : decode cX2_firstToBegin 33 = .ok (.getfield 37, 3) := by decide +kernel
theorem dX2_firstToBegin_36 : decode cX2_firstToBegin 36 = .ok (.if_icmp .ge 75, 3) := by decide +kernel
theorem dX2_firstToBegin_39 : decode cX2_firstToBegin 39 = .ok (.aload_n 0, 1) := by decide +kernel
theorem dX2_firstToBegin_40 : decode cX2_firstToBegin 40 = .ok (.aload_n 1, 1) := by decide +kernel
theorem dX2_firstToBegin_41 : decode cX2_firstToBegin 41 = .ok (.iload 8, 2) := by decide +kernel
theorem dX2_firstToBegin_43 : decode cX2_firstToBegin 43 = .ok (.iload_n 2, 1) := by decide +kernel
theorem dX2_firstToBegin_44 : decode cX2_firstToBegin 44 = .ok (.invokevirtual 95, 3) := by decide +kernel
theorem dX2_firstToBegin_47 : decode cX2_firstToBegin 47 = .ok (.ifCond .eq 58, 3) := by decide +kernel
theorem dX2_firstToBegin_50 : decode cX2_firstToBegin 50 = .ok (.aload_n 0, 1) := by decide +kernel
theorem dX2_firstToBegin_51 : decode cX2_firstToBegin 51 = .ok (.aload_n 1, 1) := by decide +kernel
theorem dX2_firstToBegin_52 : decode cX2_firstToBegin 52 = .ok (.iload 8, 2) := by decide +kernel
theorem dX2_firstToBegin_54 : decode cX2_firstToBegin 54 = .ok (.iload_n 2, 1) := by decide +kernel
theorem dX2_firstToBegin_55 : decode cX2_firstToBegin 55 = .ok (.invokevirtual 99, 3) := by decide +kernel
theorem dX2_firstToBegin_58 : decode cX2_firstToBegin 58 = .ok (.ifCond .eq 47, 3) := by decide +kernel
theorem dX2_firstToBegin_61 : decode cX2_firstToBegin 61 = .ok (.aload_n 0, 1) := by decide +kernel
theorem dX2_firstToBegin_62 : decode cX2_firstToBegin 62 = .ok (.aload_n 1, 1) := by decide +kernel
theorem dX2_firstToBegin_63 : decode cX2_firstToBegin 63 = .ok (.iload 8, 2) := by decide +kernel
theorem dX2_firstToBegin_65 : decode cX2_firstToBegin 65 = .ok (.iload_n 2, 1) := by decide +kernel
theorem dX2_firstToBegin_66 : decode cX2_firstToBegin 66 = .ok (.invokevirtual 89, 3) := by decide +kernel
theorem dX2_firstToBegin_69 : decode cX2_firstToBegin 69 = .ok (.iload 4, 2) := by decide +kernel
theorem dX2_firstToBegin_71 : decode cX2_firstToBegin 71 = .ok (.invokestatic 60, 3) := by decide +kernel
theorem dX2_firstToBegin_74 : decode cX2_firstToBegin 74 = .ok (.istore 9, 2) := by decide +kernel
theorem dX2_firstToBegin_76 : decode cX2_firstToBegin 76 = .ok (.iload 9, 2) := by decide +kernel
theorem dX2_firstToBegin_78 : decode cX2_firstToBegin 78 = .ok (.iload 5, 2) := by decide +kernel
theorem dX2_firstToBegin_80 : decode cX2_firstToBegin 80 = .ok (.if_icmp .gt 25, 3) := by decide +kernel
theorem dX2_firstToBegin_83 : decode cX2_firstToBegin 83 = .ok (.iload 6, 2) := by decide +kernel
theorem dX2_firstToBegin_85 : decode cX2_firstToBegin 85 = .ok (.bipush (-6), 2) := by decide +kernel
theorem dX2_firstToBegin_87 : decode cX2_firstToBegin 87 = .ok (.if_icmp .eq 10, 3) := by decide +kernel
theorem dX2_firstToBegin_90 : decode cX2_firstToBegin 90 = .ok (.iload 9, 2) := by decide +kernel
theorem dX2_firstToBegin_92 : decode cX2_firstToBegin 92 = .ok (.iload 7, 2) := by decide +kernel
theorem dX2_firstToBegin_94 : decode cX2_firstToBegin 94 = .ok (.if_icmp .ge 11, 3) := by decide +kernel
theorem dX2_firstToBegin_97 : decode cX2_firstToBegin 97 = .ok (.iload 8, 2) := by decide +kernel
theorem dX2_firstToBegin_99 : decode cX2_firstToBegin 99 = .ok (.istore 6, 2) := by decide +kernel
theorem dX2_firstToBegin_101 : decode cX2_firstToBegin 101 = .ok (.iload 9, 2) := by decide +kernel
theorem dX2_firstToBegin_103 : decode cX2_firstToBegin 103 = .ok (.istore 7, 2) := by decide +kernel
theorem dX2_firstToBegin_105 : decode cX2_firstToBegin 105 = .ok (.iinc 8 1, 3) := by decide +kernel
theorem dX2_firstToBegin_108 : decode cX2_firstToBegin 108 = .ok (.goto (-78), 3) := by decide +kernel
theorem dX2_firstToBegin_111 : decode cX2_firstToBegin 111 = .ok (.iload 6, 2) := by decide +kernel
theorem dX2_firstToBegin_113 : decode cX2_firstToBegin 113 = .ok (.ireturn, 1) := by decide +kernel
set_option maxRecDepth 20000 in
theorem ggX2_hasSkill_X3_vanFact : GoodIn wsX2_hasSkill wsX3_vanFact := goodIn_r _ [5, 6, 12, 13, 14, 15, 16, 17] (by decide +kernel) (by decide +kernel)
set_option maxRecDepth 20000 in
theorem gX2_hasSkill_X3_vanFact : GoodIn wsX2_hasSkill (wsV RX2 65 RX3 yX3_vanFact wsX3_vanFact) := goodIn_app (goodIn_of _ (by decide +kernel)) ggX2_hasSkill_X3_vanFact
set_option maxRecDepth 20000 in
theorem ggX2_hasSkill_X3_visitFact : GoodIn wsX2_hasSkill wsX3_visitFact := goodIn_r _ [10, 11, 12, 13, 14, 15, 16, 17] (by decide +kernel) (by decide +kernel)
set_option maxRecDepth 20000 in
theorem gX2_hasSkill_X3_visitFact : GoodIn wsX2_hasSkill (wsV RX2 71 RX3 yX3_visitFact wsX3_visitFact) := goodIn_app (goodIn_of _ (by decide +kernel)) ggX2_hasSkill_X3_visitFact
theorem dX2_hasSkill_0 : decode cX2_hasSkill 0 = .ok (.aload_n 1, 1) := by decide +kernel
theorem dX2_hasSkill_1 : decode cX2_hasSkill 1 = .ok (.iload_n 2, 1) := by decide +kernel
theorem dX2_hasSkill_2 : decode cX2_hasSkill 2 = .ok (.iconst 1, 1) := by decide +kernel
theorem dX2_hasSkill_3 : decode cX2_hasSkill 3 = .ok (.invokevirtual 65, 3) := by decide +kernel
theorem dX2_hasSkill_6 : decode cX2_hasSkill 6 = .ok (.aload_n 1, 1) := by decide +kernel
theorem dX2_hasSkill_7 : decode cX2_hasSkill 7 = .ok (.iload_n 3, 1) := by decide +kernel
theorem dX2_hasSkill_8 : decode cX2_hasSkill 8 = .ok (.iconst 1, 1) := by decide +kernel
theorem dX2_hasSkill_9 : decode cX2_hasSkill 9 = .ok (.invokevirtual 71, 3) := by decide +kernel
theorem dX2_hasSkill_12 : decode cX2_hasSkill 12 = .ok (.ishr, 1) := by decide +kernel
theorem dX2_hasSkill_13 : decode cX2_hasSkill 13 = .ok (.iconst 1, 1) := by decide +kernel
theorem dX2_hasSkill_14 : decode cX2_hasSkill 14 = .ok (.iand, 1) := by decide +kernel
theorem dX2_hasSkill_15 : decode cX2_hasSkill 15 = .ok (.iconst 1, 1) := by decide +kernel
theorem dX2_hasSkill_16 : decode cX2_hasSkill 16 = .ok (.if_icmp .ne 7, 3) := by decide +kernel
theorem dX2_hasSkill_19 : decode cX2_hasSkill 19 = .ok (.iconst 1, 1) := by decide +kernel
theorem dX2_hasSkill_20 : decode cX2_hasSkill 20 = .ok (.goto 4, 3) := by decide +kernel
theorem dX2_hasSkill_23 : decode cX2_hasSkill 23 = .ok (.iconst 0, 1) := by decide +kernel
theorem dX2_hasSkill_24 : decode cX2_hasSkill 24 = .ok (.ireturn, 1) := by decide +kernel
set_option maxRecDepth 20000 in
theorem ggX2_hasParts_X3_visitFact : GoodIn wsX2_hasParts wsX3_visitFact := goodIn_r _ [5, 6, 13, 14, 15, 16, 17, 18] (by decide +kernel) (by decide +kernel)
set_option maxRecDepth 20000 in
theorem gX2_hasParts_X3_visitFact : GoodIn wsX2_hasParts (wsV RX2 71 RX3 yX3_visitFact wsX3_visitFact) := goodIn_app (goodIn_of _ (by decide +kernel)) ggX2_hasParts_X3_visitFact
set_option maxRecDepth 20000 in
theorem ggX2_hasParts_X2_partsLeft : GoodIn wsX2_hasParts wsX2_partsLeft := goodIn_r _ [11, 12, 19, 20, 21, 22, 23, 24, 25] (by decide +kernel) (by decide +kernel)
set_option maxRecDepth 20000 in
theorem gX2_hasParts_X2_partsLeft : GoodIn wsX2_hasParts (wsV RX2 102 RX2 yX2_partsLeft wsX2_partsLeft) := goodIn_app (goodIn_of _ (by decide +kernel)) ggX2_hasParts_X2_partsLeft
theorem dX2_hasParts_0 : decode cX2_hasParts 0 = .ok (.aload_n 0, 1) := by decide +kernel
theorem dX2_hasParts_1 : decode cX2_hasParts 1 = .ok (.iload_n 2, 1) := by decide +kernel
theorem dX2_hasParts_2 : decode cX2_hasParts 2 = .ok (.aload_n 1, 1) := by decide +kernel
theorem dX2_hasParts_3 : decode cX2_hasParts 3 = .ok (.iload_n 3, 1) := by decide +kernel
theorem dX2_hasParts_4 : decode cX2_hasParts 4 = .ok (.iconst 2, 1) := by decide +kernel
theorem dX2_hasParts_5 : decode cX2_hasParts 5 = .ok (.invokevirtual 71, 3) := by decide +kernel
theorem dX2_hasParts_8 : decode cX2_hasParts 8 = .ok (.invokevirtual 102, 3) := by decide +kernel
theorem dX2_hasParts_11 : decode cX2_hasParts 11 = .ok (.aload_n 1, 1) := by decide +kernel
theorem dX2_hasParts_12 : decode cX2_hasParts 12 = .ok (.iload_n 3, 1) := by decide +kernel
theorem dX2_hasParts_13 : decode cX2_hasParts 13 = .ok (.iconst 3, 1) := by decide +kernel
theorem dX2_hasParts_14 : decode cX2_hasParts 14 = .ok (.invokevirtual 71, 3) := by decide +kernel
theorem dX2_hasParts_17 : decode cX2_hasParts 17 = .ok (.if_icmp .lt 7, 3) := by decide +kernel
theorem dX2_hasParts_20 : decode cX2_hasParts 20 = .ok (.iconst 1, 1) := by decide +kernel
theorem dX2_hasParts_21 : decode cX2_hasParts 21 = .ok (.goto 4, 3) := by decide +kernel
theorem dX2_hasParts_24 : decode cX2_hasParts 24 = .ok (.iconst 0, 1) := by decide +kernel
theorem dX2_hasParts_25 : decode cX2_hasParts 25 = .ok (.ireturn, 1) := by decide +kernel
set_option maxRecDepth 20000 in
theorem ggX2_comes_X3_visitFact : GoodIn wsX2_comes wsX3_visitFact := goodIn_r _ [10, 11, 18, 19, 20, 21, 22, 23] (by decide +kernel) (by decide +kernel)
set_option maxRecDepth 20000 in
theorem gX2_comes_X3_visitFact : GoodIn wsX2_comes (wsV RX2 71 RX3 yX3_visitFact wsX3_visitFact) := goodIn_app (goodIn_of _ (by decide +kernel)) ggX2_comes_X3_visitFact
set_option maxRecDepth 20000 in
theorem ggX2_comes_X2_driveFact : GoodIn wsX2_comes wsX2_driveFact := goodIn_r _ [16, 17, 24, 25, 26, 27, 28, 29, 30] (by decide +kernel) (by decide +kernel)
set_option maxRecDepth 20000 in
theorem gX2_comes_X2_driveFact : GoodIn wsX2_comes (wsV RX2 57 RX2 yX2_driveFact wsX2_driveFact) := goodIn_app (goodIn_of _ (by decide +kernel)) ggX2_comes_X2_driveFact
theorem dX2_comes_0 : decode cX2_comes 0 = .ok (.aload_n 1, 1) := by decide +kernel
theorem dX2_comes_1 : decode cX2_comes 1 = .ok (.iload_n 3, 1) := by decide +kernel
theorem dX2_comes_2 : decode cX2_comes 2 = .ok (.iconst 0, 1) := by decide +kernel
theorem dX2_comes_3 : decode cX2_comes 3 = .ok (.invokevirtual 71, 3) := by decide +kernel
theorem dX2_comes_6 : decode cX2_comes 6 = .ok (.aload_n 0, 1) := by decide +kernel
theorem dX2_comes_7 : decode cX2_comes 7 = .ok (.iload_n 2, 1) := by decide +kernel
theorem dX2_comes_8 : decode cX2_comes 8 = .ok (.iconst 4, 1) := by decide +kernel
theorem dX2_comes_9 : decode cX2_comes 9 = .ok (.invokevirtual 57, 3) := by decide +kernel
theorem dX2_comes_12 : decode cX2_comes 12 = .ok (.isub, 1) := by decide +kernel
theorem dX2_comes_13 : decode cX2_comes 13 = .ok (.invokestatic 105, 3) := by decide +kernel
theorem dX2_comes_16 : decode cX2_comes 16 = .ok (.istore 4, 2) := by decide +kernel
theorem dX2_comes_18 : decode cX2_comes 18 = .ok (.aload_n 0, 1) := by decide +kernel
theorem dX2_comes_19 : decode cX2_comes 19 = .ok (.iload_n 2, 1) := by decide +kernel
theorem dX2_comes_20 : decode cX2_comes 20 = .ok (.iconst 3, 1) := by decide +kernel
theorem dX2_comes_21 : decode cX2_comes 21 = .ok (.invokevirtual 57, 3) := by decide +kernel
theorem dX2_comes_24 : decode cX2_comes 24 = .ok (.iload 4, 2) := by decide +kernel
theorem dX2_comes_26 : decode cX2_comes 26 = .ok (.aload_n 1, 1) := by decide +kernel
theorem dX2_comes_27 : decode cX2_comes 27 = .ok (.getfield 74, 3) := by decide +kernel
theorem dX2_comes_30 : decode cX2_comes 30 = .ok (.iconst 0, 1) := by decide +kernel
theorem dX2_comes_31 : decode cX2_comes 31 = .ok (.iaload, 1) := by decide +kernel
theorem dX2_comes_32 : decode cX2_comes 32 = .ok (.imul, 1) := by decide +kernel
theorem dX2_comes_33 : decode cX2_comes 33 = .ok (.iadd, 1) := by decide +kernel
theorem dX2_comes_34 : decode cX2_comes 34 = .ok (.ireturn, 1) := by decide +kernel
set_option maxRecDepth 20000 in
theorem ggX2_reason_X2_hasSkill : GoodIn wsX2_reason wsX2_hasSkill := goodIn_r _ [6, 7, 8, 9, 10, 11, 12, 13, 14, 15, 16, 17, 34, 35, 36, 37, 38, 39] (by decide +kernel) (by decide +kernel)
set_option maxRecDepth 20000 in
theorem gX2_reason_X2_hasSkill : GoodIn wsX2_reason (wsV RX2 95 RX2 yX2_hasSkill wsX2_hasSkill) := goodIn_app (goodIn_of _ (by decide +kernel)) ggX2_reason_X2_hasSkill
set_option maxRecDepth 20000 in
theorem ggX2_reason_X2_hasParts : GoodIn wsX2_reason wsX2_hasParts := goodIn_r _ [21, 13, 14, 15, 10, 16, 17, 22, 23, 24, 5, 25, 26, 34, 35, 36, 37, 38, 39, 27, 28, 29, 30, 31, 32, 33] (by decide +kernel) (by decide +kernel)
set_option maxRecDepth 20000 in
theorem gX2_reason_X2_hasParts : GoodIn wsX2_reason (wsV RX2 99 RX2 yX2_hasParts wsX2_hasParts) := goodIn_app (goodIn_of _ (by decide +kernel)) ggX2_reason_X2_hasParts
theorem dX2_reason_0 : decode cX2_reason 0 = .ok (.iconst 2, 1) := by decide +kernel
theorem dX2_reason_1 : decode cX2_reason 1 = .ok (.istore_n 3, 1) := by decide +kernel
theorem dX2_reason_2 : decode cX2_reason 2 = .ok (.iconst 0, 1) := by decide +kernel
theorem dX2_reason_3 : decode cX2_reason 3 = .ok (.istore 4, 2) := by decide +kernel
theorem dX2_reason_5 : decode cX2_reason 5 = .ok (.iload 4, 2) := by decide +kernel
theorem dX2_reason_7 : decode cX2_reason 7 = .ok (.aload_n 0, 1) := by decide +kernel
theorem dX2_reason_8 : decode cX2_reason 8 = .ok (.getfield 37, 3) := by decide +kernel
theorem dX2_reason_11 : decode cX2_reason 11 = .ok (.if_icmp .ge 35, 3) := by decide +kernel
theorem dX2_reason_14 : decode cX2_reason 14 = .ok (.aload_n 0, 1) := by decide +kernel
theorem dX2_reason_15 : decode cX2_reason 15 = .ok (.aload_n 1, 1) := by decide +kernel
theorem dX2_reason_16 : decode cX2_reason 16 = .ok (.iload 4, 2) := by decide +kernel
theorem dX2_reason_18 : decode cX2_reason 18 = .ok (.iload_n 2, 1) := by decide +kernel
theorem dX2_reason_19 : decode cX2_reason 19 = .ok (.invokevirtual 95, 3) := by decide +kernel
theorem dX2_reason_22 : decode cX2_reason 22 = .ok (.ifCond .eq 18, 3) := by decide +kernel
theorem dX2_reason_25 : decode cX2_reason 25 = .ok (.aload_n 0, 1) := by decide +kernel
theorem dX2_reason_26 : decode cX2_reason 26 = .ok (.aload_n 1, 1) := by decide +kernel
theorem dX2_reason_27 : decode cX2_reason 27 = .ok (.iload 4, 2) := by decide +kernel
theorem dX2_reason_29 : decode cX2_reason 29 = .ok (.iload_n 2, 1) := by decide +kernel
theorem dX2_reason_30 : decode cX2_reason 30 = .ok (.invokevirtual 99, 3) := by decide +kernel
theorem dX2_reason_33 : decode cX2_reason 33 = .ok (.ifCond .eq 5, 3) := by decide +kernel
theorem dX2_reason_36 : decode cX2_reason 36 = .ok (.iconst 4, 1) := by decide +kernel
theorem dX2_reason_37 : decode cX2_reason 37 = .ok (.ireturn, 1) := by decide +kernel
theorem dX2_reason_38 : decode cX2_reason 38 = .ok (.iconst 3, 1) := by decide +kernel
theorem dX2_reason_39 : decode cX2_reason 39 = .ok (.istore_n 3, 1) := by decide +kernel
theorem dX2_reason_40 : decode cX2_reason 40 = .ok (.iinc 4 1, 3) := by decide +kernel
theorem dX2_reason_43 : decode cX2_reason 43 = .ok (.goto (-38), 3) := by decide +kernel
theorem dX2_reason_46 : decode cX2_reason 46 = .ok (.iload_n 3, 1) := by decide +kernel
theorem dX2_reason_47 : decode cX2_reason 47 = .ok (.ireturn, 1) := by decide +kernel
theorem dX2_putOutcome_0 : decode cX2_putOutcome 0 = .ok (.iload_n 1, 1) := by decide +kernel
theorem dX2_putOutcome_1 : decode cX2_putOutcome 1 = .ok (.iconst 4, 1) := by decide +kernel
theorem dX2_putOutcome_2 : decode cX2_putOutcome 2 = .ok (.imul, 1) := by decide +kernel
theorem dX2_putOutcome_3 : decode cX2_putOutcome 3 = .ok (.istore 6, 2) := by decide +kernel
theorem dX2_putOutcome_5 : decode cX2_putOutcome 5 = .ok (.aload_n 0, 1) := by decide +kernel
theorem dX2_putOutcome_6 : decode cX2_putOutcome 6 = .ok (.getfield 15, 3) := by decide +kernel
theorem dX2_putOutcome_9 : decode cX2_putOutcome 9 = .ok (.iload 6, 2) := by decide +kernel
theorem dX2_putOutcome_11 : decode cX2_putOutcome 11 = .ok (.iconst 0, 1) := by decide +kernel
theorem dX2_putOutcome_12 : decode cX2_putOutcome 12 = .ok (.iadd, 1) := by decide +kernel
theorem dX2_putOutcome_13 : decode cX2_putOutcome 13 = .ok (.iload_n 2, 1) := by decide +kernel
theorem dX2_putOutcome_14 : decode cX2_putOutcome 14 = .ok (.iastore, 1) := by decide +kernel
theorem dX2_putOutcome_15 : decode cX2_putOutcome 15 = .ok (.aload_n 0, 1) := by decide +kernel
theorem dX2_putOutcome_16 : decode cX2_putOutcome 16 = .ok (.getfield 15, 3) := by decide +kernel
theorem dX2_putOutcome_19 : decode cX2_putOutcome 19 = .ok (.iload 6, 2) := by decide +kernel
theorem dX2_putOutcome_21 : decode cX2_putOutcome 21 = .ok (.iconst 1, 1) := by decide +kernel
theorem dX2_putOutcome_22 : decode cX2_putOutcome 22 = .ok (.iadd, 1) := by decide +kernel
theorem dX2_putOutcome_23 : decode cX2_putOutcome 23 = .ok (.iload_n 3, 1) := by decide +kernel
theorem dX2_putOutcome_24 : decode cX2_putOutcome 24 = .ok (.iastore, 1) := by decide +kernel
theorem dX2_putOutcome_25 : decode cX2_putOutcome 25 = .ok (.aload_n 0, 1) := by decide +kernel
theorem dX2_putOutcome_26 : decode cX2_putOutcome 26 = .ok (.getfield 15, 3) := by decide +kernel
theorem dX2_putOutcome_29 : decode cX2_putOutcome 29 = .ok (.iload 6, 2) := by decide +kernel
theorem dX2_putOutcome_31 : decode cX2_putOutcome 31 = .ok (.iconst 2, 1) := by decide +kernel
theorem dX2_putOutcome_32 : decode cX2_putOutcome 32 = .ok (.iadd, 1) := by decide +kernel
theorem dX2_putOutcome_33 : decode cX2_putOutcome 33 = .ok (.iload 4, 2) := by decide +kernel
theorem dX2_putOutcome_35 : decode cX2_putOutcome 35 = .ok (.iastore, 1) := by decide +kernel
theorem dX2_putOutcome_36 : decode cX2_putOutcome 36 = .ok (.aload_n 0, 1) := by decide +kernel
theorem dX2_putOutcome_37 : decode cX2_putOutcome 37 = .ok (.getfield 15, 3) := by decide +kernel
theorem dX2_putOutcome_40 : decode cX2_putOutcome 40 = .ok (.iload 6, 2) := by decide +kernel
theorem dX2_putOutcome_42 : decode cX2_putOutcome 42 = .ok (.iconst 3, 1) := by decide +kernel
theorem dX2_putOutcome_43 : decode cX2_putOutcome 43 = .ok (.iadd, 1) := by decide +kernel
theorem dX2_putOutcome_44 : decode cX2_putOutcome 44 = .ok (.iload 5, 2) := by decide +kernel
theorem dX2_putOutcome_46 : decode cX2_putOutcome 46 = .ok (.iastore, 1) := by decide +kernel
theorem dX2_putOutcome_47 : decode cX2_putOutcome 47 = .ok (.return_, 1) := by decide +kernel
set_option maxRecDepth 20000 in
theorem ggX2_drive_X2_comes : GoodIn wsX2_drive wsX2_comes := goodIn_r _ [7, 8, 9, 10, 11, 12, 13, 14, 15, 16, 17, 18, 19, 20, 21, 6, 22, 1, 40, 41, 42, 43, 44, 45, 33, 34, 35, 36, 37, 38, 39] (by decide +kernel) (by decide +kernel)
set_option maxRecDepth 20000 in
theorem gX2_drive_X2_comes : GoodIn wsX2_drive (wsV RX2 89 RX2 yX2_comes wsX2_comes) := goodIn_app (goodIn_of _ (by decide +kernel)) ggX2_drive_X2_comes
set_option maxRecDepth 20000 in
theorem ggX2_drive_X2_outcome : GoodIn wsX2_drive wsX2_outcome := goodIn_r _ [26, 27, 33, 34, 35, 36, 37, 38, 39] (by decide +kernel) (by decide +kernel)
set_option maxRecDepth 20000 in
theorem gX2_drive_X2_outcome : GoodIn wsX2_drive (wsV RX2 49 RX2 yX2_outcome wsX2_outcome) := goodIn_app (goodIn_of _ (by decide +kernel)) ggX2_drive_X2_outcome
set_option maxRecDepth 20000 in
theorem ggX2_drive_X2_addEvent : GoodIn wsX2_drive wsX2_addEvent := goodIn_r _ [31, 32, 1, 19, 20, 21, 6, 22, 33, 34, 35, 36, 37, 38, 39] (by decide +kernel) (by decide +kernel)
set_option maxRecDepth 20000 in
theorem gX2_drive_X2_addEvent : GoodIn wsX2_drive (wsV RX2 108 RX2 yX2_addEvent wsX2_addEvent) := goodIn_app (goodIn_of _ (by decide +kernel)) ggX2_drive_X2_addEvent
set_option maxRecDepth 20000 in
theorem ggX2_drive_X3_visitFact : GoodIn wsX2_drive wsX3_visitFact := goodIn_r _ [17, 18, 40, 41, 42, 43, 44, 45] (by decide +kernel) (by decide +kernel)
set_option maxRecDepth 20000 in
theorem gX2_drive_X3_visitFact : GoodIn wsX2_drive (wsV RX2 71 RX3 yX3_visitFact wsX3_visitFact) := goodIn_app (goodIn_of _ (by decide +kernel)) ggX2_drive_X3_visitFact
theorem dX2_drive_0 : decode cX2_drive 0 = .ok (.iload_n 2, 1) := by decide +kernel
theorem dX2_drive_1 : decode cX2_drive 1 = .ok (.bipush 6, 2) := by decide +kernel
theorem dX2_drive_3 : decode cX2_drive 3 = .ok (.imul, 1) := by decide +kernel
theorem dX2_drive_4 : decode cX2_drive 4 = .ok (.istore 4, 2) := by decide +kernel
theorem dX2_drive_6 : decode cX2_drive 6 = .ok (.aload_n 0, 1) := by decide +kernel
theorem dX2_drive_7 : decode cX2_drive 7 = .ok (.getfield 18, 3) := by decide +kernel
theorem dX2_drive_10 : decode cX2_drive 10 = .ok (.iload 4, 2) := by decide +kernel
theorem dX2_drive_12 : decode cX2_drive 12 = .ok (.iconst 3, 1) := by decide +kernel
theorem dX2_drive_13 : decode cX2_drive 13 = .ok (.iadd, 1) := by decide +kernel
theorem dX2_drive_14 : decode cX2_drive 14 = .ok (.iaload, 1) := by decide +kernel
theorem dX2_drive_15 : decode cX2_drive 15 = .ok (.istore 5, 2) := by decide +kernel
theorem dX2_drive_17 : decode cX2_drive 17 = .ok (.aload_n 0, 1) := by decide +kernel
theorem dX2_drive_18 : decode cX2_drive 18 = .ok (.aload_n 1, 1) := by decide +kernel
theorem dX2_drive_19 : decode cX2_drive 19 = .ok (.iload_n 2, 1) := by decide +kernel
theorem dX2_drive_20 : decode cX2_drive 20 = .ok (.iload_n 3, 1) := by decide +kernel
theorem dX2_drive_21 : decode cX2_drive 21 = .ok (.invokevirtual 89, 3) := by decide +kernel
theorem dX2_drive_24 : decode cX2_drive 24 = .ok (.istore 6, 2) := by decide +kernel
theorem dX2_drive_26 : decode cX2_drive 26 = .ok (.aload_n 0, 1) := by decide +kernel
theorem dX2_drive_27 : decode cX2_drive 27 = .ok (.iload_n 3, 1) := by decide +kernel
theorem dX2_drive_28 : decode cX2_drive 28 = .ok (.iconst 2, 1) := by decide +kernel
theorem dX2_drive_29 : decode cX2_drive 29 = .ok (.invokevirtual 49, 3) := by decide +kernel
theorem dX2_drive_32 : decode cX2_drive 32 = .ok (.istore 7, 2) := by decide +kernel
theorem dX2_drive_34 : decode cX2_drive 34 = .ok (.aload_n 0, 1) := by decide +kernel
theorem dX2_drive_35 : decode cX2_drive 35 = .ok (.iload_n 3, 1) := by decide +kernel
theorem dX2_drive_36 : decode cX2_drive 36 = .ok (.iconst 3, 1) := by decide +kernel
theorem dX2_drive_37 : decode cX2_drive 37 = .ok (.invokevirtual 49, 3) := by decide +kernel
theorem dX2_drive_40 : decode cX2_drive 40 = .ok (.istore 8, 2) := by decide +kernel
theorem dX2_drive_42 : decode cX2_drive 42 = .ok (.aload_n 0, 1) := by decide +kernel
theorem dX2_drive_43 : decode cX2_drive 43 = .ok (.iload_n 2, 1) := by decide +kernel
theorem dX2_drive_44 : decode cX2_drive 44 = .ok (.iconst 0, 1) := by decide +kernel
theorem dX2_drive_45 : decode cX2_drive 45 = .ok (.iload 5, 2) := by decide +kernel
theorem dX2_drive_47 : decode cX2_drive 47 = .ok (.iload 6, 2) := by decide +kernel
theorem dX2_drive_49 : decode cX2_drive 49 = .ok (.iload_n 3, 1) := by decide +kernel
theorem dX2_drive_50 : decode cX2_drive 50 = .ok (.invokevirtual 108, 3) := by decide +kernel
theorem dX2_drive_53 : decode cX2_drive 53 = .ok (.aload_n 0, 1) := by decide +kernel
theorem dX2_drive_54 : decode cX2_drive 54 = .ok (.iload_n 2, 1) := by decide +kernel
theorem dX2_drive_55 : decode cX2_drive 55 = .ok (.iconst 1, 1) := by decide +kernel
theorem dX2_drive_56 : decode cX2_drive 56 = .ok (.iload 6, 2) := by decide +kernel
theorem dX2_drive_58 : decode cX2_drive 58 = .ok (.iload 7, 2) := by decide +kernel
theorem dX2_drive_60 : decode cX2_drive 60 = .ok (.iload_n 3, 1) := by decide +kernel
theorem dX2_drive_61 : decode cX2_drive 61 = .ok (.invokevirtual 108, 3) := by decide +kernel
theorem dX2_drive_64 : decode cX2_drive 64 = .ok (.aload_n 0, 1) := by decide +kernel
theorem dX2_drive_65 : decode cX2_drive 65 = .ok (.iload_n 2, 1) := by decide +kernel
theorem dX2_drive_66 : decode cX2_drive 66 = .ok (.iconst 2, 1) := by decide +kernel
theorem dX2_drive_67 : decode cX2_drive 67 = .ok (.iload 7, 2) := by decide +kernel
theorem dX2_drive_69 : decode cX2_drive 69 = .ok (.iload 8, 2) := by decide +kernel
theorem dX2_drive_71 : decode cX2_drive 71 = .ok (.iload_n 3, 1) := by decide +kernel
theorem dX2_drive_72 : decode cX2_drive 72 = .ok (.invokevirtual 108, 3) := by decide +kernel
theorem dX2_drive_75 : decode cX2_drive 75 = .ok (.aload_n 0, 1) := by decide +kernel
theorem dX2_drive_76 : decode cX2_drive 76 = .ok (.getfield 18, 3) := by decide +kernel
theorem dX2_drive_79 : decode cX2_drive 79 = .ok (.iload 4, 2) := by decide +kernel
theorem dX2_drive_81 : decode cX2_drive 81 = .ok (.iconst 0, 1) := by decide +kernel
theorem dX2_drive_82 : decode cX2_drive 82 = .ok (.iadd, 1) := by decide +kernel
theorem dX2_drive_83 : decode cX2_drive 83 = .ok (.dup2, 1) := by decide +kernel
theorem dX2_drive_84 : decode cX2_drive 84 = .ok (.iaload, 1) := by decide +kernel
theorem dX2_drive_85 : decode cX2_drive 85 = .ok (.iconst 1, 1) := by decide +kernel
theorem dX2_drive_86 : decode cX2_drive 86 = .ok (.iload_n 3, 1) := by decide +kernel
theorem dX2_drive_87 : decode cX2_drive 87 = .ok (.ishl, 1) := by decide +kernel
theorem dX2_drive_88 : decode cX2_drive 88 = .ok (.ior, 1) := by decide +kernel
theorem dX2_drive_89 : decode cX2_drive 89 = .ok (.iastore, 1) := by decide +kernel
theorem dX2_drive_90 : decode cX2_drive 90 = .ok (.aload_n 0, 1) := by decide +kernel
theorem dX2_drive_91 : decode cX2_drive 91 = .ok (.getfield 18, 3) := by decide +kernel
theorem dX2_drive_94 : decode cX2_drive 94 = .ok (.iload 4, 2) := by decide +kernel
theorem dX2_drive_96 : decode cX2_drive 96 = .ok (.iconst 1, 1) := by decide +kernel
theorem dX2_drive_97 : decode cX2_drive 97 = .ok (.iadd, 1) := by decide +kernel
theorem dX2_drive_98 : decode cX2_drive 98 = .ok (.dup2, 1) := by decide +kernel
theorem dX2_drive_99 : decode cX2_drive 99 = .ok (.iaload, 1) := by decide +kernel
theorem dX2_drive_100 : decode cX2_drive 100 = .ok (.iload 6, 2) := by decide +kernel
theorem dX2_drive_102 : decode cX2_drive 102 = .ok (.iload 5, 2) := by decide +kernel
theorem dX2_drive_104 : decode cX2_drive 104 = .ok (.isub, 1) := by decide +kernel
theorem dX2_drive_105 : decode cX2_drive 105 = .ok (.iadd, 1) := by decide +kernel
theorem dX2_drive_106 : decode cX2_drive 106 = .ok (.iastore, 1) := by decide +kernel
theorem dX2_drive_107 : decode cX2_drive 107 = .ok (.aload_n 0, 1) := by decide +kernel
theorem dX2_drive_108 : decode cX2_drive 108 = .ok (.getfield 18, 3) := by decide +kernel
theorem dX2_drive_111 : decode cX2_drive 111 = .ok (.iload 4, 2) := by decide +kernel
theorem dX2_drive_113 : decode cX2_drive 113 = .ok (.iconst 2, 1) := by decide +kernel
theorem dX2_drive_114 : decode cX2_drive 114 = .ok (.iadd, 1) := by decide +kernel
theorem dX2_drive_115 : decode cX2_drive 115 = .ok (.dup2, 1) := by decide +kernel
theorem dX2_drive_116 : decode cX2_drive 116 = .ok (.iaload, 1) := by decide +kernel
theorem dX2_drive_117 : decode cX2_drive 117 = .ok (.iload 7, 2) := by decide +kernel
theorem dX2_drive_119 : decode cX2_drive 119 = .ok (.iload 6, 2) := by decide +kernel
theorem dX2_drive_121 : decode cX2_drive 121 = .ok (.isub, 1) := by decide +kernel
theorem dX2_drive_122 : decode cX2_drive 122 = .ok (.iadd, 1) := by decide +kernel
theorem dX2_drive_123 : decode cX2_drive 123 = .ok (.iastore, 1) := by decide +kernel
theorem dX2_drive_124 : decode cX2_drive 124 = .ok (.aload_n 0, 1) := by decide +kernel
theorem dX2_drive_125 : decode cX2_drive 125 = .ok (.getfield 18, 3) := by decide +kernel
theorem dX2_drive_128 : decode cX2_drive 128 = .ok (.iload 4, 2) := by decide +kernel
theorem dX2_drive_130 : decode cX2_drive 130 = .ok (.iconst 3, 1) := by decide +kernel
theorem dX2_drive_131 : decode cX2_drive 131 = .ok (.iadd, 1) := by decide +kernel
theorem dX2_drive_132 : decode cX2_drive 132 = .ok (.iload 8, 2) := by decide +kernel
theorem dX2_drive_134 : decode cX2_drive 134 = .ok (.iastore, 1) := by decide +kernel
theorem dX2_drive_135 : decode cX2_drive 135 = .ok (.aload_n 0, 1) := by decide +kernel
theorem dX2_drive_136 : decode cX2_drive 136 = .ok (.getfield 18, 3) := by decide +kernel
theorem dX2_drive_139 : decode cX2_drive 139 = .ok (.iload 4, 2) := by decide +kernel
theorem dX2_drive_141 : decode cX2_drive 141 = .ok (.iconst 4, 1) := by decide +kernel
theorem dX2_drive_142 : decode cX2_drive 142 = .ok (.iadd, 1) := by decide +kernel
theorem dX2_drive_143 : decode cX2_drive 143 = .ok (.aload_n 1, 1) := by decide +kernel
theorem dX2_drive_144 : decode cX2_drive 144 = .ok (.iload_n 3, 1) := by decide +kernel
theorem dX2_drive_145 : decode cX2_drive 145 = .ok (.iconst 0, 1) := by decide +kernel
theorem dX2_drive_146 : decode cX2_drive 146 = .ok (.invokevirtual 71, 3) := by decide +kernel
theorem dX2_drive_149 : decode cX2_drive 149 = .ok (.iastore, 1) := by decide +kernel
theorem dX2_drive_150 : decode cX2_drive 150 = .ok (.aload_n 0, 1) := by decide +kernel
theorem dX2_drive_151 : decode cX2_drive 151 = .ok (.getfield 21, 3) := by decide +kernel
theorem dX2_drive_154 : decode cX2_drive 154 = .ok (.iload_n 2, 1) := by decide +kernel
theorem dX2_drive_155 : decode cX2_drive 155 = .ok (.iconst 5, 1) := by decide +kernel
theorem dX2_drive_156 : decode cX2_drive 156 = .ok (.imul, 1) := by decide +kernel
theorem dX2_drive_157 : decode cX2_drive 157 = .ok (.aload_n 1, 1) := by decide +kernel
theorem dX2_drive_158 : decode cX2_drive 158 = .ok (.iload_n 3, 1) := by decide +kernel
theorem dX2_drive_159 : decode cX2_drive 159 = .ok (.iconst 2, 1) := by decide +kernel
theorem dX2_drive_160 : decode cX2_drive 160 = .ok (.invokevirtual 71, 3) := by decide +kernel
theorem dX2_drive_163 : decode cX2_drive 163 = .ok (.iadd, 1) := by decide +kernel
theorem dX2_drive_164 : decode cX2_drive 164 = .ok (.dup2, 1) := by decide +kernel
theorem dX2_drive_165 : decode cX2_drive 165 = .ok (.iaload, 1) := by decide +kernel
theorem dX2_drive_166 : decode cX2_drive 166 = .ok (.aload_n 1, 1) := by decide +kernel
theorem dX2_drive_167 : decode cX2_drive 167 = .ok (.iload_n 3, 1) := by decide +kernel
theorem dX2_drive_168 : decode cX2_drive 168 = .ok (.iconst 3, 1) := by decide +kernel
theorem dX2_drive_169 : decode cX2_drive 169 = .ok (.invokevirtual 71, 3) := by decide +kernel
theorem dX2_drive_172 : decode cX2_drive 172 = .ok (.isub, 1) := by decide +kernel
theorem dX2_drive_173 : decode cX2_drive 173 = .ok (.iastore, 1) := by decide +kernel
theorem dX2_drive_174 : decode cX2_drive 174 = .ok (.return_, 1) := by decide +kernel
set_option maxRecDepth 20000 in
theorem ggX2_addEvent_X2_driveFact : GoodIn wsX2_addEvent wsX2_driveFact := goodIn_r _ [7, 2, 8, 9, 10, 11, 12, 13, 14] (by decide +kernel) (by decide +kernel)
set_option maxRecDepth 20000 in
theorem gX2_addEvent_X2_driveFact : GoodIn wsX2_addEvent (wsV RX2 57 RX2 yX2_driveFact wsX2_driveFact) := goodIn_app (goodIn_of _ (by decide +kernel)) ggX2_addEvent_X2_driveFact
theorem dX2_addEvent_0 : decode cX2_addEvent 0 = .ok (.aload_n 0, 1) := by decide +kernel
theorem dX2_addEvent_1 : decode cX2_addEvent 1 = .ok (.iload_n 1, 1) := by decide +kernel
theorem dX2_addEvent_2 : decode cX2_addEvent 2 = .ok (.iconst 5, 1) := by decide +kernel
theorem dX2_addEvent_3 : decode cX2_addEvent 3 = .ok (.invokevirtual 57, 3) := by decide +kernel
theorem dX2_addEvent_6 : decode cX2_addEvent 6 = .ok (.istore 6, 2) := by decide +kernel
theorem dX2_addEvent_8 : decode cX2_addEvent 8 = .ok (.iload_n 3, 1) := by decide +kernel
theorem dX2_addEvent_9 : decode cX2_addEvent 9 = .ok (.iload 4, 2) := by decide +kernel
theorem dX2_addEvent_11 : decode cX2_addEvent 11 = .ok (.if_icmp .eq 10, 3) := by decide +kernel
theorem dX2_addEvent_14 : decode cX2_addEvent 14 = .ok (.iload 6, 2) := by decide +kernel
theorem dX2_addEvent_16 : decode cX2_addEvent 16 = .ok (.bipush 63, 2) := by decide +kernel
theorem dX2_addEvent_18 : decode cX2_addEvent 18 = .ok (.if_icmp .lt 4, 3) := by decide +kernel
theorem dX2_addEvent_21 : decode cX2_addEvent 21 = .ok (.return_, 1) := by decide +kernel
theorem dX2_addEvent_22 : decode cX2_addEvent 22 = .ok (.iload_n 1, 1) := by decide +kernel
theorem dX2_addEvent_23 : decode cX2_addEvent 23 = .ok (.bipush 63, 2) := by decide +kernel
theorem dX2_addEvent_25 : decode cX2_addEvent 25 = .ok (.imul, 1) := by decide +kernel
theorem dX2_addEvent_26 : decode cX2_addEvent 26 = .ok (.iload 6, 2) := by decide +kernel
theorem dX2_addEvent_28 : decode cX2_addEvent 28 = .ok (.iadd, 1) := by decide +kernel
theorem dX2_addEvent_29 : decode cX2_addEvent 29 = .ok (.iconst 4, 1) := by decide +kernel
theorem dX2_addEvent_30 : decode cX2_addEvent 30 = .ok (.imul, 1) := by decide +kernel
theorem dX2_addEvent_31 : decode cX2_addEvent 31 = .ok (.istore 7, 2) := by decide +kernel
theorem dX2_addEvent_33 : decode cX2_addEvent 33 = .ok (.aload_n 0, 1) := by decide +kernel
theorem dX2_addEvent_34 : decode cX2_addEvent 34 = .ok (.getfield 24, 3) := by decide +kernel
theorem dX2_addEvent_37 : decode cX2_addEvent 37 = .ok (.iload 7, 2) := by decide +kernel
theorem dX2_addEvent_39 : decode cX2_addEvent 39 = .ok (.iconst 0, 1) := by decide +kernel
theorem dX2_addEvent_40 : decode cX2_addEvent 40 = .ok (.iadd, 1) := by decide +kernel
theorem dX2_addEvent_41 : decode cX2_addEvent 41 = .ok (.iload_n 2, 1) := by decide +kernel
theorem dX2_addEvent_42 : decode cX2_addEvent 42 = .ok (.iastore, 1) := by decide +kernel
theorem dX2_addEvent_43 : decode cX2_addEvent 43 = .ok (.aload_n 0, 1) := by decide +kernel
theorem dX2_addEvent_44 : decode cX2_addEvent 44 = .ok (.getfield 24, 3) := by decide +kernel
theorem dX2_addEvent_47 : decode cX2_addEvent 47 = .ok (.iload 7, 2) := by decide +kernel
theorem dX2_addEvent_49 : decode cX2_addEvent 49 = .ok (.iconst 1, 1) := by decide +kernel
theorem dX2_addEvent_50 : decode cX2_addEvent 50 = .ok (.iadd, 1) := by decide +kernel
theorem dX2_addEvent_51 : decode cX2_addEvent 51 = .ok (.iload_n 3, 1) := by decide +kernel
theorem dX2_addEvent_52 : decode cX2_addEvent 52 = .ok (.iastore, 1) := by decide +kernel
theorem dX2_addEvent_53 : decode cX2_addEvent 53 = .ok (.aload_n 0, 1) := by decide +kernel
theorem dX2_addEvent_54 : decode cX2_addEvent 54 = .ok (.getfield 24, 3) := by decide +kernel
theorem dX2_addEvent_57 : decode cX2_addEvent 57 = .ok (.iload 7, 2) := by decide +kernel
theorem dX2_addEvent_59 : decode cX2_addEvent 59 = .ok (.iconst 2, 1) := by decide +kernel
theorem dX2_addEvent_60 : decode cX2_addEvent 60 = .ok (.iadd, 1) := by decide +kernel
theorem dX2_addEvent_61 : decode cX2_addEvent 61 = .ok (.iload 4, 2) := by decide +kernel
theorem dX2_addEvent_63 : decode cX2_addEvent 63 = .ok (.iastore, 1) := by decide +kernel
theorem dX2_addEvent_64 : decode cX2_addEvent 64 = .ok (.aload_n 0, 1) := by decide +kernel
theorem dX2_addEvent_65 : decode cX2_addEvent 65 = .ok (.getfield 24, 3) := by decide +kernel
theorem dX2_addEvent_68 : decode cX2_addEvent 68 = .ok (.iload 7, 2) := by decide +kernel
theorem dX2_addEvent_70 : decode cX2_addEvent 70 = .ok (.iconst 3, 1) := by decide +kernel
theorem dX2_addEvent_71 : decode cX2_addEvent 71 = .ok (.iadd, 1) := by decide +kernel
theorem dX2_addEvent_72 : decode cX2_addEvent 72 = .ok (.iload 5, 2) := by decide +kernel
theorem dX2_addEvent_74 : decode cX2_addEvent 74 = .ok (.iastore, 1) := by decide +kernel
theorem dX2_addEvent_75 : decode cX2_addEvent 75 = .ok (.aload_n 0, 1) := by decide +kernel
theorem dX2_addEvent_76 : decode cX2_addEvent 76 = .ok (.getfield 18, 3) := by decide +kernel
theorem dX2_addEvent_79 : decode cX2_addEvent 79 = .ok (.iload_n 1, 1) := by decide +kernel
theorem dX2_addEvent_80 : decode cX2_addEvent 80 = .ok (.bipush 6, 2) := by decide +kernel
theorem dX2_addEvent_82 : decode cX2_addEvent 82 = .ok (.imul, 1) := by decide +kernel
theorem dX2_addEvent_83 : decode cX2_addEvent 83 = .ok (.iconst 5, 1) := by decide +kernel
theorem dX2_addEvent_84 : decode cX2_addEvent 84 = .ok (.iadd, 1) := by decide +kernel
theorem dX2_addEvent_85 : decode cX2_addEvent 85 = .ok (.iload 6, 2) := by decide +kernel
theorem dX2_addEvent_87 : decode cX2_addEvent 87 = .ok (.iconst 1, 1) := by decide +kernel
theorem dX2_addEvent_88 : decode cX2_addEvent 88 = .ok (.iadd, 1) := by decide +kernel
theorem dX2_addEvent_89 : decode cX2_addEvent 89 = .ok (.iastore, 1) := by decide +kernel
theorem dX2_addEvent_90 : decode cX2_addEvent 90 = .ok (.return_, 1) := by decide +kernel
end
section
theorem dX3_init_0 : decode cX3_init 0 = .ok (.aload_n 0, 1) := by decide +kernel
theorem dX3_init_1 : decode cX3_init 1 = .ok (.invokespecial 3, 3) := by decide +kernel
theorem dX3_init_4 : decode cX3_init 4 = .ok (.aload_n 0, 1) := by decide +kernel
theorem dX3_init_5 : decode cX3_init 5 = .ok (.getstatic 9, 3) := by decide +kernel
theorem dX3_init_8 : decode cX3_init 8 = .ok (.invokevirtual 13, 3) := by decide +kernel
theorem dX3_init_11 : decode cX3_init 11 = .ok (.checkcast 14, 3) := by decide +kernel
theorem dX3_init_14 : decode cX3_init 14 = .ok (.putfield 18, 3) := by decide +kernel
theorem dX3_init_17 : decode cX3_init 17 = .ok (.aload_n 0, 1) := by decide +kernel
theorem dX3_init_18 : decode cX3_init 18 = .ok (.bipush 126, 2) := by decide +kernel
theorem dX3_init_20 : decode cX3_init 20 = .ok (.newarray .int, 2) := by decide +kernel
theorem dX3_init_22 : decode cX3_init 22 = .ok (.putfield 23, 3) := by decide +kernel
theorem dX3_init_25 : decode cX3_init 25 = .ok (.aload_n 0, 1) := by decide +kernel
theorem dX3_init_26 : decode cX3_init 26 = .ok (.bipush 8, 2) := by decide +kernel
theorem dX3_init_28 : decode cX3_init 28 = .ok (.newarray .int, 2) := by decide +kernel
theorem dX3_init_30 : decode cX3_init 30 = .ok (.putfield 26, 3) := by decide +kernel
theorem dX3_init_33 : decode cX3_init 33 = .ok (.aload_n 0, 1) := by decide +kernel
theorem dX3_init_34 : decode cX3_init 34 = .ok (.bipush 20, 2) := by decide +kernel
theorem dX3_init_36 : decode cX3_init 36 = .ok (.newarray .int, 2) := by decide +kernel
theorem dX3_init_38 : decode cX3_init 38 = .ok (.putfield 29, 3) := by decide +kernel
theorem dX3_init_41 : decode cX3_init 41 = .ok (.return_, 1) := by decide +kernel
theorem dX3_copyFrom_0 : decode cX3_copyFrom 0 = .ok (.aload_n 1, 1) := by decide +kernel
theorem dX3_copyFrom_1 : decode cX3_copyFrom 1 = .ok (.getfield 18, 3) := by decide +kernel
theorem dX3_copyFrom_4 : decode cX3_copyFrom 4 = .ok (.iconst 0, 1) := by decide +kernel
theorem dX3_copyFrom_5 : decode cX3_copyFrom 5 = .ok (.aload_n 0, 1) := by decide +kernel
theorem dX3_copyFrom_6 : decode cX3_copyFrom 6 = .ok (.getfield 18, 3) := by decide +kernel
theorem dX3_copyFrom_9 : decode cX3_copyFrom 9 = .ok (.iconst 0, 1) := by decide +kernel
theorem dX3_copyFrom_10 : decode cX3_copyFrom 10 = .ok (.iconst 3, 1) := by decide +kernel
theorem dX3_copyFrom_11 : decode cX3_copyFrom 11 = .ok (.invokestatic 32, 3) := by decide +kernel
theorem dX3_copyFrom_14 : decode cX3_copyFrom 14 = .ok (.aload_n 1, 1) := by decide +kernel
theorem dX3_copyFrom_15 : decode cX3_copyFrom 15 = .ok (.getfield 23, 3) := by decide +kernel
theorem dX3_copyFrom_18 : decode cX3_copyFrom 18 = .ok (.iconst 0, 1) := by decide +kernel
theorem dX3_copyFrom_19 : decode cX3_copyFrom 19 = .ok (.aload_n 0, 1) := by decide +kernel
theorem dX3_copyFrom_20 : decode cX3_copyFrom 20 = .ok (.getfield 23, 3) := by decide +kernel
theorem dX3_copyFrom_23 : decode cX3_copyFrom 23 = .ok (.iconst 0, 1) := by decide +kernel
theorem dX3_copyFrom_24 : decode cX3_copyFrom 24 = .ok (.aload_n 0, 1) := by decide +kernel
theorem dX3_copyFrom_25 : decode cX3_copyFrom 25 = .ok (.getfield 23, 3) := by decide +kernel
theorem dX3_copyFrom_28 : decode cX3_copyFrom 28 = .ok (.arraylength, 1) := by decide +kernel
theorem dX3_copyFrom_29 : decode cX3_copyFrom 29 = .ok (.invokestatic 32, 3) := by decide +kernel
theorem dX3_copyFrom_32 : decode cX3_copyFrom 32 = .ok (.aload_n 1, 1) := by decide +kernel
theorem dX3_copyFrom_33 : decode cX3_copyFrom 33 = .ok (.getfield 26, 3) := by decide +kernel
theorem dX3_copyFrom_36 : decode cX3_copyFrom 36 = .ok (.iconst 0, 1) := by decide +kernel
theorem dX3_copyFrom_37 : decode cX3_copyFrom 37 = .ok (.aload_n 0, 1) := by decide +kernel
theorem dX3_copyFrom_38 : decode cX3_copyFrom 38 = .ok (.getfield 26, 3) := by decide +kernel
theorem dX3_copyFrom_41 : decode cX3_copyFrom 41 = .ok (.iconst 0, 1) := by decide +kernel
theorem dX3_copyFrom_42 : decode cX3_copyFrom 42 = .ok (.aload_n 0, 1) := by decide +kernel
theorem dX3_copyFrom_43 : decode cX3_copyFrom 43 = .ok (.getfield 26, 3) := by decide +kernel
theorem dX3_copyFrom_46 : decode cX3_copyFrom 46 = .ok (.arraylength, 1) := by decide +kernel
theorem dX3_copyFrom_47 : decode cX3_copyFrom 47 = .ok (.invokestatic 32, 3) := by decide +kernel
theorem dX3_copyFrom_50 : decode cX3_copyFrom 50 = .ok (.aload_n 1, 1) := by decide +kernel
theorem dX3_copyFrom_51 : decode cX3_copyFrom 51 = .ok (.getfield 29, 3) := by decide +kernel
theorem dX3_copyFrom_54 : decode cX3_copyFrom 54 = .ok (.iconst 0, 1) := by decide +kernel
theorem dX3_copyFrom_55 : decode cX3_copyFrom 55 = .ok (.aload_n 0, 1) := by decide +kernel
theorem dX3_copyFrom_56 : decode cX3_copyFrom 56 = .ok (.getfield 29, 3) := by decide +kernel
theorem dX3_copyFrom_59 : decode cX3_copyFrom 59 = .ok (.iconst 0, 1) := by decide +kernel
theorem dX3_copyFrom_60 : decode cX3_copyFrom 60 = .ok (.aload_n 0, 1) := by decide +kernel
theorem dX3_copyFrom_61 : decode cX3_copyFrom 61 = .ok (.getfield 29, 3) := by decide +kernel
theorem dX3_copyFrom_64 : decode cX3_copyFrom 64 = .ok (.arraylength, 1) := by decide +kernel
theorem dX3_copyFrom_65 : decode cX3_copyFrom 65 = .ok (.invokestatic 32, 3) := by decide +kernel
theorem dX3_copyFrom_68 : decode cX3_copyFrom 68 = .ok (.aload_n 0, 1) := by decide +kernel
theorem dX3_copyFrom_69 : decode cX3_copyFrom 69 = .ok (.aload_n 1, 1) := by decide +kernel
theorem dX3_copyFrom_70 : decode cX3_copyFrom 70 = .ok (.getfield 38, 3) := by decide +kernel
theorem dX3_copyFrom_73 : decode cX3_copyFrom 73 = .ok (.putfield 38, 3) := by decide +kernel
theorem dX3_copyFrom_76 : decode cX3_copyFrom 76 = .ok (.aload_n 0, 1) := by decide +kernel
theorem dX3_copyFrom_77 : decode cX3_copyFrom 77 = .ok (.aload_n 1, 1) := by decide +kernel
theorem dX3_copyFrom_78 : decode cX3_copyFrom 78 = .ok (.getfield 42, 3) := by decide +kernel
theorem dX3_copyFrom_81 : decode cX3_copyFrom 81 = .ok (.putfield 42, 3) := by decide +kernel
theorem dX3_copyFrom_84 : decode cX3_copyFrom 84 = .ok (.return_, 1) := by decide +kernel
theorem dX3_hasVisit_0 : decode cX3_hasVisit 0 = .ok (.iload_n 1, 1) := by decide +kernel
theorem dX3_hasVisit_1 : decode cX3_hasVisit 1 = .ok (.ifCond .lt 15, 3) := by decide +kernel
theorem dX3_hasVisit_4 : decode cX3_hasVisit 4 = .ok (.iload_n 1, 1) := by decide +kernel
theorem dX3_hasVisit_5 : decode cX3_hasVisit 5 = .ok (.aload_n 0, 1) := by decide +kernel
theorem dX3_hasVisit_6 : decode cX3_hasVisit 6 = .ok (.getfield 38, 3) := by decide +kernel
theorem dX3_hasVisit_9 : decode cX3_hasVisit 9 = .ok (.if_icmp .ge 7, 3) := by decide +kernel
theorem dX3_hasVisit_12 : decode cX3_hasVisit 12 = .ok (.iconst 1, 1) := by decide +kernel
theorem dX3_hasVisit_13 : decode cX3_hasVisit 13 = .ok (.goto 4, 3) := by decide +kernel
theorem dX3_hasVisit_16 : decode cX3_hasVisit 16 = .ok (.iconst 0, 1) := by decide +kernel
theorem dX3_hasVisit_17 : decode cX3_hasVisit 17 = .ok (.ireturn, 1) := by decide +kernel
theorem dX3_hasVan_0 : decode cX3_hasVan 0 = .ok (.iload_n 1, 1) := by decide +kernel
theorem dX3_hasVan_1 : decode cX3_hasVan 1 = .ok (.ifCond .lt 15, 3) := by decide +kernel
theorem dX3_hasVan_4 : decode cX3_hasVan 4 = .ok (.iload_n 1, 1) := by decide +kernel
theorem dX3_hasVan_5 : decode cX3_hasVan 5 = .ok (.aload_n 0, 1) := by decide +kernel
theorem dX3_hasVan_6 : decode cX3_hasVan 6 = .ok (.getfield 42, 3) := by decide +kernel
theorem dX3_hasVan_9 : decode cX3_hasVan 9 = .ok (.if_icmp .ge 7, 3) := by decide +kernel
theorem dX3_hasVan_12 : decode cX3_hasVan 12 = .ok (.iconst 1, 1) := by decide +kernel
theorem dX3_hasVan_13 : decode cX3_hasVan 13 = .ok (.goto 4, 3) := by decide +kernel
theorem dX3_hasVan_16 : decode cX3_hasVan 16 = .ok (.iconst 0, 1) := by decide +kernel
theorem dX3_hasVan_17 : decode cX3_hasVan 17 = .ok (.ireturn, 1) := by decide +kernel
theorem dX3_visitFact_0 : decode cX3_visitFact 0 = .ok (.aload_n 0, 1) := by decide +kernel
theorem dX3_visitFact_1 : decode cX3_visitFact 1 = .ok (.getfield 23, 3) := by decide +kernel
theorem dX3_visitFact_4 : decode cX3_visitFact 4 = .ok (.iload_n 1, 1) := by decide +kernel
theorem dX3_visitFact_5 : decode cX3_visitFact 5 = .ok (.bipush 6, 2) := by decide +kernel
theorem dX3_visitFact_7 : decode cX3_visitFact 7 = .ok (.imul, 1) := by decide +kernel
theorem dX3_visitFact_8 : decode cX3_visitFact 8 = .ok (.iload_n 2, 1) := by decide +kernel
theorem dX3_visitFact_9 : decode cX3_visitFact 9 = .ok (.iadd, 1) := by decide +kernel
theorem dX3_visitFact_10 : decode cX3_visitFact 10 = .ok (.iaload, 1) := by decide +kernel
theorem dX3_visitFact_11 : decode cX3_visitFact 11 = .ok (.ireturn, 1) := by decide +kernel
theorem dX3_vanFact_0 : decode cX3_vanFact 0 = .ok (.aload_n 0, 1) := by decide +kernel
theorem dX3_vanFact_1 : decode cX3_vanFact 1 = .ok (.getfield 26, 3) := by decide +kernel
theorem dX3_vanFact_4 : decode cX3_vanFact 4 = .ok (.iload_n 1, 1) := by decide +kernel
theorem dX3_vanFact_5 : decode cX3_vanFact 5 = .ok (.iconst 2, 1) := by decide +kernel
theorem dX3_vanFact_6 : decode cX3_vanFact 6 = .ok (.imul, 1) := by decide +kernel
theorem dX3_vanFact_7 : decode cX3_vanFact 7 = .ok (.iload_n 2, 1) := by decide +kernel
theorem dX3_vanFact_8 : decode cX3_vanFact 8 = .ok (.iadd, 1) := by decide +kernel
theorem dX3_vanFact_9 : decode cX3_vanFact 9 = .ok (.iaload, 1) := by decide +kernel
theorem dX3_vanFact_10 : decode cX3_vanFact 10 = .ok (.ireturn, 1) := by decide +kernel
theorem dX3_partsOf_0 : decode cX3_partsOf 0 = .ok (.aload_n 0, 1) := by decide +kernel
theorem dX3_partsOf_1 : decode cX3_partsOf 1 = .ok (.getfield 29, 3) := by decide +kernel
theorem dX3_partsOf_4 : decode cX3_partsOf 4 = .ok (.iload_n 1, 1) := by decide +kernel
theorem dX3_partsOf_5 : decode cX3_partsOf 5 = .ok (.iconst 5, 1) := by decide +kernel
theorem dX3_partsOf_6 : decode cX3_partsOf 6 = .ok (.imul, 1) := by decide +kernel
theorem dX3_partsOf_7 : decode cX3_partsOf 7 = .ok (.iload_n 2, 1) := by decide +kernel
theorem dX3_partsOf_8 : decode cX3_partsOf 8 = .ok (.iadd, 1) := by decide +kernel
theorem dX3_partsOf_9 : decode cX3_partsOf 9 = .ok (.iaload, 1) := by decide +kernel
theorem dX3_partsOf_10 : decode cX3_partsOf 10 = .ok (.ireturn, 1) := by decide +kernel
set_option maxRecDepth 20000 in
theorem ggX3_changeSetting_X4_within : GoodIn wsX3_changeSetting wsX4_within := goodIn_r _ [4] (by decide +kernel) (by decide +kernel)
set_option maxRecDepth 20000 in
theorem gX3_changeSetting_X4_within_n45 : GoodIn wsX3_changeSetting (wsX4_within) := ggX3_changeSetting_X4_within
theorem dX3_changeSetting_0 : decode cX3_changeSetting 0 = .ok (.iload_n 1, 1) := by decide +kernel
theorem dX3_changeSetting_1 : decode cX3_changeSetting 1 = .ok (.iconst 0, 1) := by decide +kernel
theorem dX3_changeSetting_2 : decode cX3_changeSetting 2 = .ok (.iconst 2, 1) := by decide +kernel
theorem dX3_changeSetting_3 : decode cX3_changeSetting 3 = .ok (.invokestatic 45, 3) := by decide +kernel
theorem dX3_changeSetting_6 : decode cX3_changeSetting 6 = .ok (.ifCond .ne 6, 3) := by decide +kernel
theorem dX3_changeSetting_9 : decode cX3_changeSetting 9 = .ok (.bipush (-2), 2) := by decide +kernel
theorem dX3_changeSetting_11 : decode cX3_changeSetting 11 = .ok (.ireturn, 1) := by decide +kernel
theorem dX3_changeSetting_12 : decode cX3_changeSetting 12 = .ok (.iload_n 2, 1) := by decide +kernel
theorem dX3_changeSetting_13 : decode cX3_changeSetting 13 = .ok (.getstatic 49, 3) := by decide +kernel
theorem dX3_changeSetting_16 : decode cX3_changeSetting 16 = .ok (.iload_n 1, 1) := by decide +kernel
theorem dX3_changeSetting_17 : decode cX3_changeSetting 17 = .ok (.iaload, 1) := by decide +kernel
theorem dX3_changeSetting_18 : decode cX3_changeSetting 18 = .ok (.getstatic 52, 3) := by decide +kernel
theorem dX3_changeSetting_21 : decode cX3_changeSetting 21 = .ok (.iload_n 1, 1) := by decide +kernel
theorem dX3_changeSetting_22 : decode cX3_changeSetting 22 = .ok (.iaload, 1) := by decide +kernel
theorem dX3_changeSetting_23 : decode cX3_changeSetting 23 = .ok (.invokestatic 45, 3) := by decide +kernel
theorem dX3_changeSetting_26 : decode cX3_changeSetting 26 = .ok (.ifCond .ne 6, 3) := by decide +kernel
theorem dX3_changeSetting_29 : decode cX3_changeSetting 29 = .ok (.bipush (-2), 2) := by decide +kernel
theorem dX3_changeSetting_31 : decode cX3_changeSetting 31 = .ok (.ireturn, 1) := by decide +kernel
theorem dX3_changeSetting_32 : decode cX3_changeSetting 32 = .ok (.aload_n 0, 1) := by decide +kernel
theorem dX3_changeSetting_33 : decode cX3_changeSetting 33 = .ok (.getfield 18, 3) := by decide +kernel
theorem dX3_changeSetting_36 : decode cX3_changeSetting 36 = .ok (.iload_n 1, 1) := by decide +kernel
theorem dX3_changeSetting_37 : decode cX3_changeSetting 37 = .ok (.iaload, 1) := by decide +kernel
theorem dX3_changeSetting_38 : decode cX3_changeSetting 38 = .ok (.istore_n 3, 1) := by decide +kernel
theorem dX3_changeSetting_39 : decode cX3_changeSetting 39 = .ok (.aload_n 0, 1) := by decide +kernel
theorem dX3_changeSetting_40 : decode cX3_changeSetting 40 = .ok (.getfield 18, 3) := by decide +kernel
theorem dX3_changeSetting_43 : decode cX3_changeSetting 43 = .ok (.iload_n 1, 1) := by decide +kernel
theorem dX3_changeSetting_44 : decode cX3_changeSetting 44 = .ok (.iload_n 2, 1) := by decide +kernel
theorem dX3_changeSetting_45 : decode cX3_changeSetting 45 = .ok (.iastore, 1) := by decide +kernel
theorem dX3_changeSetting_46 : decode cX3_changeSetting 46 = .ok (.iload_n 3, 1) := by decide +kernel
theorem dX3_changeSetting_47 : decode cX3_changeSetting 47 = .ok (.ireturn, 1) := by decide +kernel
set_option maxRecDepth 20000 in
theorem ggX3_addVisit_X4_visitError : GoodIn wsX3_addVisit wsX4_visitError := goodIn_r _ [4, 5, 6, 3, 7, 8, 9, 10] (by decide +kernel) (by decide +kernel)
set_option maxRecDepth 20000 in
theorem gX3_addVisit_X4_visitError_n55 : GoodIn wsX3_addVisit (wsX4_visitError) := ggX3_addVisit_X4_visitError
set_option maxRecDepth 20000 in
theorem ggX3_addVisit_X3_putVisit : GoodIn wsX3_addVisit wsX3_putVisit := goodIn_r _ [15, 1, 16, 17, 18, 19, 20, 21, 22] (by decide +kernel) (by decide +kernel)
set_option maxRecDepth 20000 in
theorem gX3_addVisit_X3_putVisit : GoodIn wsX3_addVisit (wsV RX3 59 RX3 yX3_putVisit wsX3_putVisit) := goodIn_app (goodIn_of _ (by decide +kernel)) ggX3_addVisit_X3_putVisit
theorem dX3_addVisit_0 : decode cX3_addVisit 0 = .ok (.iload_n 1, 1) := by decide +kernel
theorem dX3_addVisit_1 : decode cX3_addVisit 1 = .ok (.iload_n 2, 1) := by decide +kernel
theorem dX3_addVisit_2 : decode cX3_addVisit 2 = .ok (.iload_n 3, 1) := by decide +kernel
theorem dX3_addVisit_3 : decode cX3_addVisit 3 = .ok (.iload 4, 2) := by decide +kernel
theorem dX3_addVisit_5 : decode cX3_addVisit 5 = .ok (.iload 5, 2) := by decide +kernel
theorem dX3_addVisit_7 : decode cX3_addVisit 7 = .ok (.iload 6, 2) := by decide +kernel
theorem dX3_addVisit_9 : decode cX3_addVisit 9 = .ok (.invokestatic 55, 3) := by decide +kernel
theorem dX3_addVisit_12 : decode cX3_addVisit 12 = .ok (.istore 7, 2) := by decide +kernel
theorem dX3_addVisit_14 : decode cX3_addVisit 14 = .ok (.iload 7, 2) := by decide +kernel
theorem dX3_addVisit_16 : decode cX3_addVisit 16 = .ok (.ifCond .eq 6, 3) := by decide +kernel
theorem dX3_addVisit_19 : decode cX3_addVisit 19 = .ok (.iload 7, 2) := by decide +kernel
theorem dX3_addVisit_21 : decode cX3_addVisit 21 = .ok (.ireturn, 1) := by decide +kernel
theorem dX3_addVisit_22 : decode cX3_addVisit 22 = .ok (.aload_n 0, 1) := by decide +kernel
theorem dX3_addVisit_23 : decode cX3_addVisit 23 = .ok (.getfield 38, 3) := by decide +kernel
theorem dX3_addVisit_26 : decode cX3_addVisit 26 = .ok (.bipush 20, 2) := by decide +kernel
theorem dX3_addVisit_28 : decode cX3_addVisit 28 = .ok (.if_icmp .lt 6, 3) := by decide +kernel
theorem dX3_addVisit_31 : decode cX3_addVisit 31 = .ok (.bipush (-4), 2) := by decide +kernel
theorem dX3_addVisit_33 : decode cX3_addVisit 33 = .ok (.ireturn, 1) := by decide +kernel
theorem dX3_addVisit_34 : decode cX3_addVisit 34 = .ok (.aload_n 0, 1) := by decide +kernel
theorem dX3_addVisit_35 : decode cX3_addVisit 35 = .ok (.iload_n 1, 1) := by decide +kernel
theorem dX3_addVisit_36 : decode cX3_addVisit 36 = .ok (.iload_n 2, 1) := by decide +kernel
theorem dX3_addVisit_37 : decode cX3_addVisit 37 = .ok (.iload_n 3, 1) := by decide +kernel
theorem dX3_addVisit_38 : decode cX3_addVisit 38 = .ok (.iload 4, 2) := by decide +kernel
theorem dX3_addVisit_40 : decode cX3_addVisit 40 = .ok (.iload 5, 2) := by decide +kernel
theorem dX3_addVisit_42 : decode cX3_addVisit 42 = .ok (.iload 6, 2) := by decide +kernel
theorem dX3_addVisit_44 : decode cX3_addVisit 44 = .ok (.invokevirtual 59, 3) := by decide +kernel
theorem dX3_addVisit_47 : decode cX3_addVisit 47 = .ok (.ireturn, 1) := by decide +kernel
theorem dX3_putVisit_0 : decode cX3_putVisit 0 = .ok (.aload_n 0, 1) := by decide +kernel
theorem dX3_putVisit_1 : decode cX3_putVisit 1 = .ok (.getfield 38, 3) := by decide +kernel
theorem dX3_putVisit_4 : decode cX3_putVisit 4 = .ok (.bipush 21, 2) := by decide +kernel
theorem dX3_putVisit_6 : decode cX3_putVisit 6 = .ok (.if_icmp .lt 6, 3) := by decide +kernel
theorem dX3_putVisit_9 : decode cX3_putVisit 9 = .ok (.bipush (-4), 2) := by decide +kernel
theorem dX3_putVisit_11 : decode cX3_putVisit 11 = .ok (.ireturn, 1) := by decide +kernel
theorem dX3_putVisit_12 : decode cX3_putVisit 12 = .ok (.aload_n 0, 1) := by decide +kernel
theorem dX3_putVisit_13 : decode cX3_putVisit 13 = .ok (.getfield 38, 3) := by decide +kernel
theorem dX3_putVisit_16 : decode cX3_putVisit 16 = .ok (.bipush 6, 2) := by decide +kernel
theorem dX3_putVisit_18 : decode cX3_putVisit 18 = .ok (.imul, 1) := by decide +kernel
theorem dX3_putVisit_19 : decode cX3_putVisit 19 = .ok (.istore 7, 2) := by decide +kernel
theorem dX3_putVisit_21 : decode cX3_putVisit 21 = .ok (.aload_n 0, 1) := by decide +kernel
theorem dX3_putVisit_22 : decode cX3_putVisit 22 = .ok (.getfield 23, 3) := by decide +kernel
theorem dX3_putVisit_25 : decode cX3_putVisit 25 = .ok (.iload 7, 2) := by decide +kernel
theorem dX3_putVisit_27 : decode cX3_putVisit 27 = .ok (.iconst 0, 1) := by decide +kernel
theorem dX3_putVisit_28 : decode cX3_putVisit 28 = .ok (.iadd, 1) := by decide +kernel
theorem dX3_putVisit_29 : decode cX3_putVisit 29 = .ok (.iload_n 1, 1) := by decide +kernel
theorem dX3_putVisit_30 : decode cX3_putVisit 30 = .ok (.iastore, 1) := by decide +kernel
theorem dX3_putVisit_31 : decode cX3_putVisit 31 = .ok (.aload_n 0, 1) := by decide +kernel
theorem dX3_putVisit_32 : decode cX3_putVisit 32 = .ok (.getfield 23, 3) := by decide +kernel
theorem dX3_putVisit_35 : decode cX3_putVisit 35 = .ok (.iload 7, 2) := by decide +kernel
theorem dX3_putVisit_37 : decode cX3_putVisit 37 = .ok (.iconst 1, 1) := by decide +kernel
theorem dX3_putVisit_38 : decode cX3_putVisit 38 = .ok (.iadd, 1) := by decide +kernel
theorem dX3_putVisit_39 : decode cX3_putVisit 39 = .ok (.iload_n 2, 1) := by decide +kernel
theorem dX3_putVisit_40 : decode cX3_putVisit 40 = .ok (.iastore, 1) := by decide +kernel
theorem dX3_putVisit_41 : decode cX3_putVisit 41 = .ok (.aload_n 0, 1) := by decide +kernel
theorem dX3_putVisit_42 : decode cX3_putVisit 42 = .ok (.getfield 23, 3) := by decide +kernel
theorem dX3_putVisit_45 : decode cX3_putVisit 45 = .ok (.iload 7, 2) := by decide +kernel
theorem dX3_putVisit_47 : decode cX3_putVisit 47 = .ok (.iconst 2, 1) := by decide +kernel
theorem dX3_putVisit_48 : decode cX3_putVisit 48 = .ok (.iadd, 1) := by decide +kernel
theorem dX3_putVisit_49 : decode cX3_putVisit 49 = .ok (.iload_n 3, 1) := by decide +kernel
theorem dX3_putVisit_50 : decode cX3_putVisit 50 = .ok (.iastore, 1) := by decide +kernel
theorem dX3_putVisit_51 : decode cX3_putVisit 51 = .ok (.aload_n 0, 1) := by decide +kernel
theorem dX3_putVisit_52 : decode cX3_putVisit 52 = .ok (.getfield 23, 3) := by decide +kernel
theorem dX3_putVisit_55 : decode cX3_putVisit 55 = .ok (.iload 7, 2) := by decide +kernel
theorem dX3_putVisit_57 : decode cX3_putVisit 57 = .ok (.iconst 3, 1) := by decide +kernel
theorem dX3_putVisit_58 : decode cX3_putVisit 58 = .ok (.iadd, 1) := by decide +kernel
theorem dX3_putVisit_59 : decode cX3_putVisit 59 = .ok (.iload 4, 2) := by decide +kernel
theorem dX3_putVisit_61 : decode cX3_putVisit 61 = .ok (.iastore, 1) := by decide +kernel
theorem dX3_putVisit_62 : decode cX3_putVisit 62 = .ok (.aload_n 0, 1) := by decide +kernel
theorem dX3_putVisit_63 : decode cX3_putVisit 63 = .ok (.getfield 23, 3) := by decide +kernel
theorem dX3_putVisit_66 : decode cX3_putVisit 66 = .ok (.iload 7, 2) := by decide +kernel
theorem dX3_putVisit_68 : decode cX3_putVisit 68 = .ok (.iconst 4, 1) := by decide +kernel
theorem dX3_putVisit_69 : decode cX3_putVisit 69 = .ok (.iadd, 1) := by decide +kernel
theorem dX3_putVisit_70 : decode cX3_putVisit 70 = .ok (.iload 5, 2) := by decide +kernel
theorem dX3_putVisit_72 : decode cX3_putVisit 72 = .ok (.iastore, 1) := by decide +kernel
theorem dX3_putVisit_73 : decode cX3_putVisit 73 = .ok (.aload_n 0, 1) := by decide +kernel
theorem dX3_putVisit_74 : decode cX3_putVisit 74 = .ok (.getfield 23, 3) := by decide +kernel
theorem dX3_putVisit_77 : decode cX3_putVisit 77 = .ok (.iload 7, 2) := by decide +kernel
theorem dX3_putVisit_79 : decode cX3_putVisit 79 = .ok (.iconst 5, 1) := by decide +kernel
theorem dX3_putVisit_80 : decode cX3_putVisit 80 = .ok (.iadd, 1) := by decide +kernel
theorem dX3_putVisit_81 : decode cX3_putVisit 81 = .ok (.iload 6, 2) := by decide +kernel
theorem dX3_putVisit_83 : decode cX3_putVisit 83 = .ok (.iastore, 1) := by decide +kernel
theorem dX3_putVisit_84 : decode cX3_putVisit 84 = .ok (.aload_n 0, 1) := by decide +kernel
theorem dX3_putVisit_85 : decode cX3_putVisit 85 = .ok (.dup, 1) := by decide +kernel
theorem dX3_putVisit_86 : decode cX3_putVisit 86 = .ok (.getfield 38, 3) := by decide +kernel
theorem dX3_putVisit_89 : decode cX3_putVisit 89 = .ok (.iconst 1, 1) := by decide +kernel
theorem dX3_putVisit_90 : decode cX3_putVisit 90 = .ok (.iadd, 1) := by decide +kernel
theorem dX3_putVisit_91 : decode cX3_putVisit 91 = .ok (.putfield 38, 3) := by decide +kernel
theorem dX3_putVisit_94 : decode cX3_putVisit 94 = .ok (.aload_n 0, 1) := by decide +kernel
theorem dX3_putVisit_95 : decode cX3_putVisit 95 = .ok (.getfield 38, 3) := by decide +kernel
theorem dX3_putVisit_98 : decode cX3_putVisit 98 = .ok (.iconst 1, 1) := by decide +kernel
theorem dX3_putVisit_99 : decode cX3_putVisit 99 = .ok (.isub, 1) := by decide +kernel
theorem dX3_putVisit_100 : decode cX3_putVisit 100 = .ok (.ireturn, 1) := by decide +kernel
set_option maxRecDepth 20000 in
theorem ggX3_removeVisit_X3_hasVisit : GoodIn wsX3_removeVisit wsX3_hasVisit := goodIn_r _ [11, 1, 12, 13, 14, 15, 16, 17] (by decide +kernel) (by decide +kernel)
set_option maxRecDepth 20000 in
theorem gX3_removeVisit_X3_hasVisit : GoodIn wsX3_removeVisit (wsV RX3 62 RX3 yX3_hasVisit wsX3_hasVisit) := goodIn_app (goodIn_of _ (by decide +kernel)) ggX3_removeVisit_X3_hasVisit
theorem dX3_removeVisit_0 : decode cX3_removeVisit 0 = .ok (.aload_n 0, 1) := by decide +kernel
theorem dX3_removeVisit_1 : decode cX3_removeVisit 1 = .ok (.iload_n 1, 1) := by decide +kernel
theorem dX3_removeVisit_2 : decode cX3_removeVisit 2 = .ok (.invokevirtual 62, 3) := by decide +kernel
theorem dX3_removeVisit_5 : decode cX3_removeVisit 5 = .ok (.ifCond .ne 5, 3) := by decide +kernel
theorem dX3_removeVisit_8 : decode cX3_removeVisit 8 = .ok (.iconst (-1), 1) := by decide +kernel
theorem dX3_removeVisit_9 : decode cX3_removeVisit 9 = .ok (.ireturn, 1) := by decide +kernel
theorem dX3_removeVisit_10 : decode cX3_removeVisit 10 = .ok (.iload_n 1, 1) := by decide +kernel
theorem dX3_removeVisit_11 : decode cX3_removeVisit 11 = .ok (.bipush 6, 2) := by decide +kernel
theorem dX3_removeVisit_13 : decode cX3_removeVisit 13 = .ok (.imul, 1) := by decide +kernel
theorem dX3_removeVisit_14 : decode cX3_removeVisit 14 = .ok (.istore_n 2, 1) := by decide +kernel
theorem dX3_removeVisit_15 : decode cX3_removeVisit 15 = .ok (.aload_n 0, 1) := by decide +kernel
theorem dX3_removeVisit_16 : decode cX3_removeVisit 16 = .ok (.getfield 38, 3) := by decide +kernel
theorem dX3_removeVisit_19 : decode cX3_removeVisit 19 = .ok (.iconst 1, 1) := by decide +kernel
theorem dX3_removeVisit_20 : decode cX3_removeVisit 20 = .ok (.isub, 1) := by decide +kernel
theorem dX3_removeVisit_21 : decode cX3_removeVisit 21 = .ok (.iload_n 1, 1) := by decide +kernel
theorem dX3_removeVisit_22 : decode cX3_removeVisit 22 = .ok (.isub, 1) := by decide +kernel
theorem dX3_removeVisit_23 : decode cX3_removeVisit 23 = .ok (.bipush 6, 2) := by decide +kernel
theorem dX3_removeVisit_25 : decode cX3_removeVisit 25 = .ok (.imul, 1) := by decide +kernel
theorem dX3_removeVisit_26 : decode cX3_removeVisit 26 = .ok (.istore_n 3, 1) := by decide +kernel
theorem dX3_removeVisit_27 : decode cX3_removeVisit 27 = .ok (.aload_n 0, 1) := by decide +kernel
theorem dX3_removeVisit_28 : decode cX3_removeVisit 28 = .ok (.getfield 23, 3) := by decide +kernel
theorem dX3_removeVisit_31 : decode cX3_removeVisit 31 = .ok (.iload_n 2, 1) := by decide +kernel
theorem dX3_removeVisit_32 : decode cX3_removeVisit 32 = .ok (.bipush 6, 2) := by decide +kernel
theorem dX3_removeVisit_34 : decode cX3_removeVisit 34 = .ok (.iadd, 1) := by decide +kernel
theorem dX3_removeVisit_35 : decode cX3_removeVisit 35 = .ok (.aload_n 0, 1) := by decide +kernel
theorem dX3_removeVisit_36 : decode cX3_removeVisit 36 = .ok (.getfield 23, 3) := by decide +kernel
theorem dX3_removeVisit_39 : decode cX3_removeVisit 39 = .ok (.iload_n 2, 1) := by decide +kernel
theorem dX3_removeVisit_40 : decode cX3_removeVisit 40 = .ok (.iload_n 3, 1) := by decide +kernel
theorem dX3_removeVisit_41 : decode cX3_removeVisit 41 = .ok (.invokestatic 32, 3) := by decide +kernel
theorem dX3_removeVisit_44 : decode cX3_removeVisit 44 = .ok (.aload_n 0, 1) := by decide +kernel
theorem dX3_removeVisit_45 : decode cX3_removeVisit 45 = .ok (.dup, 1) := by decide +kernel
theorem dX3_removeVisit_46 : decode cX3_removeVisit 46 = .ok (.getfield 38, 3) := by decide +kernel
theorem dX3_removeVisit_49 : decode cX3_removeVisit 49 = .ok (.iconst 1, 1) := by decide +kernel
theorem dX3_removeVisit_50 : decode cX3_removeVisit 50 = .ok (.isub, 1) := by decide +kernel
theorem dX3_removeVisit_51 : decode cX3_removeVisit 51 = .ok (.putfield 38, 3) := by decide +kernel
theorem dX3_removeVisit_54 : decode cX3_removeVisit 54 = .ok (.aload_n 0, 1) := by decide +kernel
theorem dX3_removeVisit_55 : decode cX3_removeVisit 55 = .ok (.getfield 38, 3) := by decide +kernel
theorem dX3_removeVisit_58 : decode cX3_removeVisit 58 = .ok (.ireturn, 1) := by decide +kernel
set_option maxRecDepth 20000 in
theorem ggX3_addVan_X4_within : GoodIn wsX3_addVan wsX4_within := goodIn_r _ [5] (by decide +kernel) (by decide +kernel)
set_option maxRecDepth 20000 in
theorem gX3_addVan_X4_within_n45 : GoodIn wsX3_addVan (wsX4_within) := ggX3_addVan_X4_within
theorem dX3_addVan_0 : decode cX3_addVan 0 = .ok (.iload_n 1, 1) := by decide +kernel
theorem dX3_addVan_1 : decode cX3_addVan 1 = .ok (.iconst 0, 1) := by decide +kernel
theorem dX3_addVan_2 : decode cX3_addVan 2 = .ok (.bipush 99, 2) := by decide +kernel
theorem dX3_addVan_4 : decode cX3_addVan 4 = .ok (.invokestatic 45, 3) := by decide +kernel
theorem dX3_addVan_7 : decode cX3_addVan 7 = .ok (.ifCond .eq 13, 3) := by decide +kernel
theorem dX3_addVan_10 : decode cX3_addVan 10 = .ok (.iload_n 2, 1) := by decide +kernel
theorem dX3_addVan_11 : decode cX3_addVan 11 = .ok (.iconst 0, 1) := by decide +kernel
theorem dX3_addVan_12 : decode cX3_addVan 12 = .ok (.bipush 15, 2) := by decide +kernel
theorem dX3_addVan_14 : decode cX3_addVan 14 = .ok (.invokestatic 45, 3) := by decide +kernel
theorem dX3_addVan_17 : decode cX3_addVan 17 = .ok (.ifCond .ne 6, 3) := by decide +kernel
theorem dX3_addVan_20 : decode cX3_addVan 20 = .ok (.bipush (-2), 2) := by decide +kernel
theorem dX3_addVan_22 : decode cX3_addVan 22 = .ok (.ireturn, 1) := by decide +kernel
theorem dX3_addVan_23 : decode cX3_addVan 23 = .ok (.aload_n 0, 1) := by decide +kernel
theorem dX3_addVan_24 : decode cX3_addVan 24 = .ok (.getfield 42, 3) := by decide +kernel
theorem dX3_addVan_27 : decode cX3_addVan 27 = .ok (.iconst 4, 1) := by decide +kernel
theorem dX3_addVan_28 : decode cX3_addVan 28 = .ok (.if_icmp .lt 6, 3) := by decide +kernel
theorem dX3_addVan_31 : decode cX3_addVan 31 = .ok (.bipush (-4), 2) := by decide +kernel
theorem dX3_addVan_33 : decode cX3_addVan 33 = .ok (.ireturn, 1) := by decide +kernel
theorem dX3_addVan_34 : decode cX3_addVan 34 = .ok (.aload_n 0, 1) := by decide +kernel
theorem dX3_addVan_35 : decode cX3_addVan 35 = .ok (.getfield 26, 3) := by decide +kernel
theorem dX3_addVan_38 : decode cX3_addVan 38 = .ok (.aload_n 0, 1) := by decide +kernel
theorem dX3_addVan_39 : decode cX3_addVan 39 = .ok (.getfield 42, 3) := by decide +kernel
theorem dX3_addVan_42 : decode cX3_addVan 42 = .ok (.iconst 2, 1) := by decide +kernel
theorem dX3_addVan_43 : decode cX3_addVan 43 = .ok (.imul, 1) := by decide +kernel
theorem dX3_addVan_44 : decode cX3_addVan 44 = .ok (.iconst 0, 1) := by decide +kernel
theorem dX3_addVan_45 : decode cX3_addVan 45 = .ok (.iadd, 1) := by decide +kernel
theorem dX3_addVan_46 : decode cX3_addVan 46 = .ok (.iload_n 1, 1) := by decide +kernel
theorem dX3_addVan_47 : decode cX3_addVan 47 = .ok (.iastore, 1) := by decide +kernel
theorem dX3_addVan_48 : decode cX3_addVan 48 = .ok (.aload_n 0, 1) := by decide +kernel
theorem dX3_addVan_49 : decode cX3_addVan 49 = .ok (.getfield 26, 3) := by decide +kernel
theorem dX3_addVan_52 : decode cX3_addVan 52 = .ok (.aload_n 0, 1) := by decide +kernel
theorem dX3_addVan_53 : decode cX3_addVan 53 = .ok (.getfield 42, 3) := by decide +kernel
theorem dX3_addVan_56 : decode cX3_addVan 56 = .ok (.iconst 2, 1) := by decide +kernel
theorem dX3_addVan_57 : decode cX3_addVan 57 = .ok (.imul, 1) := by decide +kernel
theorem dX3_addVan_58 : decode cX3_addVan 58 = .ok (.iconst 1, 1) := by decide +kernel
theorem dX3_addVan_59 : decode cX3_addVan 59 = .ok (.iadd, 1) := by decide +kernel
theorem dX3_addVan_60 : decode cX3_addVan 60 = .ok (.iload_n 2, 1) := by decide +kernel
theorem dX3_addVan_61 : decode cX3_addVan 61 = .ok (.iastore, 1) := by decide +kernel
theorem dX3_addVan_62 : decode cX3_addVan 62 = .ok (.aload_n 0, 1) := by decide +kernel
theorem dX3_addVan_63 : decode cX3_addVan 63 = .ok (.dup, 1) := by decide +kernel
theorem dX3_addVan_64 : decode cX3_addVan 64 = .ok (.getfield 42, 3) := by decide +kernel
theorem dX3_addVan_67 : decode cX3_addVan 67 = .ok (.iconst 1, 1) := by decide +kernel
theorem dX3_addVan_68 : decode cX3_addVan 68 = .ok (.iadd, 1) := by decide +kernel
theorem dX3_addVan_69 : decode cX3_addVan 69 = .ok (.putfield 42, 3) := by decide +kernel
theorem dX3_addVan_72 : decode cX3_addVan 72 = .ok (.aload_n 0, 1) := by decide +kernel
theorem dX3_addVan_73 : decode cX3_addVan 73 = .ok (.getfield 42, 3) := by decide +kernel
theorem dX3_addVan_76 : decode cX3_addVan 76 = .ok (.iconst 1, 1) := by decide +kernel
theorem dX3_addVan_77 : decode cX3_addVan 77 = .ok (.isub, 1) := by decide +kernel
theorem dX3_addVan_78 : decode cX3_addVan 78 = .ok (.ireturn, 1) := by decide +kernel
set_option maxRecDepth 20000 in
theorem ggX3_changeStock_X3_hasVan : GoodIn wsX3_changeStock wsX3_hasVan := goodIn_r _ [6, 7, 14, 15, 16, 17, 18, 19] (by decide +kernel) (by decide +kernel)
set_option maxRecDepth 20000 in
theorem gX3_changeStock_X3_hasVan : GoodIn wsX3_changeStock (wsV RX3 66 RX3 yX3_hasVan wsX3_hasVan) := goodIn_app (goodIn_of _ (by decide +kernel)) ggX3_changeStock_X3_hasVan
set_option maxRecDepth 20000 in
theorem ggX3_changeStock_X4_isPart : GoodIn wsX3_changeStock wsX4_isPart := goodIn_r _ [10, 11, 12, 9, 13] (by decide +kernel) (by decide +kernel)
set_option maxRecDepth 20000 in
theorem gX3_changeStock_X4_isPart_n69 : GoodIn wsX3_changeStock (wsX4_isPart) := ggX3_changeStock_X4_isPart
set_option maxRecDepth 20000 in
theorem ggX3_changeStock_X4_within : GoodIn wsX3_changeStock wsX4_within := goodIn_r _ [13] (by decide +kernel) (by decide +kernel)
set_option maxRecDepth 20000 in
theorem gX3_changeStock_X4_within_n45 : GoodIn wsX3_changeStock (wsX4_within) := ggX3_changeStock_X4_within
theorem dX3_changeStock_0 : decode cX3_changeStock 0 = .ok (.aload_n 0, 1) := by decide +kernel
theorem dX3_changeStock_1 : decode cX3_changeStock 1 = .ok (.iload_n 1, 1) := by decide +kernel
theorem dX3_changeStock_2 : decode cX3_changeStock 2 = .ok (.invokevirtual 66, 3) := by decide +kernel
theorem dX3_changeStock_5 : decode cX3_changeStock 5 = .ok (.ifCond .eq 10, 3) := by decide +kernel
theorem dX3_changeStock_8 : decode cX3_changeStock 8 = .ok (.iload_n 2, 1) := by decide +kernel
theorem dX3_changeStock_9 : decode cX3_changeStock 9 = .ok (.invokestatic 69, 3) := by decide +kernel
theorem dX3_changeStock_12 : decode cX3_changeStock 12 = .ok (.ifCond .ne 5, 3) := by decide +kernel
theorem dX3_changeStock_15 : decode cX3_changeStock 15 = .ok (.iconst (-1), 1) := by decide +kernel
theorem dX3_changeStock_16 : decode cX3_changeStock 16 = .ok (.ireturn, 1) := by decide +kernel
theorem dX3_changeStock_17 : decode cX3_changeStock 17 = .ok (.iload_n 3, 1) := by decide +kernel
theorem dX3_changeStock_18 : decode cX3_changeStock 18 = .ok (.iconst 0, 1) := by decide +kernel
theorem dX3_changeStock_19 : decode cX3_changeStock 19 = .ok (.bipush 99, 2) := by decide +kernel
theorem dX3_changeStock_21 : decode cX3_changeStock 21 = .ok (.invokestatic 45, 3) := by decide +kernel
theorem dX3_changeStock_24 : decode cX3_changeStock 24 = .ok (.ifCond .ne 6, 3) := by decide +kernel
theorem dX3_changeStock_27 : decode cX3_changeStock 27 = .ok (.bipush (-2), 2) := by decide +kernel
theorem dX3_changeStock_29 : decode cX3_changeStock 29 = .ok (.ireturn, 1) := by decide +kernel
theorem dX3_changeStock_30 : decode cX3_changeStock 30 = .ok (.aload_n 0, 1) := by decide +kernel
theorem dX3_changeStock_31 : decode cX3_changeStock 31 = .ok (.getfield 29, 3) := by decide +kernel
theorem dX3_changeStock_34 : decode cX3_changeStock 34 = .ok (.iload_n 1, 1) := by decide +kernel
theorem dX3_changeStock_35 : decode cX3_changeStock 35 = .ok (.iconst 5, 1) := by decide +kernel
theorem dX3_changeStock_36 : decode cX3_changeStock 36 = .ok (.imul, 1) := by decide +kernel
theorem dX3_changeStock_37 : decode cX3_changeStock 37 = .ok (.iload_n 2, 1) := by decide +kernel
theorem dX3_changeStock_38 : decode cX3_changeStock 38 = .ok (.iadd, 1) := by decide +kernel
theorem dX3_changeStock_39 : decode cX3_changeStock 39 = .ok (.iaload, 1) := by decide +kernel
theorem dX3_changeStock_40 : decode cX3_changeStock 40 = .ok (.istore 4, 2) := by decide +kernel
theorem dX3_changeStock_42 : decode cX3_changeStock 42 = .ok (.aload_n 0, 1) := by decide +kernel
theorem dX3_changeStock_43 : decode cX3_changeStock 43 = .ok (.getfield 29, 3) := by decide +kernel
theorem dX3_changeStock_46 : decode cX3_changeStock 46 = .ok (.iload_n 1, 1) := by decide +kernel
theorem dX3_changeStock_47 : decode cX3_changeStock 47 = .ok (.iconst 5, 1) := by decide +kernel
theorem dX3_changeStock_48 : decode cX3_changeStock 48 = .ok (.imul, 1) := by decide +kernel
theorem dX3_changeStock_49 : decode cX3_changeStock 49 = .ok (.iload_n 2, 1) := by decide +kernel
theorem dX3_changeStock_50 : decode cX3_changeStock 50 = .ok (.iadd, 1) := by decide +kernel
theorem dX3_changeStock_51 : decode cX3_changeStock 51 = .ok (.iload_n 3, 1) := by decide +kernel
theorem dX3_changeStock_52 : decode cX3_changeStock 52 = .ok (.iastore, 1) := by decide +kernel
theorem dX3_changeStock_53 : decode cX3_changeStock 53 = .ok (.iload 4, 2) := by decide +kernel
theorem dX3_changeStock_55 : decode cX3_changeStock 55 = .ok (.ireturn, 1) := by decide +kernel
end
section
/-! THE BASE: numbers as Int, a memory of cells, the two worlds, rows of the machine over them -/
abbrev MM : Type := Nat → Nat → Int
def J (x : Int) : Int32 := Int32.ofInt x
abbrev inR (x : Int) : Prop := -2147483648 ≤ x ∧ x ≤ 2147483647
theorem J_add (x y : Int) : J x + J y = J (x + y) := (Int32.ofInt_add x y).symm
theorem J_sub (x y : Int) : J x - J y = J (x - y) := (Int32.ofInt_sub x y).symm
theorem J_mul (x y : Int) : J x * J y = J (x * y) := (Int32.ofInt_mul x y).symm
theorem J_neg (x : Int) : - J x = J (- x) := (Int32.ofInt_neg x).symm
theorem J_toInt {x : Int} (h : inR x) : (J x).toInt = x := Int32.toInt_ofInt_of_le (by omega) (by omega)
theorem J_inR (x : Int32) : inR x.toInt := by
  have h := x.toInt_le
  have e : Int32.maxValue.toInt = 2147483647 := by decide
  have h2 := x.minValue_le_toInt
  have e2 : Int32.minValue.toInt = -2147483648 := by decide
  constructor <;> omega
theorem J_of (x : Int32) : J x.toInt = x := Int32.toInt_inj.mp (J_toInt (J_inR x))
theorem J_lt {x y : Int} (hx : inR x) (hy : inR y) : J x < J y ↔ x < y := by rw [Int32.lt_iff_toInt_lt, J_toInt hx, J_toInt hy]
theorem J_le {x y : Int} (hx : inR x) (hy : inR y) : J x ≤ J y ↔ x ≤ y := by rw [Int32.le_iff_toInt_le, J_toInt hx, J_toInt hy]
theorem J_eq {x y : Int} (hx : inR x) (hy : inR y) : J x = J y ↔ x = y := by rw [← Int32.toInt_inj, J_toInt hx, J_toInt hy]
theorem J_nat {i : Int} (h0 : 0 ≤ i) (h : i ≤ 2147483647) : (J i).toNatClampNeg = i.toNat := by
  show (J i).toInt.toNat = i.toNat
  rw [J_toInt ⟨by omega, h⟩]
theorem J_in {i : Int} {n : Nat} (hn : n ≤ 2147483647) (h : 0 ≤ i ∧ i < n) : vp_in (J i) n := by
  have hr : inR i := ⟨by omega, by omega⟩
  rw [vp_in_iff, J_toInt hr]
  exact h
def iand (x y : Int) : Int := (J x &&& J y).toInt
def ior (x y : Int) : Int := (J x ||| J y).toInt
def ixor (x y : Int) : Int := (J x ^^^ J y).toInt
def ishl (x y : Int) : Int := (J x <<< (J y &&& 31)).toInt
def ishr (x y : Int) : Int := (J x >>> (J y &&& 31)).toInt
def idiv (x y : Int) : Int := (J x / J y).toInt
def irem (x y : Int) : Int := (J x - J x / J y * J y).toInt
def i2c (x : Int) : Int := ((J x).toUInt32 % 65536).toInt32.toInt
def imax (x y : Int) : Int := if x < y then y else x
def iabs (x : Int) : Int := if 0 ≤ x then x else 0 - x
def l2i (x : Int64) : Int := x.toInt32.toInt
def i2l (x : Int) : Int64 := (J x).toInt64
def lushr (x : Int64) (y : Int) : Int64 := (x.toUInt64 >>> ((J y).toInt64.toUInt64 &&& Int64.toUInt64 63)).toInt64
def lshl (x : Int64) (y : Int) : Int64 := x <<< ((J y).toInt64 &&& 63)
-- the pure functions' steps
def bnd {α β : Type} (o : Option α) (f : α → Option β) : Option β := match o with
  | none => none
  | some a => f a
theorem bnd_some {α β : Type} {o : Option α} {f : α → Option β} {b : β} (h : bnd o f = some b) : ∃ a, o = some a ∧ f a = some b := by
  cases o with
  | none => cases h
  | some a => exact ⟨a, rfl, h⟩
def gd {α : Type} (P : Prop) [Decidable P] (k : Option α) : Option α := if P then k else none
theorem gd_some {α : Type} {P : Prop} [Decidable P] {k : Option α} {a : α} (h : gd P k = some a) : P ∧ k = some a := by
  unfold gd at h
  by_cases hP : P
  · rw [if_pos hP] at h; exact ⟨hP, h⟩
  · rw [if_neg hP] at h; cases h
theorem itep {α : Type} {P : Prop} [Decidable P] {A B : Option α} {r : α} (h : (if P then A else B) = some r) (hP : P) : A = some r := by rw [if_pos hP] at h; exact h
theorem iten {α : Type} {P : Prop} [Decidable P] {A B : Option α} {r : α} (h : (if P then A else B) = some r) (hP : ¬ P) : B = some r := by rw [if_neg hP] at h; exact h
def stM (M : MM) (c k : Nat) (z : Int) : MM := fun a b => if a = c ∧ b = k then z else M a b
def cpM (M : MM) (c0 sp c1 dp n : Nat) : MM := fun a b => if a = c1 ∧ dp ≤ b ∧ b < dp + n then M c0 (sp + (b - dp)) else M a b
def rd (M : MM) (c n : Nat) (i : Int) : Option Int := if 0 ≤ i ∧ i < n then some (M c i.toNat) else none
def wr (M : MM) (c n : Nat) (i z : Int) : Option MM := if (0 ≤ i ∧ i < n) ∧ inR z then some (stM M c i.toNat z) else none
def wrC (M : MM) (c n : Nat) (i z : Int) : Option MM := if (0 ≤ i ∧ i < n) ∧ (0 ≤ z ∧ z ≤ 65535) then some (stM M c i.toNat z) else none
def wrZ (M : MM) (c n : Nat) (i z : Int) : Option MM := if (0 ≤ i ∧ i < n) ∧ (z = 0 ∨ z = 1) then some (stM M c i.toNat z) else none
def cpy (M : MM) (c0 n0 : Nat) (sp : Int) (c1 n1 : Nat) (dp n : Int) : Option MM := if 0 ≤ sp ∧ 0 ≤ dp ∧ 0 ≤ n ∧ sp + n ≤ n0 ∧ dp + n ≤ n1 then some (cpM M c0 sp.toNat c1 dp.toNat n.toNat) else none
def RR (M : MM) : Prop := ∀ c k, inR (M c k)
theorem RR_st {M : MM} (h : RR M) (c k : Nat) {z : Int} (hz : inR z) : RR (stM M c k z) := by
  intro a b
  unfold stM
  by_cases q : a = c ∧ b = k
  · rw [if_pos q]; exact hz
  · rw [if_neg q]; exact h a b
theorem RR_cp {M : MM} (h : RR M) (c0 sp c1 dp n : Nat) : RR (cpM M c0 sp c1 dp n) := by
  intro a b
  unfold cpM
  by_cases q : a = c1 ∧ dp ≤ b ∧ b < dp + n
  · rw [if_pos q]; exact h _ _
  · rw [if_neg q]; exact h a b
theorem rd_some {M : MM} {c n : Nat} {i v : Int} (h : rd M c n i = some v) : (0 ≤ i ∧ i < n) ∧ v = M c i.toNat := by
  unfold rd at h
  by_cases q : 0 ≤ i ∧ i < n
  · rw [if_pos q] at h; exact ⟨q, (Option.some.inj h).symm⟩
  · rw [if_neg q] at h; cases h
theorem wr_some {M M1 : MM} {c n : Nat} {i z : Int} (h : wr M c n i z = some M1) : (0 ≤ i ∧ i < n) ∧ inR z ∧ M1 = stM M c i.toNat z := by
  unfold wr at h
  by_cases q : (0 ≤ i ∧ i < n) ∧ inR z
  · rw [if_pos q] at h; exact ⟨q.1, q.2, (Option.some.inj h).symm⟩
  · rw [if_neg q] at h; cases h
theorem wrC_some {M M1 : MM} {c n : Nat} {i z : Int} (h : wrC M c n i z = some M1) : (0 ≤ i ∧ i < n) ∧ (0 ≤ z ∧ z ≤ 65535) ∧ M1 = stM M c i.toNat z := by
  unfold wrC at h
  by_cases q : (0 ≤ i ∧ i < n) ∧ (0 ≤ z ∧ z ≤ 65535)
  · rw [if_pos q] at h; exact ⟨q.1, q.2, (Option.some.inj h).symm⟩
  · rw [if_neg q] at h; cases h
theorem wrZ_some {M M1 : MM} {c n : Nat} {i z : Int} (h : wrZ M c n i z = some M1) : (0 ≤ i ∧ i < n) ∧ (z = 0 ∨ z = 1) ∧ M1 = stM M c i.toNat z := by
  unfold wrZ at h
  by_cases q : (0 ≤ i ∧ i < n) ∧ (z = 0 ∨ z = 1)
  · rw [if_pos q] at h; exact ⟨q.1, q.2, (Option.some.inj h).symm⟩
  · rw [if_neg q] at h; cases h
theorem cpy_some {M M1 : MM} {c0 n0 c1 n1 : Nat} {sp dp n : Int} (h : cpy M c0 n0 sp c1 n1 dp n = some M1) : (0 ≤ sp ∧ 0 ≤ dp ∧ 0 ≤ n ∧ sp + n ≤ n0 ∧ dp + n ≤ n1) ∧ M1 = cpM M c0 sp.toNat c1 dp.toNat n.toNat := by
  unfold cpy at h
  by_cases q : 0 ≤ sp ∧ 0 ≤ dp ∧ 0 ≤ n ∧ sp + n ≤ n0 ∧ dp + n ≤ n1
  · rw [if_pos q] at h; exact ⟨q, (Option.some.inj h).symm⟩
  · rw [if_neg q] at h; cases h
-- worlds
def wL (N : Nat) (g : Nat → (Nat → Int) → va_E) (ad : Nat → Nat) (M : MM) : va_W := (List.range N).map (fun c => (ad c, g c (M c)))
theorem wL_get {N : Nat} {g : Nat → (Nat → Int) → va_E} {ad : Nat → Nat} {M : MM} {c : Nat} (h : c < N) {e : va_E} (he : g c (M c) = e) : (wL N g ad M)[c]? = some (ad c, e) := by
  unfold wL
  rw [List.getElem?_map, List.getElem?_range h, ← he]
  rfl
theorem wL_set {N : Nat} {g : Nat → (Nat → Int) → va_E} {ad : Nat → Nat} {M M1 : MM} {c : Nat} {e : va_E} (he : g c (M1 c) = e) (ho : ∀ a, a ≠ c → M1 a = M a) : (wL N g ad M).set c (ad c, e) = wL N g ad M1 := by
  apply List.ext_getElem?
  intro i
  unfold wL
  rw [List.getElem?_set, List.getElem?_map, List.getElem?_map, List.length_map, List.length_range]
  by_cases hi : c = i
  · subst hi
    rw [if_pos rfl]
    by_cases hN : c < N
    · rw [if_pos hN, List.getElem?_range hN, ← he]; rfl
    · rw [if_neg hN, List.getElem?_eq_none (by simpa using Nat.not_lt.mp hN)]; rfl
  · rw [if_neg hi]
    by_cases hN : i < N
    · rw [List.getElem?_range hN]
      show some (ad i, g i (M i)) = some (ad i, g i (M1 i))
      rw [ho i (Ne.symm hi)]
    · rw [List.getElem?_eq_none (by simpa using Nat.not_lt.mp hN)]; rfl
def aInj (N : Nat) (ad : Nat → Nat) : Prop := ∀ i j, i < N → j < N → ad i = ad j → i = j
def aS (N : Nat) (ad : Nat → Nat) : Nat → Prop := fun q => ∃ c, c < N ∧ q = ad c
theorem wL_D {N : Nat} {g : Nat → (Nat → Int) → va_E} {ad : Nat → Nat} (h : aInj N ad) (M : MM) : va_D (aS N ad) (wL N g ad M) := by
  have key : ∀ (k : Nat) (q : Nat × va_E), (wL N g ad M)[k]? = some q → k < N ∧ q.1 = ad k := by
    intro k q hk
    have hl : k < N := by
      have := (List.getElem?_eq_some_iff.mp hk).1
      simpa [wL] using this
    rw [wL_get hl rfl] at hk
    cases hk
    exact ⟨hl, rfl⟩
  refine ⟨fun i j p q hi hj he => ?_, fun k q hk => ?_⟩
  · obtain ⟨a1, a2⟩ := key i p hi
    obtain ⟨b1, b2⟩ := key j q hj
    exact h i j a1 b1 (by rw [← a2, ← b2]; exact he)
  · obtain ⟨a1, a2⟩ := key k q hk
    exact ⟨k, a1, a2⟩
theorem stM_o {M : MM} {c k : Nat} {z : Int} : ∀ a, a ≠ c → stM M c k z a = M a := by
  intro a ha
  funext b
  unfold stM
  rw [if_neg (fun q => ha q.1)]
theorem cpM_o {M : MM} {c0 sp c1 dp n : Nat} : ∀ a, a ≠ c1 → cpM M c0 sp c1 dp n a = M a := by
  intro a ha
  funext b
  unfold cpM
  rw [if_neg (fun q => ha q.1)]
theorem stM_upd {M : MM} {c k : Nat} {z : Int} : (fun j => J (stM M c k z c j)) = upd (fun j => J (M c j)) k (J z) := by
  funext j
  unfold stM upd
  by_cases h : j = k
  · rw [if_pos ⟨rfl, h⟩, if_pos h]
  · rw [if_neg (fun q => h q.2), if_neg h]
theorem J_wC {z : Int} (hz : 0 ≤ z ∧ z ≤ 65535) : narrow .char (.int (J z)) = .int (J z) ∧ fits .char (.int (J z)) = true := by
  obtain ⟨q, rfl⟩ : ∃ q : Nat, z = q := ⟨z.toNat, by omega⟩
  exact pk_charN (q := q) (by omega)
theorem J_wZ {z : Int} (hz : z = 0 ∨ z = 1) : narrow .boolean (.int (J z)) = .int (J z) ∧ fits .boolean (.int (J z)) = true := by
  rcases hz with rfl | rfl <;> decide +kernel
theorem J_bR {z : Int} (hz : z = 0 ∨ z = 1) : inR z := by rcases hz with h | h <;> rw [h] <;> decide
def bnd2 {α β γ : Type} (o : Option (α × β)) (f : α → β → Option γ) : Option γ := bnd o (fun q => f q.1 q.2)
def bnd3 {α β γ δ : Type} (o : Option (α × β × γ)) (f : α → β → γ → Option δ) : Option δ := bnd o (fun q => f q.1 q.2.1 q.2.2)
def bnd4 {α β γ δ ε : Type} (o : Option (α × β × γ × δ)) (f : α → β → γ → δ → Option ε) : Option ε := bnd o (fun q => f q.1 q.2.1 q.2.2.1 q.2.2.2)
def bnd5 {α β γ δ ε ζ : Type} (o : Option (α × β × γ × δ × ε)) (f : α → β → γ → δ → ε → Option ζ) : Option ζ := bnd o (fun q => f q.1 q.2.1 q.2.2.1 q.2.2.2.1 q.2.2.2.2)
theorem bnd2_some {α β γ : Type} {o : Option (α × β)} {f : α → β → Option γ} {r : γ} (h : bnd2 o f = some r) : ∃ a b, o = some (a, b) ∧ f a b = some r := by
  obtain ⟨⟨a, b⟩, h1, h2⟩ := bnd_some h
  exact ⟨a, b, h1, h2⟩
theorem bnd3_some {α β γ δ : Type} {o : Option (α × β × γ)} {f : α → β → γ → Option δ} {r : δ} (h : bnd3 o f = some r) : ∃ a b c, o = some (a, b, c) ∧ f a b c = some r := by
  obtain ⟨⟨a, b, c⟩, h1, h2⟩ := bnd_some h
  exact ⟨a, b, c, h1, h2⟩
theorem bnd4_some {α β γ δ ε : Type} {o : Option (α × β × γ × δ)} {f : α → β → γ → δ → Option ε} {r : ε} (h : bnd4 o f = some r) : ∃ a b c d, o = some (a, b, c, d) ∧ f a b c d = some r := by
  obtain ⟨⟨a, b, c, d⟩, h1, h2⟩ := bnd_some h
  exact ⟨a, b, c, d, h1, h2⟩
theorem bnd5_some {α β γ δ ε ζ : Type} {o : Option (α × β × γ × δ × ε)} {f : α → β → γ → δ → ε → Option ζ} {r : ζ} (h : bnd5 o f = some r) : ∃ a b c d e, o = some (a, b, c, d, e) ∧ f a b c d e = some r := by
  obtain ⟨⟨a, b, c, d, e⟩, h1, h2⟩ := bnd_some h
  exact ⟨a, b, c, d, e, h1, h2⟩
end
section
/-! ROWS over numbers written as J x, over worlds wL; the two worlds; what a state gives beside its world; calls and ends -/
section JV
variable {p : Program} {l : Launch} {e : Env} {R : Room} {s : State} {m : MethodId} {args : Array Value} {below : List Frame} {meth : Method} {c : Code} {H : Heap} {locs : List Loc} {cells slots : Nat} {Q : State → Prop}
variable {cc : ByteArray} {pc : Nat} {ls : Array Slot} {rest : List Value}
theorem jv_iadd (hx : p.tables.exec = Jvm.exec) (hb : c.code = cc) {x y : Int} (hdg : decode cc pc = .ok (.iadd, 1)) (k : W p l e R s m args below meth c H locs cells slots Q (F0 m (pc + 1) ls (.int (J (x + y)) :: rest))) : W p l e R s m args below meth c H locs cells slots Q (F0 m pc ls (.int (J y) :: .int (J x) :: rest)) := lv_iadd hx hb hdg (by rw [J_add x y]; exact k)
theorem jv_isub (hx : p.tables.exec = Jvm.exec) (hb : c.code = cc) {x y : Int} (hdg : decode cc pc = .ok (.isub, 1)) (k : W p l e R s m args below meth c H locs cells slots Q (F0 m (pc + 1) ls (.int (J (x - y)) :: rest))) : W p l e R s m args below meth c H locs cells slots Q (F0 m pc ls (.int (J y) :: .int (J x) :: rest)) := lv_isub hx hb hdg (by rw [J_sub x y]; exact k)
theorem jv_imul (hx : p.tables.exec = Jvm.exec) (hb : c.code = cc) {x y : Int} (hdg : decode cc pc = .ok (.imul, 1)) (k : W p l e R s m args below meth c H locs cells slots Q (F0 m (pc + 1) ls (.int (J (x * y)) :: rest))) : W p l e R s m args below meth c H locs cells slots Q (F0 m pc ls (.int (J y) :: .int (J x) :: rest)) := lv_imul hx hb hdg (by rw [J_mul x y]; exact k)
theorem jv_iand (hx : p.tables.exec = Jvm.exec) (hb : c.code = cc) {x y : Int} (hdg : decode cc pc = .ok (.iand, 1)) (k : W p l e R s m args below meth c H locs cells slots Q (F0 m (pc + 1) ls (.int (J (iand x y)) :: rest))) : W p l e R s m args below meth c H locs cells slots Q (F0 m pc ls (.int (J y) :: .int (J x) :: rest)) := lv_iand hx hb hdg (by rw [show J (iand x y) = _ from J_of _] at k; exact k)
theorem jv_ior (hx : p.tables.exec = Jvm.exec) (hb : c.code = cc) {x y : Int} (hdg : decode cc pc = .ok (.ior, 1)) (k : W p l e R s m args below meth c H locs cells slots Q (F0 m (pc + 1) ls (.int (J (ior x y)) :: rest))) : W p l e R s m args below meth c H locs cells slots Q (F0 m pc ls (.int (J y) :: .int (J x) :: rest)) := lv_ior hx hb hdg (by rw [show J (ior x y) = _ from J_of _] at k; exact k)
theorem jv_ishl (hx : p.tables.exec = Jvm.exec) (hb : c.code = cc) {x y : Int} (hdg : decode cc pc = .ok (.ishl, 1)) (k : W p l e R s m args below meth c H locs cells slots Q (F0 m (pc + 1) ls (.int (J (ishl x y)) :: rest))) : W p l e R s m args below meth c H locs cells slots Q (F0 m pc ls (.int (J y) :: .int (J x) :: rest)) := lv_ishl hx hb hdg (by rw [show J (ishl x y) = _ from J_of _] at k; exact k)
theorem jv_ishr (hx : p.tables.exec = Jvm.exec) (hb : c.code = cc) {x y : Int} (hdg : decode cc pc = .ok (.ishr, 1)) (k : W p l e R s m args below meth c H locs cells slots Q (F0 m (pc + 1) ls (.int (J (ishr x y)) :: rest))) : W p l e R s m args below meth c H locs cells slots Q (F0 m pc ls (.int (J y) :: .int (J x) :: rest)) := lv_ishr hx hb hdg (by rw [show J (ishr x y) = _ from J_of _] at k; exact k)
theorem jv_idiv (hx : p.tables.exec = Jvm.exec) (hb : c.code = cc) {x y : Int} (hdg : decode cc pc = .ok (.idiv, 1)) (hne : ¬ J y = 0) (k : W p l e R s m args below meth c H locs cells slots Q (F0 m (pc + 1) ls (.int (J (idiv x y)) :: rest))) : W p l e R s m args below meth c H locs cells slots Q (F0 m pc ls (.int (J y) :: .int (J x) :: rest)) := lv_idiv hx hb hdg hne (by rw [show J (idiv x y) = _ from J_of _] at k; exact k)
theorem jv_irem (hx : p.tables.exec = Jvm.exec) (hb : c.code = cc) {x y : Int} (hdg : decode cc pc = .ok (.irem, 1)) (hne : ¬ J y = 0) (k : W p l e R s m args below meth c H locs cells slots Q (F0 m (pc + 1) ls (.int (J (irem x y)) :: rest))) : W p l e R s m args below meth c H locs cells slots Q (F0 m pc ls (.int (J y) :: .int (J x) :: rest)) := lv_irem hx hb hdg hne (by rw [show J (irem x y) = _ from J_of _] at k; exact k)
theorem jv_ineg (hx : p.tables.exec = Jvm.exec) (hb : c.code = cc) {x : Int} (hdg : decode cc pc = .ok (.ineg, 1)) (k : W p l e R s m args below meth c H locs cells slots Q (F0 m (pc + 1) ls (.int (J (- x)) :: rest))) : W p l e R s m args below meth c H locs cells slots Q (F0 m pc ls (.int (J x) :: rest)) := lv_ineg hx hb hdg (by rw [← J_neg] at k; first | exact k | (rw [Int32.zero_sub]; exact k))
theorem jv_i2c (hx : p.tables.exec = Jvm.exec) (hb : c.code = cc) {x : Int} (hdg : decode cc pc = .ok (.i2c, 1)) (k : W p l e R s m args below meth c H locs cells slots Q (F0 m (pc + 1) ls (.int (J (i2c x)) :: rest))) : W p l e R s m args below meth c H locs cells slots Q (F0 m pc ls (.int (J x) :: rest)) := lv_i2c hx hb hdg (J_of _).symm k
theorem jv_l2i (hx : p.tables.exec = Jvm.exec) (hb : c.code = cc) {x : Int64} (hdg : decode cc pc = .ok (.l2i, 1)) (k : W p l e R s m args below meth c H locs cells slots Q (F0 m (pc + 1) ls (.int (J (l2i x)) :: rest))) : W p l e R s m args below meth c H locs cells slots Q (F0 m pc ls (.long x :: rest)) := lv_l2i hx hb hdg (J_of _).symm k
theorem jv_i2l (hx : p.tables.exec = Jvm.exec) (hb : c.code = cc) {x : Int} (hdg : decode cc pc = .ok (.i2l, 1)) (k : W p l e R s m args below meth c H locs cells slots Q (F0 m (pc + 1) ls (.long (i2l x) :: rest))) : W p l e R s m args below meth c H locs cells slots Q (F0 m pc ls (.int (J x) :: rest)) := lv_i2l hx hb hdg rfl k
theorem jv_lushr (hx : p.tables.exec = Jvm.exec) (hb : c.code = cc) {x : Int64} {y : Int} (hdg : decode cc pc = .ok (.lushr, 1)) (k : W p l e R s m args below meth c H locs cells slots Q (F0 m (pc + 1) ls (.long (lushr x y) :: rest))) : W p l e R s m args below meth c H locs cells slots Q (F0 m pc ls (.int (J y) :: .long x :: rest)) := lv_lushr hx hb hdg rfl k
theorem jv_lshl (hx : p.tables.exec = Jvm.exec) (hb : c.code = cc) {x : Int64} {y : Int} (hdg : decode cc pc = .ok (.lshl, 1)) (k : W p l e R s m args below meth c H locs cells slots Q (F0 m (pc + 1) ls (.long (lshl x y) :: rest))) : W p l e R s m args below meth c H locs cells slots Q (F0 m pc ls (.int (J y) :: .long x :: rest)) := lv_lshl hx hb hdg rfl k
theorem jv_lcmp (hx : p.tables.exec = Jvm.exec) (hb : c.code = cc) {x y : Int64} (hdg : decode cc pc = .ok (.lcmp, 1)) (k : W p l e R s m args below meth c H locs cells slots Q (F0 m (pc + 1) ls (.int (J (lg_cmp x y).toInt) :: rest))) : W p l e R s m args below meth c H locs cells slots Q (F0 m pc ls (.long y :: .long x :: rest)) := W.lcmp hx hb hdg (by rw [J_of] at k; exact k)
theorem J_0 : J 0 = 0 := by decide
theorem inR0 : inR 0 := by decide
theorem jv_icmp_eq (hx : p.tables.exec = Jvm.exec) (hb : c.code = cc) {x y : Int} {off : Int} {tgt : Nat} (hdg : decode cc pc = .ok (.if_icmp .eq off, 3)) (ht : (pc : Int) + off = (tgt : Int)) (hX : inR x) (hY : inR y) (kt : x = y → W p l e R s m args below meth c H locs cells slots Q (F0 m tgt ls rest)) (kf : ¬ x = y → W p l e R s m args below meth c H locs cells slots Q (F0 m (pc + 3) ls rest)) : W p l e R s m args below meth c H locs cells slots Q (F0 m pc ls (.int (J y) :: .int (J x) :: rest)) := lv_icmp_eq hx hb hdg ht (fun h => kt ((J_eq hX hY).mp h)) (fun h => kf ((not_congr (J_eq hX hY)).mp h))
theorem jv_if_eq (hx : p.tables.exec = Jvm.exec) (hb : c.code = cc) {x : Int} {off : Int} {tgt : Nat} (hdg : decode cc pc = .ok (.ifCond .eq off, 3)) (ht : (pc : Int) + off = (tgt : Int)) (hX : inR x) (kt : x = 0 → W p l e R s m args below meth c H locs cells slots Q (F0 m tgt ls rest)) (kf : ¬ x = 0 → W p l e R s m args below meth c H locs cells slots Q (F0 m (pc + 3) ls rest)) : W p l e R s m args below meth c H locs cells slots Q (F0 m pc ls (.int (J x) :: rest)) := lv_if_eq hx hb hdg ht (fun h => kt ((J_eq hX inR0).mp (by rw [J_0]; exact h))) (fun h => kf ((not_congr (J_eq hX inR0)).mp (by rw [J_0]; exact h)))
theorem jv_icmp_ne (hx : p.tables.exec = Jvm.exec) (hb : c.code = cc) {x y : Int} {off : Int} {tgt : Nat} (hdg : decode cc pc = .ok (.if_icmp .ne off, 3)) (ht : (pc : Int) + off = (tgt : Int)) (hX : inR x) (hY : inR y) (kt : ¬ x = y → W p l e R s m args below meth c H locs cells slots Q (F0 m tgt ls rest)) (kf : x = y → W p l e R s m args below meth c H locs cells slots Q (F0 m (pc + 3) ls rest)) : W p l e R s m args below meth c H locs cells slots Q (F0 m pc ls (.int (J y) :: .int (J x) :: rest)) := lv_icmp_ne hx hb hdg ht (fun h => kt ((not_congr (J_eq hX hY)).mp h)) (fun h => kf ((J_eq hX hY).mp h))
theorem jv_if_ne (hx : p.tables.exec = Jvm.exec) (hb : c.code = cc) {x : Int} {off : Int} {tgt : Nat} (hdg : decode cc pc = .ok (.ifCond .ne off, 3)) (ht : (pc : Int) + off = (tgt : Int)) (hX : inR x) (kt : ¬ x = 0 → W p l e R s m args below meth c H locs cells slots Q (F0 m tgt ls rest)) (kf : x = 0 → W p l e R s m args below meth c H locs cells slots Q (F0 m (pc + 3) ls rest)) : W p l e R s m args below meth c H locs cells slots Q (F0 m pc ls (.int (J x) :: rest)) := lv_if_ne hx hb hdg ht (fun h => kt ((not_congr (J_eq hX inR0)).mp (by rw [J_0]; exact h))) (fun h => kf ((J_eq hX inR0).mp (by rw [J_0]; exact h)))
theorem jv_icmp_lt (hx : p.tables.exec = Jvm.exec) (hb : c.code = cc) {x y : Int} {off : Int} {tgt : Nat} (hdg : decode cc pc = .ok (.if_icmp .lt off, 3)) (ht : (pc : Int) + off = (tgt : Int)) (hX : inR x) (hY : inR y) (kt : x < y → W p l e R s m args below meth c H locs cells slots Q (F0 m tgt ls rest)) (kf : ¬ x < y → W p l e R s m args below meth c H locs cells slots Q (F0 m (pc + 3) ls rest)) : W p l e R s m args below meth c H locs cells slots Q (F0 m pc ls (.int (J y) :: .int (J x) :: rest)) := lv_icmp_lt hx hb hdg ht (fun h => kt ((J_lt hX hY).mp h)) (fun h => kf ((not_congr (J_lt hX hY)).mp h))
theorem jv_if_lt (hx : p.tables.exec = Jvm.exec) (hb : c.code = cc) {x : Int} {off : Int} {tgt : Nat} (hdg : decode cc pc = .ok (.ifCond .lt off, 3)) (ht : (pc : Int) + off = (tgt : Int)) (hX : inR x) (kt : x < 0 → W p l e R s m args below meth c H locs cells slots Q (F0 m tgt ls rest)) (kf : ¬ x < 0 → W p l e R s m args below meth c H locs cells slots Q (F0 m (pc + 3) ls rest)) : W p l e R s m args below meth c H locs cells slots Q (F0 m pc ls (.int (J x) :: rest)) := lv_if_lt hx hb hdg ht (fun h => kt ((J_lt hX inR0).mp (by rw [J_0]; exact h))) (fun h => kf ((not_congr (J_lt hX inR0)).mp (by rw [J_0]; exact h)))
theorem jv_icmp_ge (hx : p.tables.exec = Jvm.exec) (hb : c.code = cc) {x y : Int} {off : Int} {tgt : Nat} (hdg : decode cc pc = .ok (.if_icmp .ge off, 3)) (ht : (pc : Int) + off = (tgt : Int)) (hX : inR x) (hY : inR y) (kt : y ≤ x → W p l e R s m args below meth c H locs cells slots Q (F0 m tgt ls rest)) (kf : ¬ y ≤ x → W p l e R s m args below meth c H locs cells slots Q (F0 m (pc + 3) ls rest)) : W p l e R s m args below meth c H locs cells slots Q (F0 m pc ls (.int (J y) :: .int (J x) :: rest)) := lv_icmp_ge hx hb hdg ht (fun h => kt ((J_le hY hX).mp h)) (fun h => kf ((not_congr (J_le hY hX)).mp h))
theorem jv_if_ge (hx : p.tables.exec = Jvm.exec) (hb : c.code = cc) {x : Int} {off : Int} {tgt : Nat} (hdg : decode cc pc = .ok (.ifCond .ge off, 3)) (ht : (pc : Int) + off = (tgt : Int)) (hX : inR x) (kt : 0 ≤ x → W p l e R s m args below meth c H locs cells slots Q (F0 m tgt ls rest)) (kf : ¬ 0 ≤ x → W p l e R s m args below meth c H locs cells slots Q (F0 m (pc + 3) ls rest)) : W p l e R s m args below meth c H locs cells slots Q (F0 m pc ls (.int (J x) :: rest)) := lv_if_ge hx hb hdg ht (fun h => kt ((J_le inR0 hX).mp (by rw [J_0]; exact h))) (fun h => kf ((not_congr (J_le inR0 hX)).mp (by rw [J_0]; exact h)))
theorem jv_icmp_gt (hx : p.tables.exec = Jvm.exec) (hb : c.code = cc) {x y : Int} {off : Int} {tgt : Nat} (hdg : decode cc pc = .ok (.if_icmp .gt off, 3)) (ht : (pc : Int) + off = (tgt : Int)) (hX : inR x) (hY : inR y) (kt : y < x → W p l e R s m args below meth c H locs cells slots Q (F0 m tgt ls rest)) (kf : ¬ y < x → W p l e R s m args below meth c H locs cells slots Q (F0 m (pc + 3) ls rest)) : W p l e R s m args below meth c H locs cells slots Q (F0 m pc ls (.int (J y) :: .int (J x) :: rest)) := lv_icmp_gt hx hb hdg ht (fun h => kt ((J_lt hY hX).mp h)) (fun h => kf ((not_congr (J_lt hY hX)).mp h))
theorem jv_if_gt (hx : p.tables.exec = Jvm.exec) (hb : c.code = cc) {x : Int} {off : Int} {tgt : Nat} (hdg : decode cc pc = .ok (.ifCond .gt off, 3)) (ht : (pc : Int) + off = (tgt : Int)) (hX : inR x) (kt : 0 < x → W p l e R s m args below meth c H locs cells slots Q (F0 m tgt ls rest)) (kf : ¬ 0 < x → W p l e R s m args below meth c H locs cells slots Q (F0 m (pc + 3) ls rest)) : W p l e R s m args below meth c H locs cells slots Q (F0 m pc ls (.int (J x) :: rest)) := lv_if_gt hx hb hdg ht (fun h => kt ((J_lt inR0 hX).mp (by rw [J_0]; exact h))) (fun h => kf ((not_congr (J_lt inR0 hX)).mp (by rw [J_0]; exact h)))
theorem jv_icmp_le (hx : p.tables.exec = Jvm.exec) (hb : c.code = cc) {x y : Int} {off : Int} {tgt : Nat} (hdg : decode cc pc = .ok (.if_icmp .le off, 3)) (ht : (pc : Int) + off = (tgt : Int)) (hX : inR x) (hY : inR y) (kt : x ≤ y → W p l e R s m args below meth c H locs cells slots Q (F0 m tgt ls rest)) (kf : ¬ x ≤ y → W p l e R s m args below meth c H locs cells slots Q (F0 m (pc + 3) ls rest)) : W p l e R s m args below meth c H locs cells slots Q (F0 m pc ls (.int (J y) :: .int (J x) :: rest)) := lv_icmp_le hx hb hdg ht (fun h => kt ((J_le hX hY).mp h)) (fun h => kf ((not_congr (J_le hX hY)).mp h))
theorem jv_if_le (hx : p.tables.exec = Jvm.exec) (hb : c.code = cc) {x : Int} {off : Int} {tgt : Nat} (hdg : decode cc pc = .ok (.ifCond .le off, 3)) (ht : (pc : Int) + off = (tgt : Int)) (hX : inR x) (kt : x ≤ 0 → W p l e R s m args below meth c H locs cells slots Q (F0 m tgt ls rest)) (kf : ¬ x ≤ 0 → W p l e R s m args below meth c H locs cells slots Q (F0 m (pc + 3) ls rest)) : W p l e R s m args below meth c H locs cells slots Q (F0 m pc ls (.int (J x) :: rest)) := lv_if_le hx hb hdg ht (fun h => kt ((J_le hX inR0).mp (by rw [J_0]; exact h))) (fun h => kf ((not_congr (J_le hX inR0)).mp (by rw [J_0]; exact h)))
theorem jv_tIn (hx : p.tables.exec = Jvm.exec) (hb : c.code = cc) {dflt lo hi : Int} {offs : Array Int} {len : Nat} {x k : Int} {off : Int} {tgt : Nat} (hdg : decode cc pc = .ok (.tableswitch dflt lo hi offs, len)) (hX : inR x) (hk : x = k) (h1 : ¬ k < lo) (h2 : ¬ hi < k) (ho : offs[(k - lo).toNat]? = some off) (ht : (pc : Int) + off = (tgt : Int)) (kk : W p l e R s m args below meth c H locs cells slots Q (F0 m tgt ls rest)) : W p l e R s m args below meth c H locs cells slots Q (F0 m pc ls (.int (J x) :: rest)) := by
  subst hk
  have e := J_toInt hX
  exact lv_tableIn hx hb hdg (by rw [e]; exact h1) (by rw [e]; exact h2) (by rw [e]; exact ho) ht kk
theorem jv_tOut (hx : p.tables.exec = Jvm.exec) (hb : c.code = cc) {dflt lo hi : Int} {offs : Array Int} {len : Nat} {x : Int} {tgt : Nat} (hdg : decode cc pc = .ok (.tableswitch dflt lo hi offs, len)) (hX : inR x) (h : x < lo ∨ hi < x) (ht : (pc : Int) + dflt = (tgt : Int)) (kk : W p l e R s m args below meth c H locs cells slots Q (F0 m tgt ls rest)) : W p l e R s m args below meth c H locs cells slots Q (F0 m pc ls (.int (J x) :: rest)) := lv_tableOut hx hb hdg (by rw [J_toInt hX]; exact h) ht kk
theorem jv_look (hx : p.tables.exec = Jvm.exec) (hb : c.code = cc) {dflt : Int} {ps : Array (Int × Int)} {len : Nat} {x : Int} {off : Int} {tgt : Nat} (hdg : decode cc pc = .ok (.lookupswitch dflt ps, len)) (hX : inR x) (hp : (ps.toList.zip (ps.toList.drop 1)).all (fun (a, next) => a.1 < next.1) = true) (ho : Op.lookupswitch.offset ps.toList dflt x = off) (ht : (pc : Int) + off = (tgt : Int)) (kk : W p l e R s m args below meth c H locs cells slots Q (F0 m tgt ls rest)) : W p l e R s m args below meth c H locs cells slots Q (F0 m pc ls (.int (J x) :: rest)) := lv_lookup hx hb hdg hp (by rw [J_toInt hX]; exact ho) ht kk
theorem J_max (x y : Int) (hX : inR x) (hY : inR y) : (if J x < J y then J y else J x) = J (imax x y) := by
  unfold imax
  by_cases h : x < y
  · rw [if_pos h, if_pos ((J_lt hX hY).mpr h)]
  · rw [if_neg h, if_neg (fun q => h ((J_lt hX hY).mp q))]
theorem J_abs (x : Int) (hX : inR x) : (if 0 ≤ J x then J x else 0 - J x) = J (iabs x) := by
  unfold iabs
  rw [← J_0]
  by_cases h : 0 ≤ x
  · rw [if_pos h, if_pos ((J_le inR0 hX).mpr h)]
  · rw [if_neg h, if_neg (fun q => h ((J_le inR0 hX).mp q)), J_sub]
theorem imax_R {x y : Int} (hX : inR x) (hY : inR y) : inR (imax x y) := by unfold imax; by_cases h : x < y <;> simp only [h, if_true, if_false] <;> assumption
end JV
-- arrays and fields over wL
section JW
variable {p : Program} {l : Launch} {e : Env} {R : Room} {s : State} {m : MethodId} {args : Array Value} {below : List Frame} {meth : Method} {c : Code} {H : Heap} {locs : List Loc} {cells slots : Nat} {Q : State → Prop}
variable {cc : ByteArray} {pc : Nat} {ls : Array Slot} {rest : List Value} {D : va_G} {cl : List vw_C} {tys : List (ClassId × FieldType)} {N : Nat} {g : Nat → (Nat → Int) → va_E} {ad : Nat → Nat} {M : MM}
theorem jx_iald (hx : p.tables.exec = Jvm.exec) (hb : c.code = cc) (hK : va_K D cl tys s) (hP : va_P D cl (wL N g ad M) H) (q0 t0 : Nat) (hq : q0 < N) {cA : ClassId} {n : Nat} (hg : ∀ f, g q0 f = .inl (cA, n, .inl (fun j => J (f j)))) (ht : tys[t0]? = some (cA, .int)) {i : Int} (hn : n ≤ 2147483647) (hi : 0 ≤ i ∧ i < n) {v : Int} (hv : v = M q0 i.toNat) (hdg : decode cc pc = .ok (.iaload, 1)) (kk : W p l e R s m args below meth c H locs cells slots Q (F0 m (pc + 1) ls (.int (J v) :: rest))) : W p l e R s m args below meth c H locs cells slots Q (F0 m pc ls (.int (J i) :: .ref (ad q0) :: rest)) := va_iald hx hb hK hP q0 t0 (wL_get hq (hg _)) ht (J_in hn hi) hdg (by rw [J_nat hi.1 (by omega), ← hv]; exact kk)
theorem jx_zald (hx : p.tables.exec = Jvm.exec) (hb : c.code = cc) (hK : va_K D cl tys s) (hP : va_P D cl (wL N g ad M) H) (q0 t0 : Nat) (hq : q0 < N) {cA : ClassId} {n : Nat} (hg : ∀ f, g q0 f = .inl (cA, n, .inl (fun j => J (f j)))) (ht : tys[t0]? = some (cA, .boolean)) {i : Int} (hn : n ≤ 2147483647) (hi : 0 ≤ i ∧ i < n) {v : Int} (hv : v = M q0 i.toNat) (hdg : decode cc pc = .ok (.baload, 1)) (kk : W p l e R s m args below meth c H locs cells slots Q (F0 m (pc + 1) ls (.int (J v) :: rest))) : W p l e R s m args below meth c H locs cells slots Q (F0 m pc ls (.int (J i) :: .ref (ad q0) :: rest)) := va_zald hx hb hK hP q0 t0 (wL_get hq (hg _)) ht (J_in hn hi) hdg (by rw [J_nat hi.1 (by omega), ← hv]; exact kk)
theorem jx_cald (hx : p.tables.exec = Jvm.exec) (hb : c.code = cc) (hK : va_K D cl tys s) (hP : va_P D cl (wL N g ad M) H) (q0 t0 : Nat) (hq : q0 < N) {cA : ClassId} {n : Nat} (hg : ∀ f, g q0 f = .inl (cA, n, .inl (fun j => J (f j)))) (ht : tys[t0]? = some (cA, .char)) {i : Int} (hn : n ≤ 2147483647) (hi : 0 ≤ i ∧ i < n) {v : Int} (hv : v = M q0 i.toNat) (hdg : decode cc pc = .ok (.caload, 1)) (kk : W p l e R s m args below meth c H locs cells slots Q (F0 m (pc + 1) ls (.int (J v) :: rest))) : W p l e R s m args below meth c H locs cells slots Q (F0 m pc ls (.int (J i) :: .ref (ad q0) :: rest)) := va_cald hx hb hK hP q0 t0 (wL_get hq (hg _)) ht (J_in hn hi) hdg (by rw [J_nat hi.1 (by omega), ← hv]; exact kk)
theorem jx_iast (hx : p.tables.exec = Jvm.exec) (hb : c.code = cc) (hK : va_K D cl tys s) (hP : va_P D cl (wL N g ad M) H) (hI : aInj N ad) {H0 : Heap} (hS : va_S (aS N ad) H0 H locs) (q0 t0 : Nat) (hq : q0 < N) {cA : ClassId} {n : Nat} (hg : ∀ f, g q0 f = .inl (cA, n, .inl (fun j => J (f j)))) (ht : tys[t0]? = some (cA, .int)) {i z : Int} (hn : n ≤ 2147483647) (hi : 0 ≤ i ∧ i < n) (hz : inR z) (hdg : decode cc pc = .ok (.iastore, 1)) (kk : ∀ (H1 : Heap) (locs1 : List Loc), va_P D cl (wL N g ad (stM M q0 i.toNat z)) H1 → va_S (aS N ad) H0 H1 locs1 → W p l e R s m args below meth c H1 locs1 cells slots Q (F0 m (pc + 1) ls rest)) : W p l e R s m args below meth c H locs cells slots Q (F0 m pc ls (.int (J z) :: .int (J i) :: .ref (ad q0) :: rest)) := by
  have hD := wL_D (g := g) hI M
  refine va_iast hx hb hK hP hD hS q0 t0 (wL_get hq (hg _)) ht (J_in hn hi) hdg (fun H1 locs1 hP1 _ hS1 => kk H1 locs1 ?_ hS1)
  rw [J_nat hi.1 (by omega)] at hP1
  rw [← wL_set (M := M) (M1 := stM M q0 i.toNat z) (c := q0) (e := .inl (cA, n, .inl (upd (fun j => J (M q0 j)) i.toNat (J z)))) (by rw [hg, stM_upd]) stM_o]
  exact hP1
theorem J_nC {z : Int} (hz : 0 ≤ z ∧ z ≤ 65535) : vp_nar .char (J z) = J z := by
  obtain ⟨q, rfl⟩ : ∃ q : Nat, z = q := ⟨z.toNat, by omega⟩
  have h := (pk_charN (q := q) (by omega)).1
  have e : nI q = J (q : Int) := rfl
  rw [e] at h
  unfold vp_nar
  rw [h]
theorem jx_cast (hx : p.tables.exec = Jvm.exec) (hb : c.code = cc) (hK : va_K D cl tys s) (hP : va_P D cl (wL N g ad M) H) (hI : aInj N ad) {H0 : Heap} (hS : va_S (aS N ad) H0 H locs) (q0 t0 : Nat) (hq : q0 < N) {cA : ClassId} {n : Nat} (hg : ∀ f, g q0 f = .inl (cA, n, .inl (fun j => J (f j)))) (ht : tys[t0]? = some (cA, .char)) {i z : Int} (hn : n ≤ 2147483647) (hi : 0 ≤ i ∧ i < n) (hz : 0 ≤ z ∧ z ≤ 65535) (hdg : decode cc pc = .ok (.castore, 1)) (kk : ∀ (H1 : Heap) (locs1 : List Loc), va_P D cl (wL N g ad (stM M q0 i.toNat z)) H1 → va_S (aS N ad) H0 H1 locs1 → W p l e R s m args below meth c H1 locs1 cells slots Q (F0 m (pc + 1) ls rest)) : W p l e R s m args below meth c H locs cells slots Q (F0 m pc ls (.int (J z) :: .int (J i) :: .ref (ad q0) :: rest)) := by
  have hD := wL_D (g := g) hI M
  refine va_cast hx hb hK hP hD hS q0 t0 (wL_get hq (hg _)) ht (J_in hn hi) hdg (fun H1 locs1 hP1 _ hS1 => kk H1 locs1 ?_ hS1)
  rw [J_nat hi.1 (by omega), J_nC hz] at hP1
  rw [← wL_set (M := M) (M1 := stM M q0 i.toNat z) (c := q0) (e := .inl (cA, n, .inl (upd (fun j => J (M q0 j)) i.toNat (J z)))) (by rw [hg, stM_upd]) stM_o]
  exact hP1
theorem J_nZ {z : Int} (hz : z = 0 ∨ z = 1) : vp_nar .boolean (J z) = J z := by
  rcases hz with rfl | rfl <;> decide +kernel
theorem jx_zast (hx : p.tables.exec = Jvm.exec) (hb : c.code = cc) (hK : va_K D cl tys s) (hP : va_P D cl (wL N g ad M) H) (hI : aInj N ad) {H0 : Heap} (hS : va_S (aS N ad) H0 H locs) (q0 t0 : Nat) (hq : q0 < N) {cA : ClassId} {n : Nat} (hg : ∀ f, g q0 f = .inl (cA, n, .inl (fun j => J (f j)))) (ht : tys[t0]? = some (cA, .boolean)) {i z : Int} (hn : n ≤ 2147483647) (hi : 0 ≤ i ∧ i < n) (hz : z = 0 ∨ z = 1) (hdg : decode cc pc = .ok (.bastore, 1)) (kk : ∀ (H1 : Heap) (locs1 : List Loc), va_P D cl (wL N g ad (stM M q0 i.toNat z)) H1 → va_S (aS N ad) H0 H1 locs1 → W p l e R s m args below meth c H1 locs1 cells slots Q (F0 m (pc + 1) ls rest)) : W p l e R s m args below meth c H locs cells slots Q (F0 m pc ls (.int (J z) :: .int (J i) :: .ref (ad q0) :: rest)) := by
  have hD := wL_D (g := g) hI M
  refine va_zast hx hb hK hP hD hS q0 t0 (wL_get hq (hg _)) ht (J_in hn hi) hdg (fun H1 locs1 hP1 _ hS1 => kk H1 locs1 ?_ hS1)
  rw [J_nat hi.1 (by omega), J_nZ hz] at hP1
  rw [← wL_set (M := M) (M1 := stM M q0 i.toNat z) (c := q0) (e := .inl (cA, n, .inl (upd (fun j => J (M q0 j)) i.toNat (J z)))) (by rw [hg, stM_upd]) stM_o]
  exact hP1
theorem jx_aald (hx : p.tables.exec = Jvm.exec) (hb : c.code = cc) (hK : va_K D cl tys s) (hP : va_P D cl (wL N g ad M) H) (q0 t0 : Nat) (hq : q0 < N) {cA : ClassId} {n : Nat} {C : String} {F : Nat → Nat} (hg : ∀ f, g q0 f = .inl (cA, n, .inr (.inr (.inr (.inr (fun j => some (F j))))))) (ht : tys[t0]? = some (cA, .object C)) {i : Int} (hn : n ≤ 2147483647) (hi : 0 ≤ i ∧ i < n) (hdg : decode cc pc = .ok (.aaload, 1)) (kk : W p l e R s m args below meth c H locs cells slots Q (F0 m (pc + 1) ls (.ref (F i.toNat) :: rest))) : W p l e R s m args below meth c H locs cells slots Q (F0 m pc ls (.int (J i) :: .ref (ad q0) :: rest)) := va_aldq hx hb hK hP q0 t0 (wL_get hq (hg _)) ht (J_in hn hi) hdg (by rw [J_nat hi.1 (by omega)]; exact kk)
theorem jx_alen (hx : p.tables.exec = Jvm.exec) (hb : c.code = cc) (hK : va_K D cl tys s) (hP : va_P D cl (wL N g ad M) H) (q0 t0 : Nat) (hq : q0 < N) {cA : ClassId} {n : Nat} (hg : ∀ f, g q0 f = .inl (cA, n, .inl (fun j => J (f j)))) {ty : FieldType} (ht : tys[t0]? = some (cA, ty)) (hdg : decode cc pc = .ok (.arraylength, 1)) (kk : W p l e R s m args below meth c H locs cells slots Q (F0 m (pc + 1) ls (.int (J (n : Int)) :: rest))) : W p l e R s m args below meth c H locs cells slots Q (F0 m pc ls (.ref (ad q0) :: rest)) := va_alen hx hb hK hP q0 t0 (wL_get hq (hg _)) ht (v := J (n : Int)) rfl hdg kk
theorem jx_copy (hx : p.tables.exec = Jvm.exec) (hb : c.code = cc) (hml : c.maxLocals = ls.size) {own : String} {index : Nat} (hown : s.vm.findClass own = some m.cls) (hlink : (Cond.methodLink own index arraycopyName).before args s = true) (hnat : (Cond.native arraycopyName).before args s = true) (hstat : (Cond.static arraycopyName).before args s = true) (hini : (Cond.initialized "java/lang/System").before args s = true)
    (hK : va_K D cl tys s) (hP : va_P D cl (wL N g ad M) H) (hI : aInj N ad) {H0 : Heap} (hS : va_S (aS N ad) H0 H locs) (q0 q1 t0 : Nat) (hq0 : q0 < N) (hq1 : q1 < N) {cA : ClassId} {n0 n1 : Nat} (hg0 : ∀ f, g q0 f = .inl (cA, n0, .inl (fun j => J (f j)))) (hg1 : ∀ f, g q1 f = .inl (cA, n1, .inl (fun j => J (f j)))) (ht : tys[t0]? = some (cA, .int)) {sp dp n : Int} (hn0 : n0 ≤ 2147483647) (hn1 : n1 ≤ 2147483647) (h : 0 ≤ sp ∧ 0 ≤ dp ∧ 0 ≤ n ∧ sp + n ≤ n0 ∧ dp + n ≤ n1)
    (hframes : 1 ≤ R.frames) (hlocals : (rest.map fun v => v.category).sum + (nativeFrameWords "java/lang/System" "arraycopy" 5 + 11) ≤ R.locals) (hdg : decode cc pc = .ok (.invokestatic index, 3))
    (kk : ∀ (H1 : Heap) (locs1 : List Loc), va_P D cl (wL N g ad (cpM M q0 sp.toNat q1 dp.toNat n.toNat)) H1 → va_S (aS N ad) H0 H1 locs1 → W p l e R s m args below meth c H1 locs1 cells slots Q (F0 m (pc + 3) ls rest)) : W p l e R s m args below meth c H locs cells slots Q (F0 m pc ls (.int (J n) :: .int (J dp) :: .ref (ad q1) :: .int (J sp) :: .ref (ad q0) :: rest)) := by
  obtain ⟨a1, a2, a3, a4, a5⟩ := h
  have hD := wL_D (g := g) hI M
  have esp := J_nat a1 (show sp ≤ 2147483647 by omega)
  have edp := J_nat a2 (show dp ≤ 2147483647 by omega)
  have en := J_nat a3 (show n ≤ 2147483647 by omega)
  have nn : ∀ z : Int, 0 ≤ z → z ≤ 2147483647 → ¬ J z < 0 := fun z h1 h2 q => by
    rw [← J_0, J_lt ⟨by omega, h2⟩ inR0] at q
    omega
  refine va_copyi hx hb hml hown hlink hnat hstat hini hK hP hD hS q0 q1 t0 t0 (wL_get hq0 (hg0 _)) (wL_get hq1 (hg1 _)) ht ht rfl (nn sp a1 (by omega)) (nn dp a2 (by omega)) (nn n a3 (by omega)) (by rw [esp, en]; omega) (by rw [edp, en]; omega) (fun i _ => rfl) hframes hlocals hdg (fun H1 locs1 hP1 _ hS1 => kk H1 locs1 ?_ hS1)
  rw [esp, edp, en] at hP1
  rw [← wL_set (M := M) (M1 := cpM M q0 sp.toNat q1 dp.toNat n.toNat) (c := q1) (e := .inl (cA, n1, .inl (va_cpy (fun j => J (M q0 j)) (fun j => J (M q1 j)) sp.toNat dp.toNat n.toNat))) ?_ cpM_o]
  · exact hP1
  · rw [hg1]
    congr 3
    funext j
    unfold cpM va_cpy
    by_cases q : dp.toNat ≤ j ∧ j < dp.toNat + n.toNat
    · rw [if_pos ⟨rfl, q⟩, if_pos q]
    · rw [if_neg (fun z => q z.2), if_neg q]
end JW
-- calls and ends
section JC
variable {p : Program} {l : Launch} {e : Env} {R : Room} {s : State} {m : MethodId} {args : Array Value} {below : List Frame} {meth : Method} {c : Code} {H : Heap} {locs : List Loc} {cells slots : Nat} {Q : State → Prop}
variable {pc : Nat} {ls : Array Slot} {rest st0 : List Value} {a : Array Value} {A : Nat → Prop} {H0 : Heap} {φ : Prop} {O : State → Prop}
abbrev RmC (fr lo : Nat) : Room := { frames := fr, cells := 0, slots := 0, locals := lo }
abbrev CI (l : Launch) (y : MethodName) (ws : List Cond) (fr lo : Nat) (vs : List Value) (P : State → Prop) (r : Int) (φ : Prop) (O : State → Prop) (A : Nat → Prop) : Prop := Met l y ws (RmC fr lo) (va_Pc vs P) (va_Qi (fun x (_ : Unit) => x = J r ∧ φ) (fun _ => O) A) 0 0 A
abbrev CV (l : Launch) (y : MethodName) (ws : List Cond) (fr lo : Nat) (vs : List Value) (P : State → Prop) (φ : Prop) (O : State → Prop) (A : Nat → Prop) : Prop := Met l y ws (RmC fr lo) (va_Pc vs P) (va_Qv (fun (_ : Unit) => φ) (fun _ => O) A) 0 0 A
abbrev CLg (l : Launch) (y : MethodName) (ws : List Cond) (fr lo : Nat) (vs : List Value) (P : State → Prop) (r : Int64) (φ : Prop) (O : State → Prop) (A : Nat → Prop) : Prop := Met l y ws (RmC fr lo) (va_Pc vs P) (va_Ql (fun x (_ : Unit) => x = r ∧ φ) (fun _ => O) A) 0 0 A
theorem jc_i {r : Int} (hr : va_Run p l e R s m args below meth c H locs cells slots 0 0 (F0 m pc ls st0) rest (va_Qi (fun x (_ : Unit) => x = J r ∧ φ) (fun _ => O) A a) A) (hS : va_S A H0 H locs) (kk : ∀ (H1 : Heap) (locs1 : List Loc) (t : State), t.heap = H1 → φ → O t → va_S A H0 H1 locs1 → W p l e R s m args below meth c H1 locs1 cells slots Q (F0 m (pc + 3) ls (.int (J r) :: rest))) : W p l e R s m args below meth c H locs cells slots Q (F0 m pc ls st0) := va_calli hr hS (fun _ _ h => h) (fun _ h => h) (fun r' _ t H1 locs1 ht _ hw hB _ _ hS1 => by
  obtain ⟨e1, hφ⟩ := hw
  subst e1
  exact kk H1 locs1 t ht hφ hB hS1)
theorem jc_v (hr : va_Run p l e R s m args below meth c H locs cells slots 0 0 (F0 m pc ls st0) rest (va_Qv (fun (_ : Unit) => φ) (fun _ => O) A a) A) (hS : va_S A H0 H locs) (kk : ∀ (H1 : Heap) (locs1 : List Loc) (t : State), t.heap = H1 → φ → O t → va_S A H0 H1 locs1 → W p l e R s m args below meth c H1 locs1 cells slots Q (F0 m (pc + 3) ls rest)) : W p l e R s m args below meth c H locs cells slots Q (F0 m pc ls st0) := va_callv hr hS (fun _ _ h => h) (fun _ h => h) (fun _ t H1 locs1 ht _ hw hB _ _ hS1 => kk H1 locs1 t ht hw hB hS1)
theorem jc_l {r : Int64} (hr : va_Run p l e R s m args below meth c H locs cells slots 0 0 (F0 m pc ls st0) rest (va_Ql (fun x (_ : Unit) => x = r ∧ φ) (fun _ => O) A a) A) (hS : va_S A H0 H locs) (kk : ∀ (H1 : Heap) (locs1 : List Loc) (t : State), t.heap = H1 → φ → O t → va_S A H0 H1 locs1 → W p l e R s m args below meth c H1 locs1 cells slots Q (F0 m (pc + 3) ls (.long r :: rest))) : W p l e R s m args below meth c H locs cells slots Q (F0 m pc ls st0) := va_calll hr hS (fun _ _ h => h) (fun _ h => h) (fun r' _ t H1 locs1 ht _ hw hB _ _ hS1 => by
  obtain ⟨e1, hφ⟩ := hw
  subst e1
  exact kk H1 locs1 t ht hφ hB hS1)
theorem jend_i {ty : FieldType} {v res : Int} (hx : p.tables.exec = Jvm.exec) {cc : ByteArray} (hb : c.code = cc) (hr : meth.sig.returnType = some ty) (hn : narrow ty (.int (J v)) = .int (J v)) (hS : va_S A s.heap H locs) (hv : v = res) (hφ : φ) (hO : ∀ t : State, t.heap = H → O t) (hdg : decode cc pc = .ok (.ireturn, 1)) (hlocks : meth.locks = false) : W p l e R s m args below meth c H locs 0 0 (MQ below (va_Qi (fun x (_ : Unit) => x = J res ∧ φ) (fun _ => O) A) args s 0 0 A) (F0 m pc ls [.int (J v)]) := W.zret (ty := ty) hx hb hr hn (fun t ht _ => ⟨⟨J v, (), rfl, ⟨by rw [hv], hφ⟩, hO t ht⟩, hS.F ht⟩) hS.2.2 hdg hlocks
theorem jend_l {v res : Int64} (hx : p.tables.exec = Jvm.exec) {cc : ByteArray} (hb : c.code = cc) (hr : meth.sig.returnType = some .long) (hS : va_S A s.heap H locs) (hv : v = res) (hφ : φ) (hO : ∀ t : State, t.heap = H → O t) (hdg : decode cc pc = .ok (.lreturn, 1)) (hlocks : meth.locks = false) : W p l e R s m args below meth c H locs 0 0 (MQ below (va_Ql (fun x (_ : Unit) => x = res ∧ φ) (fun _ => O) A) args s 0 0 A) (F0 m pc ls [.long v]) := W.lret hx hb hr (fun t ht _ => ⟨⟨v, (), rfl, ⟨hv, hφ⟩, hO t ht⟩, hS.F ht⟩) hS.2.2 hdg hlocks
theorem jend_v (hx : p.tables.exec = Jvm.exec) {cc : ByteArray} (hb : c.code = cc) (hr : meth.sig.returnType = none) (hS : va_S A s.heap H locs) (hφ : φ) (hO : ∀ t : State, t.heap = H → O t) (hdg : decode cc pc = .ok (.return_, 1)) (hlocks : meth.locks = false) : W p l e R s m args below meth c H locs 0 0 (MQ below (va_Qv (fun (_ : Unit) => φ) (fun _ => O) A) args s 0 0 A) (F0 m pc ls []) := W.vret hx hb hr (fun t ht _ => ⟨⟨(), rfl, hφ, hO t ht⟩, hS.F ht⟩) hS.2.2 hdg hlocks
end JC
end
section
/-! THE TWO WORLDS: the class has 75 cells (11 roads of 5, 2 plans of 6, history, states, slots, saved, pad, signs, told, the object), the reference 18 -/
abbrev tyX (ca : Nat → ClassId) : List (ClassId × FieldType) := [(ca 0, .int), (ca 1, .char), (ca 2, .boolean), (ca 3, .object "VisitVans$Road")]
def gX (ca : Nat → ClassId) (ad : Nat → Nat) (c : Nat) (f : Nat → Int) : va_E :=
  if c < 55 then
    if c % 5 = 0 then .inr (3, [.ref (ad (c + 1)), .ref (ad (c + 2)), .ref (ad (c + 3)), .ref (ad (c + 4)), .int (J (f 4)), .int (J (f 5))])
    else if c % 5 = 1 then .inl (ca 0, 3, .inl (fun j => J (f j)))
    else if c % 5 = 2 then .inl (ca 0, 126, .inl (fun j => J (f j)))
    else if c % 5 = 3 then .inl (ca 0, 8, .inl (fun j => J (f j)))
    else .inl (ca 0, 20, .inl (fun j => J (f j)))
  else if c < 67 then
    if (c - 55) % 6 = 0 then .inr (2, [.ref (ad (c + 1)), .ref (ad (c + 2)), .ref (ad (c + 3)), .ref (ad (c + 4)), .ref (ad (c + 5)), .int (J (f 5)), .int (J (f 6))])
    else if (c - 55) % 6 = 1 then .inl (ca 0, 21, .inl (fun j => J (f j)))
    else if (c - 55) % 6 = 2 then .inl (ca 0, 84, .inl (fun j => J (f j)))
    else if (c - 55) % 6 = 3 then .inl (ca 0, 24, .inl (fun j => J (f j)))
    else if (c - 55) % 6 = 4 then .inl (ca 0, 20, .inl (fun j => J (f j)))
    else .inl (ca 0, 1008, .inl (fun j => J (f j)))
  else if c = 67 then .inr (0, [.ref (ad 68), .int (J (f 1)), .int (J (f 2))])
  else if c = 68 then .inl (ca 3, 7, .inr (.inr (.inr (.inr (fun j => some (ad (5 * (4 + j))))))))
  else if c = 69 then .inl (ca 3, 2, .inr (.inr (.inr (.inr (fun j => some (ad (5 * (2 + j))))))))
  else if c = 70 then .inl (ca 2, 2, .inl (fun j => J (f j)))
  else if c = 71 then .inr (1, [.ref (ad 72), .int (J (f 1)), .int (J (f 2)), .int (J (f 3)), .ref (ad 73), .int (J (f 5))])
  else if c = 72 then .inl (ca 1, 80, .inl (fun j => J (f j)))
  else if c = 73 then .inl (ca 0, 6, .inl (fun j => J (f j)))
  else .inr (4, [.ref (ad (5 * 0)), .ref (ad (55 + 6 * 0)), .ref (ad (5 * 1)), .ref (ad (55 + 6 * 1)), .ref (ad 67), .ref (ad 69), .ref (ad 70), .ref (ad 71)])
section GX
variable {ca : Nat → ClassId} {ad : Nat → Nat} {M : MM}
theorem gX_r0 {r : Nat} (h : r < 11) (f : Nat → Int) : gX ca ad (5 * r) f = .inr (3, [.ref (ad (5 * r + 1)), .ref (ad (5 * r + 2)), .ref (ad (5 * r + 3)), .ref (ad (5 * r + 4)), .int (J (f 4)), .int (J (f 5))]) := by
  unfold gX
  rw [if_pos (by omega), if_pos (by omega)]
theorem gX_r1 {r : Nat} (h : r < 11) (f : Nat → Int) : gX ca ad (5 * r + 1) f = .inl (ca 0, 3, .inl (fun j => J (f j))) := by
  unfold gX
  rw [if_pos (by omega), if_neg (by omega), if_pos (by omega)]
theorem gX_r2 {r : Nat} (h : r < 11) (f : Nat → Int) : gX ca ad (5 * r + 2) f = .inl (ca 0, 126, .inl (fun j => J (f j))) := by
  unfold gX
  rw [if_pos (by omega), if_neg (by omega), if_neg (by omega), if_pos (by omega)]
theorem gX_r3 {r : Nat} (h : r < 11) (f : Nat → Int) : gX ca ad (5 * r + 3) f = .inl (ca 0, 8, .inl (fun j => J (f j))) := by
  unfold gX
  rw [if_pos (by omega), if_neg (by omega), if_neg (by omega), if_neg (by omega), if_pos (by omega)]
theorem gX_r4 {r : Nat} (h : r < 11) (f : Nat → Int) : gX ca ad (5 * r + 4) f = .inl (ca 0, 20, .inl (fun j => J (f j))) := by
  unfold gX
  rw [if_pos (by omega), if_neg (by omega), if_neg (by omega), if_neg (by omega), if_neg (by omega)]
theorem gX_p0 {r : Nat} (h : r < 2) (f : Nat → Int) : gX ca ad (55 + 6 * r) f = .inr (2, [.ref (ad (55 + 6 * r + 1)), .ref (ad (55 + 6 * r + 2)), .ref (ad (55 + 6 * r + 3)), .ref (ad (55 + 6 * r + 4)), .ref (ad (55 + 6 * r + 5)), .int (J (f 5)), .int (J (f 6))]) := by
  unfold gX
  rw [if_neg (by omega), if_pos (by omega), if_pos (by omega)]
theorem gX_p1 {r : Nat} (h : r < 2) (f : Nat → Int) : gX ca ad (55 + 6 * r + 1) f = .inl (ca 0, 21, .inl (fun j => J (f j))) := by
  unfold gX
  rw [if_neg (by omega), if_pos (by omega), if_neg (by omega), if_pos (by omega)]
theorem gX_p2 {r : Nat} (h : r < 2) (f : Nat → Int) : gX ca ad (55 + 6 * r + 2) f = .inl (ca 0, 84, .inl (fun j => J (f j))) := by
  unfold gX
  rw [if_neg (by omega), if_pos (by omega), if_neg (by omega), if_neg (by omega), if_pos (by omega)]
theorem gX_p3 {r : Nat} (h : r < 2) (f : Nat → Int) : gX ca ad (55 + 6 * r + 3) f = .inl (ca 0, 24, .inl (fun j => J (f j))) := by
  unfold gX
  rw [if_neg (by omega), if_pos (by omega), if_neg (by omega), if_neg (by omega), if_neg (by omega), if_pos (by omega)]
theorem gX_p4 {r : Nat} (h : r < 2) (f : Nat → Int) : gX ca ad (55 + 6 * r + 4) f = .inl (ca 0, 20, .inl (fun j => J (f j))) := by
  unfold gX
  rw [if_neg (by omega), if_pos (by omega), if_neg (by omega), if_neg (by omega), if_neg (by omega), if_neg (by omega), if_pos (by omega)]
theorem gX_p5 {r : Nat} (h : r < 2) (f : Nat → Int) : gX ca ad (55 + 6 * r + 5) f = .inl (ca 0, 1008, .inl (fun j => J (f j))) := by
  unfold gX
  rw [if_neg (by omega), if_pos (by omega), if_neg (by omega), if_neg (by omega), if_neg (by omega), if_neg (by omega), if_neg (by omega)]
theorem gX_h0 (f : Nat → Int) : gX ca ad 67 f = .inr (0, [.ref (ad 68), .int (J (f 1)), .int (J (f 2))]) := rfl
theorem gX_h1 (f : Nat → Int) : gX ca ad 68 f = .inl (ca 3, 7, .inr (.inr (.inr (.inr (fun j => some (ad (5 * (4 + j)))))))) := rfl
theorem gX_sl (f : Nat → Int) : gX ca ad 69 f = .inl (ca 3, 2, .inr (.inr (.inr (.inr (fun j => some (ad (5 * (2 + j)))))))) := rfl
theorem gX_sv (f : Nat → Int) : gX ca ad 70 f = .inl (ca 2, 2, .inl (fun j => J (f j))) := rfl
theorem gX_d0 (f : Nat → Int) : gX ca ad 71 f = .inr (1, [.ref (ad 72), .int (J (f 1)), .int (J (f 2)), .int (J (f 3)), .ref (ad 73), .int (J (f 5))]) := rfl
theorem gX_d1 (f : Nat → Int) : gX ca ad 72 f = .inl (ca 1, 80, .inl (fun j => J (f j))) := rfl
theorem gX_d2 (f : Nat → Int) : gX ca ad 73 f = .inl (ca 0, 6, .inl (fun j => J (f j))) := rfl
theorem gX_x0 (f : Nat → Int) : gX ca ad 74 f = .inr (4, [.ref (ad (5 * 0)), .ref (ad (55 + 6 * 0)), .ref (ad (5 * 1)), .ref (ad (55 + 6 * 1)), .ref (ad 67), .ref (ad 69), .ref (ad 70), .ref (ad 71)]) := rfl
theorem stM_eq {c k : Nat} {z : Int} : stM M c k z c k = z := if_pos ⟨rfl, rfl⟩
theorem stM_ne {c k j : Nat} {z : Int} (h : ¬ j = k) : stM M c k z c j = M c j := if_neg (fun q => h q.2)
theorem gX_r0_s4 {r : Nat} (h : r < 11) {z : Int} : gX ca ad (5 * r) (stM M (5 * r) 4 z (5 * r)) = .inr (3, [.ref (ad (5 * r + 1)), .ref (ad (5 * r + 2)), .ref (ad (5 * r + 3)), .ref (ad (5 * r + 4)), .int (J z), .int (J (M (5 * r) 5))]) := by
  rw [gX_r0 h, stM_eq, stM_ne (by decide)]
theorem gX_r0_s5 {r : Nat} (h : r < 11) {z : Int} : gX ca ad (5 * r) (stM M (5 * r) 5 z (5 * r)) = .inr (3, [.ref (ad (5 * r + 1)), .ref (ad (5 * r + 2)), .ref (ad (5 * r + 3)), .ref (ad (5 * r + 4)), .int (J (M (5 * r) 4)), .int (J z)]) := by
  rw [gX_r0 h, stM_ne (by decide), stM_eq]
theorem gX_p0_s5 {r : Nat} (h : r < 2) {z : Int} : gX ca ad (55 + 6 * r) (stM M (55 + 6 * r) 5 z (55 + 6 * r)) = .inr (2, [.ref (ad (55 + 6 * r + 1)), .ref (ad (55 + 6 * r + 2)), .ref (ad (55 + 6 * r + 3)), .ref (ad (55 + 6 * r + 4)), .ref (ad (55 + 6 * r + 5)), .int (J z), .int (J (M (55 + 6 * r) 6))]) := by
  rw [gX_p0 h, stM_eq, stM_ne (by decide)]
theorem gX_p0_s6 {r : Nat} (h : r < 2) {z : Int} : gX ca ad (55 + 6 * r) (stM M (55 + 6 * r) 6 z (55 + 6 * r)) = .inr (2, [.ref (ad (55 + 6 * r + 1)), .ref (ad (55 + 6 * r + 2)), .ref (ad (55 + 6 * r + 3)), .ref (ad (55 + 6 * r + 4)), .ref (ad (55 + 6 * r + 5)), .int (J (M (55 + 6 * r) 5)), .int (J z)]) := by
  rw [gX_p0 h, stM_ne (by decide), stM_eq]
theorem gX_h0_s1 {z : Int} : gX ca ad 67 (stM M 67 1 z 67) = .inr (0, [.ref (ad 68), .int (J z), .int (J (M 67 2))]) := by
  rw [gX_h0, stM_eq, stM_ne (by decide)]
theorem gX_h0_s2 {z : Int} : gX ca ad 67 (stM M 67 2 z 67) = .inr (0, [.ref (ad 68), .int (J (M 67 1)), .int (J z)]) := by
  rw [gX_h0, stM_ne (by decide), stM_eq]
theorem gX_d0_s1 {z : Int} : gX ca ad 71 (stM M 71 1 z 71) = .inr (1, [.ref (ad 72), .int (J z), .int (J (M 71 2)), .int (J (M 71 3)), .ref (ad 73), .int (J (M 71 5))]) := by
  rw [gX_d0, stM_eq, stM_ne (by decide), stM_ne (by decide), stM_ne (by decide)]
theorem gX_d0_s2 {z : Int} : gX ca ad 71 (stM M 71 2 z 71) = .inr (1, [.ref (ad 72), .int (J (M 71 1)), .int (J z), .int (J (M 71 3)), .ref (ad 73), .int (J (M 71 5))]) := by
  rw [gX_d0, stM_ne (by decide), stM_eq, stM_ne (by decide), stM_ne (by decide)]
theorem gX_d0_s3 {z : Int} : gX ca ad 71 (stM M 71 3 z 71) = .inr (1, [.ref (ad 72), .int (J (M 71 1)), .int (J (M 71 2)), .int (J z), .ref (ad 73), .int (J (M 71 5))]) := by
  rw [gX_d0, stM_ne (by decide), stM_ne (by decide), stM_eq, stM_ne (by decide)]
theorem gX_d0_s5 {z : Int} : gX ca ad 71 (stM M 71 5 z 71) = .inr (1, [.ref (ad 72), .int (J (M 71 1)), .int (J (M 71 2)), .int (J (M 71 3)), .ref (ad 73), .int (J z)]) := by
  rw [gX_d0, stM_ne (by decide), stM_ne (by decide), stM_ne (by decide), stM_eq]
end GX
def gY (ca : Nat → ClassId) (ad : Nat → Nat) (c : Nat) (f : Nat → Int) : va_E :=
  if c = 0 then .inr (5, [.int (J (f 0)), .ref (ad 1), .ref (ad 2), .int (J (f 3)), .ref (ad 3), .ref (ad 4), .ref (ad 5), .int (J (f 7)), .ref (ad 6), .ref (ad 7), .ref (ad 8), .ref (ad 9), .ref (ad 10), .ref (ad 11), .ref (ad 12), .ref (ad 13), .ref (ad 14), .ref (ad 15), .ref (ad 16), .int (J (f 19)), .int (J (f 20)), .ref (ad 17), .int (J (f 22))])
  else if c = 1 then .inl (ca 0, 160, .inl (fun j => J (f j)))
  else if c = 2 then .inl (ca 0, 918, .inl (fun j => J (f j)))
  else if c = 3 then .inl (ca 0, 306, .inl (fun j => J (f j)))
  else if c = 4 then .inl (ca 2, 2, .inl (fun j => J (f j)))
  else if c = 5 then .inl (ca 0, 80, .inl (fun j => J (f j)))
  else if c = 6 then .inl (ca 0, 21, .inl (fun j => J (f j)))
  else if c = 7 then .inl (ca 0, 21, .inl (fun j => J (f j)))
  else if c = 8 then .inl (ca 0, 21, .inl (fun j => J (f j)))
  else if c = 9 then .inl (ca 0, 21, .inl (fun j => J (f j)))
  else if c = 10 then .inl (ca 0, 21, .inl (fun j => J (f j)))
  else if c = 11 then .inl (ca 0, 21, .inl (fun j => J (f j)))
  else if c = 12 then .inl (ca 0, 4, .inl (fun j => J (f j)))
  else if c = 13 then .inl (ca 0, 4, .inl (fun j => J (f j)))
  else if c = 14 then .inl (ca 0, 20, .inl (fun j => J (f j)))
  else if c = 15 then .inl (ca 0, 4, .inl (fun j => J (f j)))
  else if c = 16 then .inl (ca 0, 4, .inl (fun j => J (f j)))
  else .inl (ca 0, 294, .inl (fun j => J (f j)))
section GY
variable {ca : Nat → ClassId} {ad : Nat → Nat} {M : MM}
theorem gY_0 (f : Nat → Int) : gY ca ad 0 f = .inr (5, [.int (J (f 0)), .ref (ad 1), .ref (ad 2), .int (J (f 3)), .ref (ad 3), .ref (ad 4), .ref (ad 5), .int (J (f 7)), .ref (ad 6), .ref (ad 7), .ref (ad 8), .ref (ad 9), .ref (ad 10), .ref (ad 11), .ref (ad 12), .ref (ad 13), .ref (ad 14), .ref (ad 15), .ref (ad 16), .int (J (f 19)), .int (J (f 20)), .ref (ad 17), .int (J (f 22))]) := rfl
theorem gY_1 (f : Nat → Int) : gY ca ad 1 f = .inl (ca 0, 160, .inl (fun j => J (f j))) := rfl
theorem gY_2 (f : Nat → Int) : gY ca ad 2 f = .inl (ca 0, 918, .inl (fun j => J (f j))) := rfl
theorem gY_3 (f : Nat → Int) : gY ca ad 3 f = .inl (ca 0, 306, .inl (fun j => J (f j))) := rfl
theorem gY_4 (f : Nat → Int) : gY ca ad 4 f = .inl (ca 2, 2, .inl (fun j => J (f j))) := rfl
theorem gY_5 (f : Nat → Int) : gY ca ad 5 f = .inl (ca 0, 80, .inl (fun j => J (f j))) := rfl
theorem gY_6 (f : Nat → Int) : gY ca ad 6 f = .inl (ca 0, 21, .inl (fun j => J (f j))) := rfl
theorem gY_7 (f : Nat → Int) : gY ca ad 7 f = .inl (ca 0, 21, .inl (fun j => J (f j))) := rfl
theorem gY_8 (f : Nat → Int) : gY ca ad 8 f = .inl (ca 0, 21, .inl (fun j => J (f j))) := rfl
theorem gY_9 (f : Nat → Int) : gY ca ad 9 f = .inl (ca 0, 21, .inl (fun j => J (f j))) := rfl
theorem gY_10 (f : Nat → Int) : gY ca ad 10 f = .inl (ca 0, 21, .inl (fun j => J (f j))) := rfl
theorem gY_11 (f : Nat → Int) : gY ca ad 11 f = .inl (ca 0, 21, .inl (fun j => J (f j))) := rfl
theorem gY_12 (f : Nat → Int) : gY ca ad 12 f = .inl (ca 0, 4, .inl (fun j => J (f j))) := rfl
theorem gY_13 (f : Nat → Int) : gY ca ad 13 f = .inl (ca 0, 4, .inl (fun j => J (f j))) := rfl
theorem gY_14 (f : Nat → Int) : gY ca ad 14 f = .inl (ca 0, 20, .inl (fun j => J (f j))) := rfl
theorem gY_15 (f : Nat → Int) : gY ca ad 15 f = .inl (ca 0, 4, .inl (fun j => J (f j))) := rfl
theorem gY_16 (f : Nat → Int) : gY ca ad 16 f = .inl (ca 0, 4, .inl (fun j => J (f j))) := rfl
theorem gY_17 (f : Nat → Int) : gY ca ad 17 f = .inl (ca 0, 294, .inl (fun j => J (f j))) := rfl
theorem gY_0_s0 {z : Int} : gY ca ad 0 (stM M 0 0 z 0) = .inr (5, [.int (J z), .ref (ad 1), .ref (ad 2), .int (J (M 0 3)), .ref (ad 3), .ref (ad 4), .ref (ad 5), .int (J (M 0 7)), .ref (ad 6), .ref (ad 7), .ref (ad 8), .ref (ad 9), .ref (ad 10), .ref (ad 11), .ref (ad 12), .ref (ad 13), .ref (ad 14), .ref (ad 15), .ref (ad 16), .int (J (M 0 19)), .int (J (M 0 20)), .ref (ad 17), .int (J (M 0 22))]) := by
  rw [gY_0, stM_eq, stM_ne (by decide), stM_ne (by decide), stM_ne (by decide), stM_ne (by decide), stM_ne (by decide)]
theorem gY_0_s3 {z : Int} : gY ca ad 0 (stM M 0 3 z 0) = .inr (5, [.int (J (M 0 0)), .ref (ad 1), .ref (ad 2), .int (J z), .ref (ad 3), .ref (ad 4), .ref (ad 5), .int (J (M 0 7)), .ref (ad 6), .ref (ad 7), .ref (ad 8), .ref (ad 9), .ref (ad 10), .ref (ad 11), .ref (ad 12), .ref (ad 13), .ref (ad 14), .ref (ad 15), .ref (ad 16), .int (J (M 0 19)), .int (J (M 0 20)), .ref (ad 17), .int (J (M 0 22))]) := by
  rw [gY_0, stM_ne (by decide), stM_eq, stM_ne (by decide), stM_ne (by decide), stM_ne (by decide), stM_ne (by decide)]
theorem gY_0_s7 {z : Int} : gY ca ad 0 (stM M 0 7 z 0) = .inr (5, [.int (J (M 0 0)), .ref (ad 1), .ref (ad 2), .int (J (M 0 3)), .ref (ad 3), .ref (ad 4), .ref (ad 5), .int (J z), .ref (ad 6), .ref (ad 7), .ref (ad 8), .ref (ad 9), .ref (ad 10), .ref (ad 11), .ref (ad 12), .ref (ad 13), .ref (ad 14), .ref (ad 15), .ref (ad 16), .int (J (M 0 19)), .int (J (M 0 20)), .ref (ad 17), .int (J (M 0 22))]) := by
  rw [gY_0, stM_ne (by decide), stM_ne (by decide), stM_eq, stM_ne (by decide), stM_ne (by decide), stM_ne (by decide)]
theorem gY_0_s19 {z : Int} : gY ca ad 0 (stM M 0 19 z 0) = .inr (5, [.int (J (M 0 0)), .ref (ad 1), .ref (ad 2), .int (J (M 0 3)), .ref (ad 3), .ref (ad 4), .ref (ad 5), .int (J (M 0 7)), .ref (ad 6), .ref (ad 7), .ref (ad 8), .ref (ad 9), .ref (ad 10), .ref (ad 11), .ref (ad 12), .ref (ad 13), .ref (ad 14), .ref (ad 15), .ref (ad 16), .int (J z), .int (J (M 0 20)), .ref (ad 17), .int (J (M 0 22))]) := by
  rw [gY_0, stM_ne (by decide), stM_ne (by decide), stM_ne (by decide), stM_eq, stM_ne (by decide), stM_ne (by decide)]
theorem gY_0_s20 {z : Int} : gY ca ad 0 (stM M 0 20 z 0) = .inr (5, [.int (J (M 0 0)), .ref (ad 1), .ref (ad 2), .int (J (M 0 3)), .ref (ad 3), .ref (ad 4), .ref (ad 5), .int (J (M 0 7)), .ref (ad 6), .ref (ad 7), .ref (ad 8), .ref (ad 9), .ref (ad 10), .ref (ad 11), .ref (ad 12), .ref (ad 13), .ref (ad 14), .ref (ad 15), .ref (ad 16), .int (J (M 0 19)), .int (J z), .ref (ad 17), .int (J (M 0 22))]) := by
  rw [gY_0, stM_ne (by decide), stM_ne (by decide), stM_ne (by decide), stM_ne (by decide), stM_eq, stM_ne (by decide)]
theorem gY_0_s22 {z : Int} : gY ca ad 0 (stM M 0 22 z 0) = .inr (5, [.int (J (M 0 0)), .ref (ad 1), .ref (ad 2), .int (J (M 0 3)), .ref (ad 3), .ref (ad 4), .ref (ad 5), .int (J (M 0 7)), .ref (ad 6), .ref (ad 7), .ref (ad 8), .ref (ad 9), .ref (ad 10), .ref (ad 11), .ref (ad 12), .ref (ad 13), .ref (ad 14), .ref (ad 15), .ref (ad 16), .int (J (M 0 19)), .int (J (M 0 20)), .ref (ad 17), .int (J z)]) := by
  rw [gY_0, stM_ne (by decide), stM_ne (by decide), stM_ne (by decide), stM_ne (by decide), stM_ne (by decide), stM_eq]
end GY
abbrev wX (ca : Nat → ClassId) (ad : Nat → Nat) (M : MM) : va_W := wL 75 (gX ca ad) ad M
abbrev wY (ca : Nat → ClassId) (ad : Nat → Nat) (M : MM) : va_W := wL 18 (gY ca ad) ad M
theorem oX_pre : True := trivial
-- what a state gives beside the world of the class: links among nest mates, three static rows, five texts
def lsM (j : Nat) : Int := if j = 0 then 1 else if j = 1 then 1 else 0
def msM (j : Nat) : Int := if j = 0 then 9 else if j = 1 then 120 else 300
def fsM (j : Nat) : Int := if j = 0 then 2 else if j = 1 then 30 else 120
def eN (U : State) : Prop := va_Nw (.methodLinkNest RX3 45 yX4_within RX4) U ∧ va_Nw (.methodLinkNest RX3 55 yX4_visitError RX4) U ∧ va_Nw (.methodLinkNest RX3 69 yX4_isPart RX4) U ∧ va_Nw (.methodLinkNest RX1 21 yX4_within RX4) U ∧ va_Nw (.fieldLinkNest RX3 49 "VisitVans" "LEAST_SETTING" "[I" RX4) U ∧ va_Nw (.fieldLinkNest RX3 52 "VisitVans" "MOST_SETTING" "[I" RX4) U
def eS (q : Nat × Nat) (A : Nat → Prop) (U : State) (H : Heap) : Prop := va_Z RX4 "LEAST_SETTING" "[I" (.ref q.1) A U H ∧ va_T .int q.1 3 (fun j => .int (J (lsM j))) A U H ∧ va_Z RX4 "MOST_SETTING" "[I" (.ref q.2) A U H ∧ va_T .int q.2 3 (fun j => .int (J (msM j))) A U H
def lenK : List Nat := [11, 3, 5, 1, 0]
def bytK : List (List Int32) := [[110, 35, 100, 43, 100, 42, 100, 58, 110, 45, 110], [110, 47, 115], [100, 43, 100, 61, 110], [110], []]
def eT (aK aV : Nat → Nat) (A : Nat → Prop) (U : State) (H : Heap) : Prop := (vk_R RX1 76 "n#d+d*d:n-n" (aK 0) U ∧ vk_R RX1 78 "n/s" (aK 1) U ∧ vk_R RX1 80 "d+d=n" (aK 2) U ∧ vk_R RX1 82 "n" (aK 3) U ∧ vk_R RX1 84 "" (aK 4) U) ∧ vk_S 5 lenK bytK aK aV A U H ∧ va_Z "java/lang/String" "COMPACT_STRINGS" "Z" (.int 1) A U H ∧ va_Zq "jdk/internal/util/Preconditions" "SIOOBE_FORMATTER" "Ljava/util/function/BiFunction;" A U H
abbrev EV : Type := (Nat × Nat) × (Nat → Nat) × (Nat → Nat)
def eX (v : EV) (A : Nat → Prop) (U : State) (H : Heap) : Prop := eN U ∧ eS v.1 A U H ∧ eT v.2.1 v.2.2 A U H
theorem eN_warm {s U : State} (hW : s.WarmedH U.vm) (h : eN s) : eN U := ⟨h.1.warmM hW, h.2.1.warmM hW, h.2.2.1.warmM hW, h.2.2.2.1.warmM hW, h.2.2.2.2.1.warmF hW, h.2.2.2.2.2.warmF hW⟩
theorem eX_at {v : EV} {A : Nat → Prop} {s U : State} {H : Heap} {locs : List Loc} (h : eX v A s s.heap) (hS : va_S A s.heap H locs) (hU : U.heap = H) (hW : s.WarmedH U.vm) : eX v A U U.heap := by
  obtain ⟨hN, ⟨z1, z2, z3, z4⟩, ⟨k1, k2, k3, k4, k5⟩, hs, hc, hq⟩ := h
  have hk : ∀ a : Nat, a < s.heap.size → ¬ A a → U.heap[a]? = s.heap[a]? := fun a h1 h2 => by rw [hU]; exact hS.2.1 a h1 h2
  exact ⟨eN_warm hW hN, ⟨va_Z.moved hW.alike (z1.kept hk), va_T.moved hW.alike (z2.kept hk), va_Z.moved hW.alike (z3.kept hk), va_T.moved hW.alike (z4.kept hk)⟩, ⟨k1.warm hW, k2.warm hW, k3.warm hW, k4.warm hW, k5.warm hW⟩, vk_S.moved hW.alike (hs.kept hk), va_Z.moved hW.alike (hc.kept hk), va_Zq.moved hW.alike (hq.kept hk)⟩
theorem eX_blind {v : EV} {A : Nat → Prop} {U : State} (a : Array Value) (g : JFrame) (mk : MethodId) (h : eX v A U U.heap) : eX v A (U.calling g mk a) (U.calling g mk a).heap := by
  obtain ⟨⟨n1, n2, n3, n4, n5, n6⟩, ⟨z1, z2, z3, z4⟩, ⟨k1, k2, k3, k4, k5⟩, hs, hc, hq⟩ := h
  have hv : (U.calling g mk a).vm = U.vm := rfl
  have ha : U.vm.Alike (U.calling g mk a).vm := Vm.Alike.refl U.vm
  exact ⟨⟨n1.same rfl hv.symm, n2.same rfl hv.symm, n3.same rfl hv.symm, n4.same rfl hv.symm, n5.same rfl hv.symm, n6.same rfl hv.symm⟩, ⟨va_Z.moved ha z1, va_T.moved ha z2, va_Z.moved ha z3, va_T.moved ha z4⟩, ⟨k1.same hv, k2.same hv, k3.same hv, k4.same hv, k5.same hv⟩, vk_S.moved ha hs, va_Z.moved ha hc, va_Zq.moved ha hq⟩
def PX (D : va_G) (ca : Nat → ClassId) (v : EV) (ad : Nat → Nat) (M : MM) (U : State) : Prop := va_P D vwCl (wX ca ad M) U.heap ∧ va_K D vwCl (tyX ca) U ∧ eX v (aS 75 ad) U U.heap
def OX (D : va_G) (ca : Nat → ClassId) (ad : Nat → Nat) (M : MM) (t : State) : Prop := va_P D vwCl (wX ca ad M) t.heap
def PY (D : va_G) (ca : Nat → ClassId) (ad : Nat → Nat) (M : MM) (U : State) : Prop := va_P D vwCl (wY ca ad M) U.heap ∧ va_K D vwCl (tyX ca) U
def OY (D : va_G) (ca : Nat → ClassId) (ad : Nat → Nat) (M : MM) (t : State) : Prop := va_P D vwCl (wY ca ad M) t.heap
theorem oX {D : va_G} {ca : Nat → ClassId} {ad : Nat → Nat} {M M' : MM} {H : Heap} (e : M = M') (hP : va_P D vwCl (wX ca ad M) H) : ∀ t : State, t.heap = H → OX D ca ad M' t := fun t ht => by
  rw [← e]
  show va_P D vwCl (wX ca ad M) t.heap
  rw [ht]
  exact hP
theorem oY {D : va_G} {ca : Nat → ClassId} {ad : Nat → Nat} {M M' : MM} {H : Heap} (e : M = M') (hP : va_P D vwCl (wY ca ad M) H) : ∀ t : State, t.heap = H → OY D ca ad M' t := fun t ht => by
  rw [← e]
  show va_P D vwCl (wY ca ad M) t.heap
  rw [ht]
  exact hP
theorem PX_blind {D : va_G} {ca : Nat → ClassId} {v : EV} {ad : Nat → Nat} {M : MM} {vs : List Value} : FrameBlind (va_Pc vs (PX D ca v ad M)) := fun a U g mk q => ⟨q.1, q.2.1, va_K.moved (u := U) (U := U.calling g mk a) (Vm.Alike.refl U.vm) q.2.2.1, eX_blind a g mk q.2.2.2⟩
theorem PY_blind {D : va_G} {ca : Nat → ClassId} {ad : Nat → Nat} {M : MM} {vs : List Value} : FrameBlind (va_Pc vs (PY D ca ad M)) := fun a U g mk q => ⟨q.1, q.2.1, va_K.moved (u := U) (U := U.calling g mk a) (Vm.Alike.refl U.vm) q.2.2⟩
section PP
variable {D : va_G} {ca : Nat → ClassId} {v : EV} {ad : Nat → Nat} {M : MM} {s : State} {H : Heap} {locs : List Loc}
theorem psX (hK : va_K D vwCl (tyX ca) s) (hE : eX v (aS 75 ad) s s.heap) (hP : va_P D vwCl (wX ca ad M) H) (hS : va_S (aS 75 ad) s.heap H locs) (As : List Value) : PreS s H (va_Pc As (PX D ca v ad M)) As :=
  ⟨PX_blind, fun U hU hW => ⟨rfl, by rw [hU]; exact hP, va_K.moved hW.alike hK, eX_at hE hS hU hW⟩⟩
theorem pvX (hK : va_K D vwCl (tyX ca) s) (hE : eX v (aS 75 ad) s s.heap) (hP : va_P D vwCl (wX ca ad M) H) (hS : va_S (aS 75 ad) s.heap H locs) (As : List Value) {c : Nat} (hc : c < 75) {ci : Nat} {fs : List Value} (hg : gX ca ad c (M c) = .inr (ci, fs)) {q : vw_C} (hq : vwCl[ci]? = some q) : PreV s H q.1 (ad c) (va_Pc (.ref (ad c) :: As) (PX D ca v ad M)) As :=
  ⟨PX_blind, va_recv hK hP hq (wL_get hc hg), fun U hU hW => ⟨rfl, by rw [hU]; exact hP, va_K.moved hW.alike hK, eX_at hE hS hU hW⟩⟩
theorem psY (hK : va_K D vwCl (tyX ca) s) (hP : va_P D vwCl (wY ca ad M) H) (As : List Value) : PreS s H (va_Pc As (PY D ca ad M)) As :=
  ⟨PY_blind, fun U hU hW => ⟨rfl, by rw [hU]; exact hP, va_K.moved hW.alike hK⟩⟩
theorem pvY (hK : va_K D vwCl (tyX ca) s) (hP : va_P D vwCl (wY ca ad M) H) (As : List Value) : PreV s H RX5 (ad 0) (va_Pc (.ref (ad 0) :: As) (PY D ca ad M)) As :=
  ⟨PY_blind, va_recv (q := (RX5, TX5, 23)) hK hP rfl (wL_get (by decide) (gY_0 _)), fun U hU hW => ⟨rfl, by rw [hU]; exact hP, va_K.moved hW.alike hK⟩⟩
end PP
end
