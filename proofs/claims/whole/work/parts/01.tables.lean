-- ===== PART A: goes FIRST, ahead of the names: the tables' words, and 'selects' of the private methods out of them =====
/-- a private method of a class that the tables say can be made, by its rows of tables_1 -/
def lw_okq (q : MethodName × Nat) : Prop := (q.1.cls ≠ "java/lang/invoke/MethodHandle" ∧ q.1.cls ≠ "java/lang/invoke/VarHandle") ∧ Cond.instantiable q.1.cls q.2 ∈ tables_1 ∧ Cond.privateMethod q.1 ∈ tables_1 ∧ Cond.instanceMethod q.1 ∈ tables_1
theorem lw_p0 : lw_okq (⟨"CreakBoards", "found", "(I)I"⟩, 19) := ⟨⟨by decide +kernel, by decide +kernel⟩, List.mem_of_getElem? (i := 14) (by decide +kernel), List.mem_of_getElem? (i := 359) (by decide +kernel), List.mem_of_getElem? (i := 360) (by decide +kernel)⟩
theorem lw_p1 : lw_okq (⟨"CreakBoards", "tell", "(I)I"⟩, 19) := ⟨⟨by decide +kernel, by decide +kernel⟩, List.mem_of_getElem? (i := 14) (by decide +kernel), List.mem_of_getElem? (i := 383) (by decide +kernel), List.mem_of_getElem? (i := 384) (by decide +kernel)⟩
theorem lw_p2 : lw_okq (⟨"CreakBoards", "faultOfNight", "(I)I"⟩, 19) := ⟨⟨by decide +kernel, by decide +kernel⟩, List.mem_of_getElem? (i := 14) (by decide +kernel), List.mem_of_getElem? (i := 422) (by decide +kernel), List.mem_of_getElem? (i := 423) (by decide +kernel)⟩
theorem lw_p3 : lw_okq (⟨"CreakBoards$Reader", "findItem", "()Z"⟩, 4) := ⟨⟨by decide +kernel, by decide +kernel⟩, List.mem_of_getElem? (i := 40) (by decide +kernel), List.mem_of_getElem? (i := 437) (by decide +kernel), List.mem_of_getElem? (i := 438) (by decide +kernel)⟩
theorem lw_p4 : lw_okq (⟨"CreakBoards$Reader", "ahead", "(I)Z"⟩, 4) := ⟨⟨by decide +kernel, by decide +kernel⟩, List.mem_of_getElem? (i := 40) (by decide +kernel), List.mem_of_getElem? (i := 441) (by decide +kernel), List.mem_of_getElem? (i := 442) (by decide +kernel)⟩
theorem lw_p5 : lw_okq (⟨"CreakBoards$Reader", "readEvent", "(LCreakBoards$House;LCreakBoards$Night;)V"⟩, 4) := ⟨⟨by decide +kernel, by decide +kernel⟩, List.mem_of_getElem? (i := 40) (by decide +kernel), List.mem_of_getElem? (i := 445) (by decide +kernel), List.mem_of_getElem? (i := 446) (by decide +kernel)⟩
theorem lw_p6 : lw_okq (⟨"CreakBoards$Reader", "kindAhead", "()I"⟩, 4) := ⟨⟨by decide +kernel, by decide +kernel⟩, List.mem_of_getElem? (i := 40) (by decide +kernel), List.mem_of_getElem? (i := 449) (by decide +kernel), List.mem_of_getElem? (i := 450) (by decide +kernel)⟩
theorem lw_p7 : lw_okq (⟨"CreakBoards$Reader", "figure", "(I)I"⟩, 4) := ⟨⟨by decide +kernel, by decide +kernel⟩, List.mem_of_getElem? (i := 40) (by decide +kernel), List.mem_of_getElem? (i := 461) (by decide +kernel), List.mem_of_getElem? (i := 462) (by decide +kernel)⟩
theorem lw_p8 : lw_okq (⟨"CreakBoards$Reader", "figureAhead", "()Z"⟩, 4) := ⟨⟨by decide +kernel, by decide +kernel⟩, List.mem_of_getElem? (i := 40) (by decide +kernel), List.mem_of_getElem? (i := 465) (by decide +kernel), List.mem_of_getElem? (i := 466) (by decide +kernel)⟩
theorem lw_p9 : lw_okq (⟨"CreakBoards$Reader", "expect", "(I)V"⟩, 4) := ⟨⟨by decide +kernel, by decide +kernel⟩, List.mem_of_getElem? (i := 40) (by decide +kernel), List.mem_of_getElem? (i := 473) (by decide +kernel), List.mem_of_getElem? (i := 474) (by decide +kernel)⟩
theorem lw_p10 : lw_okq (⟨"CreakBoards$Reader", "readMinute", "(II)I"⟩, 4) := ⟨⟨by decide +kernel, by decide +kernel⟩, List.mem_of_getElem? (i := 40) (by decide +kernel), List.mem_of_getElem? (i := 477) (by decide +kernel), List.mem_of_getElem? (i := 478) (by decide +kernel)⟩
theorem lw_p11 : lw_okq (⟨"CreakBoards", "faultOfHouse", "(I)I"⟩, 19) := ⟨⟨by decide +kernel, by decide +kernel⟩, List.mem_of_getElem? (i := 14) (by decide +kernel), List.mem_of_getElem? (i := 485) (by decide +kernel), List.mem_of_getElem? (i := 486) (by decide +kernel)⟩
theorem lw_p12 : lw_okq (⟨"CreakBoards$Reader", "readHouseItem", "(LCreakBoards$House;)V"⟩, 4) := ⟨⟨by decide +kernel, by decide +kernel⟩, List.mem_of_getElem? (i := 40) (by decide +kernel), List.mem_of_getElem? (i := 494) (by decide +kernel), List.mem_of_getElem? (i := 495) (by decide +kernel)⟩
theorem lw_p13 : lw_okq (⟨"CreakBoards$Reader", "readDoor", "(LCreakBoards$House;)V"⟩, 4) := ⟨⟨by decide +kernel, by decide +kernel⟩, List.mem_of_getElem? (i := 40) (by decide +kernel), List.mem_of_getElem? (i := 498) (by decide +kernel), List.mem_of_getElem? (i := 499) (by decide +kernel)⟩
theorem lw_p14 : lw_okq (⟨"CreakBoards$Reader", "readWalker", "(LCreakBoards$House;)V"⟩, 4) := ⟨⟨by decide +kernel, by decide +kernel⟩, List.mem_of_getElem? (i := 40) (by decide +kernel), List.mem_of_getElem? (i := 510) (by decide +kernel), List.mem_of_getElem? (i := 511) (by decide +kernel)⟩
theorem lw_p15 : lw_okq (⟨"CreakBoards$Reader", "readRising", "(I)I"⟩, 4) := ⟨⟨by decide +kernel, by decide +kernel⟩, List.mem_of_getElem? (i := 40) (by decide +kernel), List.mem_of_getElem? (i := 514) (by decide +kernel), List.mem_of_getElem? (i := 515) (by decide +kernel)⟩
def lw_privs_1 : List (MethodName × Nat) := [(⟨"CreakBoards", "found", "(I)I"⟩, 19), (⟨"CreakBoards", "tell", "(I)I"⟩, 19), (⟨"CreakBoards", "faultOfNight", "(I)I"⟩, 19), (⟨"CreakBoards$Reader", "findItem", "()Z"⟩, 4), (⟨"CreakBoards$Reader", "ahead", "(I)Z"⟩, 4), (⟨"CreakBoards$Reader", "readEvent", "(LCreakBoards$House;LCreakBoards$Night;)V"⟩, 4), (⟨"CreakBoards$Reader", "kindAhead", "()I"⟩, 4), (⟨"CreakBoards$Reader", "figure", "(I)I"⟩, 4), (⟨"CreakBoards$Reader", "figureAhead", "()Z"⟩, 4), (⟨"CreakBoards$Reader", "expect", "(I)V"⟩, 4), (⟨"CreakBoards$Reader", "readMinute", "(II)I"⟩, 4), (⟨"CreakBoards", "faultOfHouse", "(I)I"⟩, 19), (⟨"CreakBoards$Reader", "readHouseItem", "(LCreakBoards$House;)V"⟩, 4), (⟨"CreakBoards$Reader", "readDoor", "(LCreakBoards$House;)V"⟩, 4), (⟨"CreakBoards$Reader", "readWalker", "(LCreakBoards$House;)V"⟩, 4), (⟨"CreakBoards$Reader", "readRising", "(I)I"⟩, 4)]
theorem lw_r1 : ∀ q ∈ lw_privs_1, lw_okq q := List.forall_mem_cons.mpr ⟨lw_p0, List.forall_mem_cons.mpr ⟨lw_p1, List.forall_mem_cons.mpr ⟨lw_p2, List.forall_mem_cons.mpr ⟨lw_p3, List.forall_mem_cons.mpr ⟨lw_p4, List.forall_mem_cons.mpr ⟨lw_p5, List.forall_mem_cons.mpr ⟨lw_p6, List.forall_mem_cons.mpr ⟨lw_p7, List.forall_mem_cons.mpr ⟨lw_p8, List.forall_mem_cons.mpr ⟨lw_p9, List.forall_mem_cons.mpr ⟨lw_p10, List.forall_mem_cons.mpr ⟨lw_p11, List.forall_mem_cons.mpr ⟨lw_p12, List.forall_mem_cons.mpr ⟨lw_p13, List.forall_mem_cons.mpr ⟨lw_p14, List.forall_mem_cons.mpr ⟨lw_p15, fun _ h => absurd h List.not_mem_nil⟩⟩⟩⟩⟩⟩⟩⟩⟩⟩⟩⟩⟩⟩⟩⟩
theorem lw_p16 : lw_okq (⟨"CreakBoards", "canBe", "()Z"⟩, 19) := ⟨⟨by decide +kernel, by decide +kernel⟩, List.mem_of_getElem? (i := 14) (by decide +kernel), List.mem_of_getElem? (i := 606) (by decide +kernel), List.mem_of_getElem? (i := 607) (by decide +kernel)⟩
theorem lw_p17 : lw_okq (⟨"CreakBoards$Plan", "shape", "()V"⟩, 12) := ⟨⟨by decide +kernel, by decide +kernel⟩, List.mem_of_getElem? (i := 204) (by decide +kernel), List.mem_of_getElem? (i := 617) (by decide +kernel), List.mem_of_getElem? (i := 618) (by decide +kernel)⟩
theorem lw_p18 : lw_okq (⟨"CreakBoards$Plan", "spot", "(II)I"⟩, 12) := ⟨⟨by decide +kernel, by decide +kernel⟩, List.mem_of_getElem? (i := 204) (by decide +kernel), List.mem_of_getElem? (i := 621) (by decide +kernel), List.mem_of_getElem? (i := 622) (by decide +kernel)⟩
theorem lw_p19 : lw_okq (⟨"CreakBoards$Plan", "takeEvent", "(LCreakBoards$Night;I)V"⟩, 12) := ⟨⟨by decide +kernel, by decide +kernel⟩, List.mem_of_getElem? (i := 204) (by decide +kernel), List.mem_of_getElem? (i := 636) (by decide +kernel), List.mem_of_getElem? (i := 637) (by decide +kernel)⟩
theorem lw_p20 : lw_okq (⟨"CreakBoards$Walks", "begin", "(LCreakBoards$Plan;IZ)V"⟩, 17) := ⟨⟨by decide +kernel, by decide +kernel⟩, List.mem_of_getElem? (i := 61) (by decide +kernel), List.mem_of_getElem? (i := 644) (by decide +kernel), List.mem_of_getElem? (i := 645) (by decide +kernel)⟩
theorem lw_p21 : lw_okq (⟨"CreakBoards$Walks", "rested", "(I)I"⟩, 17) := ⟨⟨by decide +kernel, by decide +kernel⟩, List.mem_of_getElem? (i := 61) (by decide +kernel), List.mem_of_getElem? (i := 648) (by decide +kernel), List.mem_of_getElem? (i := 649) (by decide +kernel)⟩
theorem lw_p22 : lw_okq (⟨"CreakBoards$Walks", "stays", "(II)Z"⟩, 17) := ⟨⟨by decide +kernel, by decide +kernel⟩, List.mem_of_getElem? (i := 61) (by decide +kernel), List.mem_of_getElem? (i := 652) (by decide +kernel), List.mem_of_getElem? (i := 653) (by decide +kernel)⟩
theorem lw_p23 : lw_okq (⟨"CreakBoards$Walks", "isIn", "(II)Z"⟩, 17) := ⟨⟨by decide +kernel, by decide +kernel⟩, List.mem_of_getElem? (i := 61) (by decide +kernel), List.mem_of_getElem? (i := 656) (by decide +kernel), List.mem_of_getElem? (i := 657) (by decide +kernel)⟩
theorem lw_p24 : lw_okq (⟨"CreakBoards$Walks", "sweep", "(I)V"⟩, 17) := ⟨⟨by decide +kernel, by decide +kernel⟩, List.mem_of_getElem? (i := 61) (by decide +kernel), List.mem_of_getElem? (i := 664) (by decide +kernel), List.mem_of_getElem? (i := 665) (by decide +kernel)⟩
theorem lw_p25 : lw_okq (⟨"CreakBoards$Moves", "listState", "(LCreakBoards$Plan;IIII)I"⟩, 3) := ⟨⟨by decide +kernel, by decide +kernel⟩, List.mem_of_getElem? (i := 67) (by decide +kernel), List.mem_of_getElem? (i := 672) (by decide +kernel), List.mem_of_getElem? (i := 673) (by decide +kernel)⟩
theorem lw_p26 : lw_okq (⟨"CreakBoards$Moves", "listAbsent", "(I)I"⟩, 3) := ⟨⟨by decide +kernel, by decide +kernel⟩, List.mem_of_getElem? (i := 67) (by decide +kernel), List.mem_of_getElem? (i := 689) (by decide +kernel), List.mem_of_getElem? (i := 690) (by decide +kernel)⟩
theorem lw_p27 : lw_okq (⟨"CreakBoards$Walks", "fan", "(IIII)V"⟩, 17) := ⟨⟨by decide +kernel, by decide +kernel⟩, List.mem_of_getElem? (i := 61) (by decide +kernel), List.mem_of_getElem? (i := 693) (by decide +kernel), List.mem_of_getElem? (i := 694) (by decide +kernel)⟩
theorem lw_p28 : lw_okq (⟨"CreakBoards$Walks", "link", "(IIIII)V"⟩, 17) := ⟨⟨by decide +kernel, by decide +kernel⟩, List.mem_of_getElem? (i := 61) (by decide +kernel), List.mem_of_getElem? (i := 697) (by decide +kernel), List.mem_of_getElem? (i := 698) (by decide +kernel)⟩
theorem lw_p29 : lw_okq (⟨"CreakBoards$Walks", "stoodOn", "(JI)J"⟩, 17) := ⟨⟨by decide +kernel, by decide +kernel⟩, List.mem_of_getElem? (i := 61) (by decide +kernel), List.mem_of_getElem? (i := 705) (by decide +kernel), List.mem_of_getElem? (i := 706) (by decide +kernel)⟩
theorem lw_p30 : lw_okq (⟨"CreakBoards$Walks", "priceOf", "(I)J"⟩, 17) := ⟨⟨by decide +kernel, by decide +kernel⟩, List.mem_of_getElem? (i := 61) (by decide +kernel), List.mem_of_getElem? (i := 710) (by decide +kernel), List.mem_of_getElem? (i := 711) (by decide +kernel)⟩
theorem lw_p31 : lw_okq (⟨"CreakBoards$Walks", "note", "(II)V"⟩, 17) := ⟨⟨by decide +kernel, by decide +kernel⟩, List.mem_of_getElem? (i := 61) (by decide +kernel), List.mem_of_getElem? (i := 730) (by decide +kernel), List.mem_of_getElem? (i := 731) (by decide +kernel)⟩
def lw_privs_2 : List (MethodName × Nat) := [(⟨"CreakBoards", "canBe", "()Z"⟩, 19), (⟨"CreakBoards$Plan", "shape", "()V"⟩, 12), (⟨"CreakBoards$Plan", "spot", "(II)I"⟩, 12), (⟨"CreakBoards$Plan", "takeEvent", "(LCreakBoards$Night;I)V"⟩, 12), (⟨"CreakBoards$Walks", "begin", "(LCreakBoards$Plan;IZ)V"⟩, 17), (⟨"CreakBoards$Walks", "rested", "(I)I"⟩, 17), (⟨"CreakBoards$Walks", "stays", "(II)Z"⟩, 17), (⟨"CreakBoards$Walks", "isIn", "(II)Z"⟩, 17), (⟨"CreakBoards$Walks", "sweep", "(I)V"⟩, 17), (⟨"CreakBoards$Moves", "listState", "(LCreakBoards$Plan;IIII)I"⟩, 3), (⟨"CreakBoards$Moves", "listAbsent", "(I)I"⟩, 3), (⟨"CreakBoards$Walks", "fan", "(IIII)V"⟩, 17), (⟨"CreakBoards$Walks", "link", "(IIIII)V"⟩, 17), (⟨"CreakBoards$Walks", "stoodOn", "(JI)J"⟩, 17), (⟨"CreakBoards$Walks", "priceOf", "(I)J"⟩, 17), (⟨"CreakBoards$Walks", "note", "(II)V"⟩, 17)]
theorem lw_r2 : ∀ q ∈ lw_privs_2, lw_okq q := List.forall_mem_cons.mpr ⟨lw_p16, List.forall_mem_cons.mpr ⟨lw_p17, List.forall_mem_cons.mpr ⟨lw_p18, List.forall_mem_cons.mpr ⟨lw_p19, List.forall_mem_cons.mpr ⟨lw_p20, List.forall_mem_cons.mpr ⟨lw_p21, List.forall_mem_cons.mpr ⟨lw_p22, List.forall_mem_cons.mpr ⟨lw_p23, List.forall_mem_cons.mpr ⟨lw_p24, List.forall_mem_cons.mpr ⟨lw_p25, List.forall_mem_cons.mpr ⟨lw_p26, List.forall_mem_cons.mpr ⟨lw_p27, List.forall_mem_cons.mpr ⟨lw_p28, List.forall_mem_cons.mpr ⟨lw_p29, List.forall_mem_cons.mpr ⟨lw_p30, List.forall_mem_cons.mpr ⟨lw_p31, fun _ h => absurd h List.not_mem_nil⟩⟩⟩⟩⟩⟩⟩⟩⟩⟩⟩⟩⟩⟩⟩⟩
theorem lw_p32 : lw_okq (⟨"CreakBoards$Walks", "keepSet", "(I)V"⟩, 17) := ⟨⟨by decide +kernel, by decide +kernel⟩, List.mem_of_getElem? (i := 61) (by decide +kernel), List.mem_of_getElem? (i := 734) (by decide +kernel), List.mem_of_getElem? (i := 735) (by decide +kernel)⟩
theorem lw_p33 : lw_okq (⟨"CreakBoards$Walks", "isNone", "()Z"⟩, 17) := ⟨⟨by decide +kernel, by decide +kernel⟩, List.mem_of_getElem? (i := 61) (by decide +kernel), List.mem_of_getElem? (i := 738) (by decide +kernel), List.mem_of_getElem? (i := 739) (by decide +kernel)⟩
theorem lw_p34 : lw_okq (⟨"CreakBoards", "knowsWays", "()Z"⟩, 19) := ⟨⟨by decide +kernel, by decide +kernel⟩, List.mem_of_getElem? (i := 14) (by decide +kernel), List.mem_of_getElem? (i := 750) (by decide +kernel), List.mem_of_getElem? (i := 751) (by decide +kernel)⟩
theorem lw_p35 : lw_okq (⟨"CreakBoards$Walks", "loadSet", "(I)V"⟩, 17) := ⟨⟨by decide +kernel, by decide +kernel⟩, List.mem_of_getElem? (i := 61) (by decide +kernel), List.mem_of_getElem? (i := 758) (by decide +kernel), List.mem_of_getElem? (i := 759) (by decide +kernel)⟩
theorem lw_p36 : lw_okq (⟨"CreakBoards$Walks", "together", "(III)Z"⟩, 17) := ⟨⟨by decide +kernel, by decide +kernel⟩, List.mem_of_getElem? (i := 61) (by decide +kernel), List.mem_of_getElem? (i := 819) (by decide +kernel), List.mem_of_getElem? (i := 820) (by decide +kernel)⟩
theorem lw_p37 : lw_okq (⟨"CreakBoards$Walks", "keepIn", "(II)V"⟩, 17) := ⟨⟨by decide +kernel, by decide +kernel⟩, List.mem_of_getElem? (i := 61) (by decide +kernel), List.mem_of_getElem? (i := 844) (by decide +kernel), List.mem_of_getElem? (i := 845) (by decide +kernel)⟩
theorem lw_p38 : lw_okq (⟨"CreakBoards", "tellPart", "(JJ)V"⟩, 19) := ⟨⟨by decide +kernel, by decide +kernel⟩, List.mem_of_getElem? (i := 14) (by decide +kernel), List.mem_of_getElem? (i := 892) (by decide +kernel), List.mem_of_getElem? (i := 893) (by decide +kernel)⟩
theorem lw_p39 : lw_okq (⟨"CreakBoards", "leastBy", "(III)J"⟩, 19) := ⟨⟨by decide +kernel, by decide +kernel⟩, List.mem_of_getElem? (i := 14) (by decide +kernel), List.mem_of_getElem? (i := 909) (by decide +kernel), List.mem_of_getElem? (i := 910) (by decide +kernel)⟩
theorem lw_p40 : lw_okq (⟨"CreakBoards", "stuckSince", "(I)I"⟩, 19) := ⟨⟨by decide +kernel, by decide +kernel⟩, List.mem_of_getElem? (i := 14) (by decide +kernel), List.mem_of_getElem? (i := 926) (by decide +kernel), List.mem_of_getElem? (i := 927) (by decide +kernel)⟩
theorem lw_p41 : lw_okq (⟨"CreakBoardsModel", "meets", "(I)I"⟩, 59) := ⟨⟨by decide +kernel, by decide +kernel⟩, List.mem_of_getElem? (i := 1000) (by decide +kernel), List.mem_of_getElem? (i := 1220) (by decide +kernel), List.mem_of_getElem? (i := 1221) (by decide +kernel)⟩
theorem lw_p42 : lw_okq (⟨"CreakBoardsModel", "rowAt", "(II)I"⟩, 59) := ⟨⟨by decide +kernel, by decide +kernel⟩, List.mem_of_getElem? (i := 1000) (by decide +kernel), List.mem_of_getElem? (i := 1228) (by decide +kernel), List.mem_of_getElem? (i := 1229) (by decide +kernel)⟩
theorem lw_p43 : lw_okq (⟨"CreakBoardsModel", "tells", "(II)I"⟩, 59) := ⟨⟨by decide +kernel, by decide +kernel⟩, List.mem_of_getElem? (i := 1000) (by decide +kernel), List.mem_of_getElem? (i := 1232) (by decide +kernel), List.mem_of_getElem? (i := 1233) (by decide +kernel)⟩
theorem lw_p44 : lw_okq (⟨"CreakBoardsModel", "nightFault", "(I)I"⟩, 59) := ⟨⟨by decide +kernel, by decide +kernel⟩, List.mem_of_getElem? (i := 1000) (by decide +kernel), List.mem_of_getElem? (i := 1267) (by decide +kernel), List.mem_of_getElem? (i := 1268) (by decide +kernel)⟩
theorem lw_p45 : lw_okq (⟨"CreakBoardsModel", "pass", "(I)V"⟩, 59) := ⟨⟨by decide +kernel, by decide +kernel⟩, List.mem_of_getElem? (i := 1000) (by decide +kernel), List.mem_of_getElem? (i := 1271) (by decide +kernel), List.mem_of_getElem? (i := 1272) (by decide +kernel)⟩
theorem lw_p46 : lw_okq (⟨"CreakBoardsModel", "byteAt", "(II)I"⟩, 59) := ⟨⟨by decide +kernel, by decide +kernel⟩, List.mem_of_getElem? (i := 1000) (by decide +kernel), List.mem_of_getElem? (i := 1275) (by decide +kernel), List.mem_of_getElem? (i := 1276) (by decide +kernel)⟩
theorem lw_p47 : lw_okq (⟨"CreakBoardsModel", "readsEvent", "(I)Z"⟩, 59) := ⟨⟨by decide +kernel, by decide +kernel⟩, List.mem_of_getElem? (i := 1000) (by decide +kernel), List.mem_of_getElem? (i := 1279) (by decide +kernel), List.mem_of_getElem? (i := 1280) (by decide +kernel)⟩
def lw_privs_3 : List (MethodName × Nat) := [(⟨"CreakBoards$Walks", "keepSet", "(I)V"⟩, 17), (⟨"CreakBoards$Walks", "isNone", "()Z"⟩, 17), (⟨"CreakBoards", "knowsWays", "()Z"⟩, 19), (⟨"CreakBoards$Walks", "loadSet", "(I)V"⟩, 17), (⟨"CreakBoards$Walks", "together", "(III)Z"⟩, 17), (⟨"CreakBoards$Walks", "keepIn", "(II)V"⟩, 17), (⟨"CreakBoards", "tellPart", "(JJ)V"⟩, 19), (⟨"CreakBoards", "leastBy", "(III)J"⟩, 19), (⟨"CreakBoards", "stuckSince", "(I)I"⟩, 19), (⟨"CreakBoardsModel", "meets", "(I)I"⟩, 59), (⟨"CreakBoardsModel", "rowAt", "(II)I"⟩, 59), (⟨"CreakBoardsModel", "tells", "(II)I"⟩, 59), (⟨"CreakBoardsModel", "nightFault", "(I)I"⟩, 59), (⟨"CreakBoardsModel", "pass", "(I)V"⟩, 59), (⟨"CreakBoardsModel", "byteAt", "(II)I"⟩, 59), (⟨"CreakBoardsModel", "readsEvent", "(I)Z"⟩, 59)]
theorem lw_r3 : ∀ q ∈ lw_privs_3, lw_okq q := List.forall_mem_cons.mpr ⟨lw_p32, List.forall_mem_cons.mpr ⟨lw_p33, List.forall_mem_cons.mpr ⟨lw_p34, List.forall_mem_cons.mpr ⟨lw_p35, List.forall_mem_cons.mpr ⟨lw_p36, List.forall_mem_cons.mpr ⟨lw_p37, List.forall_mem_cons.mpr ⟨lw_p38, List.forall_mem_cons.mpr ⟨lw_p39, List.forall_mem_cons.mpr ⟨lw_p40, List.forall_mem_cons.mpr ⟨lw_p41, List.forall_mem_cons.mpr ⟨lw_p42, List.forall_mem_cons.mpr ⟨lw_p43, List.forall_mem_cons.mpr ⟨lw_p44, List.forall_mem_cons.mpr ⟨lw_p45, List.forall_mem_cons.mpr ⟨lw_p46, List.forall_mem_cons.mpr ⟨lw_p47, fun _ h => absurd h List.not_mem_nil⟩⟩⟩⟩⟩⟩⟩⟩⟩⟩⟩⟩⟩⟩⟩⟩
theorem lw_p48 : lw_okq (⟨"CreakBoardsModel", "about", "(II)Z"⟩, 59) := ⟨⟨by decide +kernel, by decide +kernel⟩, List.mem_of_getElem? (i := 1000) (by decide +kernel), List.mem_of_getElem? (i := 1283) (by decide +kernel), List.mem_of_getElem? (i := 1284) (by decide +kernel)⟩
theorem lw_p49 : lw_okq (⟨"CreakBoardsModel", "isDoor", "(I)Z"⟩, 59) := ⟨⟨by decide +kernel, by decide +kernel⟩, List.mem_of_getElem? (i := 1000) (by decide +kernel), List.mem_of_getElem? (i := 1287) (by decide +kernel), List.mem_of_getElem? (i := 1288) (by decide +kernel)⟩
theorem lw_p50 : lw_okq (⟨"CreakBoardsModel", "hasBoard", "(I)Z"⟩, 59) := ⟨⟨by decide +kernel, by decide +kernel⟩, List.mem_of_getElem? (i := 1000) (by decide +kernel), List.mem_of_getElem? (i := 1291) (by decide +kernel), List.mem_of_getElem? (i := 1292) (by decide +kernel)⟩
theorem lw_p51 : lw_okq (⟨"CreakBoardsModel", "isRoom", "(I)Z"⟩, 59) := ⟨⟨by decide +kernel, by decide +kernel⟩, List.mem_of_getElem? (i := 1000) (by decide +kernel), List.mem_of_getElem? (i := 1295) (by decide +kernel), List.mem_of_getElem? (i := 1296) (by decide +kernel)⟩
theorem lw_p52 : lw_okq (⟨"CreakBoardsModel", "sign", "(II)Z"⟩, 59) := ⟨⟨by decide +kernel, by decide +kernel⟩, List.mem_of_getElem? (i := 1000) (by decide +kernel), List.mem_of_getElem? (i := 1299) (by decide +kernel), List.mem_of_getElem? (i := 1300) (by decide +kernel)⟩
theorem lw_p53 : lw_okq (⟨"CreakBoardsModel", "figure", "(III)Z"⟩, 59) := ⟨⟨by decide +kernel, by decide +kernel⟩, List.mem_of_getElem? (i := 1000) (by decide +kernel), List.mem_of_getElem? (i := 1303) (by decide +kernel), List.mem_of_getElem? (i := 1304) (by decide +kernel)⟩
theorem lw_p54 : lw_okq (⟨"CreakBoardsModel", "minute", "(III)Z"⟩, 59) := ⟨⟨by decide +kernel, by decide +kernel⟩, List.mem_of_getElem? (i := 1000) (by decide +kernel), List.mem_of_getElem? (i := 1307) (by decide +kernel), List.mem_of_getElem? (i := 1308) (by decide +kernel)⟩
theorem lw_p55 : lw_okq (⟨"CreakBoardsModel", "noteNight", "(IIII)V"⟩, 59) := ⟨⟨by decide +kernel, by decide +kernel⟩, List.mem_of_getElem? (i := 1000) (by decide +kernel), List.mem_of_getElem? (i := 1311) (by decide +kernel), List.mem_of_getElem? (i := 1312) (by decide +kernel)⟩
theorem lw_p56 : lw_okq (⟨"CreakBoardsModel", "houseFault", "(I)I"⟩, 59) := ⟨⟨by decide +kernel, by decide +kernel⟩, List.mem_of_getElem? (i := 1000) (by decide +kernel), List.mem_of_getElem? (i := 1315) (by decide +kernel), List.mem_of_getElem? (i := 1316) (by decide +kernel)⟩
theorem lw_p57 : lw_okq (⟨"CreakBoardsModel", "readsItem", "(I)Z"⟩, 59) := ⟨⟨by decide +kernel, by decide +kernel⟩, List.mem_of_getElem? (i := 1000) (by decide +kernel), List.mem_of_getElem? (i := 1319) (by decide +kernel), List.mem_of_getElem? (i := 1320) (by decide +kernel)⟩
theorem lw_p58 : lw_okq (⟨"CreakBoardsModel", "readsDoor", "(II)Z"⟩, 59) := ⟨⟨by decide +kernel, by decide +kernel⟩, List.mem_of_getElem? (i := 1000) (by decide +kernel), List.mem_of_getElem? (i := 1323) (by decide +kernel), List.mem_of_getElem? (i := 1324) (by decide +kernel)⟩
theorem lw_p59 : lw_okq (⟨"CreakBoardsModel", "readsMinute", "(I)Z"⟩, 59) := ⟨⟨by decide +kernel, by decide +kernel⟩, List.mem_of_getElem? (i := 1000) (by decide +kernel), List.mem_of_getElem? (i := 1327) (by decide +kernel), List.mem_of_getElem? (i := 1328) (by decide +kernel)⟩
theorem lw_p60 : lw_okq (⟨"CreakBoardsModel", "readsWalker", "(I)Z"⟩, 59) := ⟨⟨by decide +kernel, by decide +kernel⟩, List.mem_of_getElem? (i := 1000) (by decide +kernel), List.mem_of_getElem? (i := 1331) (by decide +kernel), List.mem_of_getElem? (i := 1332) (by decide +kernel)⟩
theorem lw_p61 : lw_okq (⟨"CreakBoardsModel", "comes", "(IIII)I"⟩, 59) := ⟨⟨by decide +kernel, by decide +kernel⟩, List.mem_of_getElem? (i := 1000) (by decide +kernel), List.mem_of_getElem? (i := 1343) (by decide +kernel), List.mem_of_getElem? (i := 1344) (by decide +kernel)⟩
theorem lw_p62 : lw_okq (⟨"CreakBoardsModel", "isEventTold", "(IIII)Z"⟩, 59) := ⟨⟨by decide +kernel, by decide +kernel⟩, List.mem_of_getElem? (i := 1000) (by decide +kernel), List.mem_of_getElem? (i := 1351) (by decide +kernel), List.mem_of_getElem? (i := 1352) (by decide +kernel)⟩
theorem lw_p63 : lw_okq (⟨"CreakBoardsModel", "isWalker", "(I)Z"⟩, 59) := ⟨⟨by decide +kernel, by decide +kernel⟩, List.mem_of_getElem? (i := 1000) (by decide +kernel), List.mem_of_getElem? (i := 1355) (by decide +kernel), List.mem_of_getElem? (i := 1356) (by decide +kernel)⟩
def lw_privs_4 : List (MethodName × Nat) := [(⟨"CreakBoardsModel", "about", "(II)Z"⟩, 59), (⟨"CreakBoardsModel", "isDoor", "(I)Z"⟩, 59), (⟨"CreakBoardsModel", "hasBoard", "(I)Z"⟩, 59), (⟨"CreakBoardsModel", "isRoom", "(I)Z"⟩, 59), (⟨"CreakBoardsModel", "sign", "(II)Z"⟩, 59), (⟨"CreakBoardsModel", "figure", "(III)Z"⟩, 59), (⟨"CreakBoardsModel", "minute", "(III)Z"⟩, 59), (⟨"CreakBoardsModel", "noteNight", "(IIII)V"⟩, 59), (⟨"CreakBoardsModel", "houseFault", "(I)I"⟩, 59), (⟨"CreakBoardsModel", "readsItem", "(I)Z"⟩, 59), (⟨"CreakBoardsModel", "readsDoor", "(II)Z"⟩, 59), (⟨"CreakBoardsModel", "readsMinute", "(I)Z"⟩, 59), (⟨"CreakBoardsModel", "readsWalker", "(I)Z"⟩, 59), (⟨"CreakBoardsModel", "comes", "(IIII)I"⟩, 59), (⟨"CreakBoardsModel", "isEventTold", "(IIII)Z"⟩, 59), (⟨"CreakBoardsModel", "isWalker", "(I)Z"⟩, 59)]
theorem lw_r4 : ∀ q ∈ lw_privs_4, lw_okq q := List.forall_mem_cons.mpr ⟨lw_p48, List.forall_mem_cons.mpr ⟨lw_p49, List.forall_mem_cons.mpr ⟨lw_p50, List.forall_mem_cons.mpr ⟨lw_p51, List.forall_mem_cons.mpr ⟨lw_p52, List.forall_mem_cons.mpr ⟨lw_p53, List.forall_mem_cons.mpr ⟨lw_p54, List.forall_mem_cons.mpr ⟨lw_p55, List.forall_mem_cons.mpr ⟨lw_p56, List.forall_mem_cons.mpr ⟨lw_p57, List.forall_mem_cons.mpr ⟨lw_p58, List.forall_mem_cons.mpr ⟨lw_p59, List.forall_mem_cons.mpr ⟨lw_p60, List.forall_mem_cons.mpr ⟨lw_p61, List.forall_mem_cons.mpr ⟨lw_p62, List.forall_mem_cons.mpr ⟨lw_p63, fun _ h => absurd h List.not_mem_nil⟩⟩⟩⟩⟩⟩⟩⟩⟩⟩⟩⟩⟩⟩⟩⟩
theorem lw_p64 : lw_okq (⟨"CreakBoardsModel", "isEvent", "(I)Z"⟩, 59) := ⟨⟨by decide +kernel, by decide +kernel⟩, List.mem_of_getElem? (i := 1000) (by decide +kernel), List.mem_of_getElem? (i := 1367) (by decide +kernel), List.mem_of_getElem? (i := 1368) (by decide +kernel)⟩
theorem lw_p65 : lw_okq (⟨"CreakBoardsModel", "eventAt", "(II)I"⟩, 59) := ⟨⟨by decide +kernel, by decide +kernel⟩, List.mem_of_getElem? (i := 1000) (by decide +kernel), List.mem_of_getElem? (i := 1371) (by decide +kernel), List.mem_of_getElem? (i := 1372) (by decide +kernel)⟩
theorem lw_p66 : lw_okq (⟨"CreakBoardsModel", "isOf", "(II)Z"⟩, 59) := ⟨⟨by decide +kernel, by decide +kernel⟩, List.mem_of_getElem? (i := 1000) (by decide +kernel), List.mem_of_getElem? (i := 1379) (by decide +kernel), List.mem_of_getElem? (i := 1380) (by decide +kernel)⟩
theorem lw_p67 : lw_okq (⟨"CreakBoardsModel", "layNight", "(II)Z"⟩, 59) := ⟨⟨by decide +kernel, by decide +kernel⟩, List.mem_of_getElem? (i := 1000) (by decide +kernel), List.mem_of_getElem? (i := 1395) (by decide +kernel), List.mem_of_getElem? (i := 1396) (by decide +kernel)⟩
theorem lw_p68 : lw_okq (⟨"CreakBoardsModel", "note", "(I)Z"⟩, 59) := ⟨⟨by decide +kernel, by decide +kernel⟩, List.mem_of_getElem? (i := 1000) (by decide +kernel), List.mem_of_getElem? (i := 1402) (by decide +kernel), List.mem_of_getElem? (i := 1403) (by decide +kernel)⟩
theorem lw_p69 : lw_okq (⟨"CreakBoardsModel", "layFront", "()I"⟩, 59) := ⟨⟨by decide +kernel, by decide +kernel⟩, List.mem_of_getElem? (i := 1000) (by decide +kernel), List.mem_of_getElem? (i := 1406) (by decide +kernel), List.mem_of_getElem? (i := 1407) (by decide +kernel)⟩
theorem lw_p70 : lw_okq (⟨"CreakBoardsModel", "states", "()I"⟩, 59) := ⟨⟨by decide +kernel, by decide +kernel⟩, List.mem_of_getElem? (i := 1000) (by decide +kernel), List.mem_of_getElem? (i := 1410) (by decide +kernel), List.mem_of_getElem? (i := 1411) (by decide +kernel)⟩
theorem lw_p71 : lw_okq (⟨"CreakBoardsModel", "canBegin", "(I)Z"⟩, 59) := ⟨⟨by decide +kernel, by decide +kernel⟩, List.mem_of_getElem? (i := 1000) (by decide +kernel), List.mem_of_getElem? (i := 1414) (by decide +kernel), List.mem_of_getElem? (i := 1415) (by decide +kernel)⟩
theorem lw_p72 : lw_okq (⟨"CreakBoardsModel", "canBe", "(II)Z"⟩, 59) := ⟨⟨by decide +kernel, by decide +kernel⟩, List.mem_of_getElem? (i := 1000) (by decide +kernel), List.mem_of_getElem? (i := 1418) (by decide +kernel), List.mem_of_getElem? (i := 1419) (by decide +kernel)⟩
theorem lw_p73 : lw_okq (⟨"CreakBoardsModel", "roomsOf", "(I)I"⟩, 59) := ⟨⟨by decide +kernel, by decide +kernel⟩, List.mem_of_getElem? (i := 1000) (by decide +kernel), List.mem_of_getElem? (i := 1422) (by decide +kernel), List.mem_of_getElem? (i := 1423) (by decide +kernel)⟩
theorem lw_p74 : lw_okq (⟨"CreakBoardsModel", "roomOf", "(II)I"⟩, 59) := ⟨⟨by decide +kernel, by decide +kernel⟩, List.mem_of_getElem? (i := 1000) (by decide +kernel), List.mem_of_getElem? (i := 1426) (by decide +kernel), List.mem_of_getElem? (i := 1427) (by decide +kernel)⟩
theorem lw_p75 : lw_okq (⟨"CreakBoardsModel", "goOn", "(II)V"⟩, 59) := ⟨⟨by decide +kernel, by decide +kernel⟩, List.mem_of_getElem? (i := 1000) (by decide +kernel), List.mem_of_getElem? (i := 1433) (by decide +kernel), List.mem_of_getElem? (i := 1434) (by decide +kernel)⟩
theorem lw_p76 : lw_okq (⟨"CreakBoardsModel", "layMoves", "(II)V"⟩, 59) := ⟨⟨by decide +kernel, by decide +kernel⟩, List.mem_of_getElem? (i := 1000) (by decide +kernel), List.mem_of_getElem? (i := 1437) (by decide +kernel), List.mem_of_getElem? (i := 1438) (by decide +kernel)⟩
theorem lw_p77 : lw_okq (⟨"CreakBoardsModel", "take", "(I)V"⟩, 59) := ⟨⟨by decide +kernel, by decide +kernel⟩, List.mem_of_getElem? (i := 1000) (by decide +kernel), List.mem_of_getElem? (i := 1441) (by decide +kernel), List.mem_of_getElem? (i := 1442) (by decide +kernel)⟩
theorem lw_p78 : lw_okq (⟨"CreakBoardsModel", "canTake", "(I)Z"⟩, 59) := ⟨⟨by decide +kernel, by decide +kernel⟩, List.mem_of_getElem? (i := 1000) (by decide +kernel), List.mem_of_getElem? (i := 1445) (by decide +kernel), List.mem_of_getElem? (i := 1446) (by decide +kernel)⟩
theorem lw_p79 : lw_okq (⟨"CreakBoardsModel", "isHeard", "(I)Z"⟩, 59) := ⟨⟨by decide +kernel, by decide +kernel⟩, List.mem_of_getElem? (i := 1000) (by decide +kernel), List.mem_of_getElem? (i := 1449) (by decide +kernel), List.mem_of_getElem? (i := 1450) (by decide +kernel)⟩
def lw_privs_5 : List (MethodName × Nat) := [(⟨"CreakBoardsModel", "isEvent", "(I)Z"⟩, 59), (⟨"CreakBoardsModel", "eventAt", "(II)I"⟩, 59), (⟨"CreakBoardsModel", "isOf", "(II)Z"⟩, 59), (⟨"CreakBoardsModel", "layNight", "(II)Z"⟩, 59), (⟨"CreakBoardsModel", "note", "(I)Z"⟩, 59), (⟨"CreakBoardsModel", "layFront", "()I"⟩, 59), (⟨"CreakBoardsModel", "states", "()I"⟩, 59), (⟨"CreakBoardsModel", "canBegin", "(I)Z"⟩, 59), (⟨"CreakBoardsModel", "canBe", "(II)Z"⟩, 59), (⟨"CreakBoardsModel", "roomsOf", "(I)I"⟩, 59), (⟨"CreakBoardsModel", "roomOf", "(II)I"⟩, 59), (⟨"CreakBoardsModel", "goOn", "(II)V"⟩, 59), (⟨"CreakBoardsModel", "layMoves", "(II)V"⟩, 59), (⟨"CreakBoardsModel", "take", "(I)V"⟩, 59), (⟨"CreakBoardsModel", "canTake", "(I)Z"⟩, 59), (⟨"CreakBoardsModel", "isHeard", "(I)Z"⟩, 59)]
theorem lw_r5 : ∀ q ∈ lw_privs_5, lw_okq q := List.forall_mem_cons.mpr ⟨lw_p64, List.forall_mem_cons.mpr ⟨lw_p65, List.forall_mem_cons.mpr ⟨lw_p66, List.forall_mem_cons.mpr ⟨lw_p67, List.forall_mem_cons.mpr ⟨lw_p68, List.forall_mem_cons.mpr ⟨lw_p69, List.forall_mem_cons.mpr ⟨lw_p70, List.forall_mem_cons.mpr ⟨lw_p71, List.forall_mem_cons.mpr ⟨lw_p72, List.forall_mem_cons.mpr ⟨lw_p73, List.forall_mem_cons.mpr ⟨lw_p74, List.forall_mem_cons.mpr ⟨lw_p75, List.forall_mem_cons.mpr ⟨lw_p76, List.forall_mem_cons.mpr ⟨lw_p77, List.forall_mem_cons.mpr ⟨lw_p78, List.forall_mem_cons.mpr ⟨lw_p79, fun _ h => absurd h List.not_mem_nil⟩⟩⟩⟩⟩⟩⟩⟩⟩⟩⟩⟩⟩⟩⟩⟩
theorem lw_p80 : lw_okq (⟨"CreakBoardsModel", "waysTold", "(JI)I"⟩, 59) := ⟨⟨by decide +kernel, by decide +kernel⟩, List.mem_of_getElem? (i := 1000) (by decide +kernel), List.mem_of_getElem? (i := 1466) (by decide +kernel), List.mem_of_getElem? (i := 1467) (by decide +kernel)⟩
theorem lw_p81 : lw_okq (⟨"CreakBoardsModel", "allWays", "()J"⟩, 59) := ⟨⟨by decide +kernel, by decide +kernel⟩, List.mem_of_getElem? (i := 1000) (by decide +kernel), List.mem_of_getElem? (i := 1470) (by decide +kernel), List.mem_of_getElem? (i := 1471) (by decide +kernel)⟩
theorem lw_p82 : lw_okq (⟨"CreakBoardsModel", "isMinute", "(I)Z"⟩, 59) := ⟨⟨by decide +kernel, by decide +kernel⟩, List.mem_of_getElem? (i := 1000) (by decide +kernel), List.mem_of_getElem? (i := 1478) (by decide +kernel), List.mem_of_getElem? (i := 1479) (by decide +kernel)⟩
theorem lw_p83 : lw_okq (⟨"CreakBoardsModel", "layAll", "()Z"⟩, 59) := ⟨⟨by decide +kernel, by decide +kernel⟩, List.mem_of_getElem? (i := 1000) (by decide +kernel), List.mem_of_getElem? (i := 1482) (by decide +kernel), List.mem_of_getElem? (i := 1483) (by decide +kernel)⟩
theorem lw_p84 : lw_okq (⟨"CreakBoardsModel", "layRest", "()V"⟩, 59) := ⟨⟨by decide +kernel, by decide +kernel⟩, List.mem_of_getElem? (i := 1000) (by decide +kernel), List.mem_of_getElem? (i := 1486) (by decide +kernel), List.mem_of_getElem? (i := 1487) (by decide +kernel)⟩
theorem lw_p85 : lw_okq (⟨"CreakBoardsModel", "layIn", "(II)V"⟩, 59) := ⟨⟨by decide +kernel, by decide +kernel⟩, List.mem_of_getElem? (i := 1000) (by decide +kernel), List.mem_of_getElem? (i := 1490) (by decide +kernel), List.mem_of_getElem? (i := 1491) (by decide +kernel)⟩
theorem lw_p86 : lw_okq (⟨"CreakBoardsModel", "isAlive", "(II)Z"⟩, 59) := ⟨⟨by decide +kernel, by decide +kernel⟩, List.mem_of_getElem? (i := 1000) (by decide +kernel), List.mem_of_getElem? (i := 1494) (by decide +kernel), List.mem_of_getElem? (i := 1495) (by decide +kernel)⟩
theorem lw_p87 : lw_okq (⟨"CreakBoardsModel", "manyIn", "(II)I"⟩, 59) := ⟨⟨by decide +kernel, by decide +kernel⟩, List.mem_of_getElem? (i := 1000) (by decide +kernel), List.mem_of_getElem? (i := 1498) (by decide +kernel), List.mem_of_getElem? (i := 1499) (by decide +kernel)⟩
theorem lw_p88 : lw_okq (⟨"CreakBoardsModel", "areIn", "(III)Z"⟩, 59) := ⟨⟨by decide +kernel, by decide +kernel⟩, List.mem_of_getElem? (i := 1000) (by decide +kernel), List.mem_of_getElem? (i := 1514) (by decide +kernel), List.mem_of_getElem? (i := 1515) (by decide +kernel)⟩
theorem lw_p89 : lw_okq (⟨"CreakBoardsModel", "canMiss", "(II)Z"⟩, 59) := ⟨⟨by decide +kernel, by decide +kernel⟩, List.mem_of_getElem? (i := 1000) (by decide +kernel), List.mem_of_getElem? (i := 1518) (by decide +kernel), List.mem_of_getElem? (i := 1519) (by decide +kernel)⟩
theorem lw_p90 : lw_okq (⟨"CreakBoardsModel", "beginValues", "(I)V"⟩, 59) := ⟨⟨by decide +kernel, by decide +kernel⟩, List.mem_of_getElem? (i := 1000) (by decide +kernel), List.mem_of_getElem? (i := 1522) (by decide +kernel), List.mem_of_getElem? (i := 1523) (by decide +kernel)⟩
theorem lw_p91 : lw_okq (⟨"CreakBoardsModel", "turnValues", "()V"⟩, 59) := ⟨⟨by decide +kernel, by decide +kernel⟩, List.mem_of_getElem? (i := 1000) (by decide +kernel), List.mem_of_getElem? (i := 1526) (by decide +kernel), List.mem_of_getElem? (i := 1527) (by decide +kernel)⟩
theorem lw_p92 : lw_okq (⟨"CreakBoardsModel", "anyValue", "()Z"⟩, 59) := ⟨⟨by decide +kernel, by decide +kernel⟩, List.mem_of_getElem? (i := 1000) (by decide +kernel), List.mem_of_getElem? (i := 1530) (by decide +kernel), List.mem_of_getElem? (i := 1531) (by decide +kernel)⟩
theorem lw_p93 : lw_okq (⟨"CreakBoardsModel", "stands", "(IIZ)Z"⟩, 59) := ⟨⟨by decide +kernel, by decide +kernel⟩, List.mem_of_getElem? (i := 1000) (by decide +kernel), List.mem_of_getElem? (i := 1538) (by decide +kernel), List.mem_of_getElem? (i := 1539) (by decide +kernel)⟩
theorem lw_p94 : lw_okq (⟨"CreakBoardsModel", "keepsRoom", "(II)Z"⟩, 59) := ⟨⟨by decide +kernel, by decide +kernel⟩, List.mem_of_getElem? (i := 1000) (by decide +kernel), List.mem_of_getElem? (i := 1546) (by decide +kernel), List.mem_of_getElem? (i := 1547) (by decide +kernel)⟩
theorem lw_p95 : lw_okq (⟨"CreakBoardsModel", "goesOn", "(I)V"⟩, 59) := ⟨⟨by decide +kernel, by decide +kernel⟩, List.mem_of_getElem? (i := 1000) (by decide +kernel), List.mem_of_getElem? (i := 1550) (by decide +kernel), List.mem_of_getElem? (i := 1551) (by decide +kernel)⟩
def lw_privs_6 : List (MethodName × Nat) := [(⟨"CreakBoardsModel", "waysTold", "(JI)I"⟩, 59), (⟨"CreakBoardsModel", "allWays", "()J"⟩, 59), (⟨"CreakBoardsModel", "isMinute", "(I)Z"⟩, 59), (⟨"CreakBoardsModel", "layAll", "()Z"⟩, 59), (⟨"CreakBoardsModel", "layRest", "()V"⟩, 59), (⟨"CreakBoardsModel", "layIn", "(II)V"⟩, 59), (⟨"CreakBoardsModel", "isAlive", "(II)Z"⟩, 59), (⟨"CreakBoardsModel", "manyIn", "(II)I"⟩, 59), (⟨"CreakBoardsModel", "areIn", "(III)Z"⟩, 59), (⟨"CreakBoardsModel", "canMiss", "(II)Z"⟩, 59), (⟨"CreakBoardsModel", "beginValues", "(I)V"⟩, 59), (⟨"CreakBoardsModel", "turnValues", "()V"⟩, 59), (⟨"CreakBoardsModel", "anyValue", "()Z"⟩, 59), (⟨"CreakBoardsModel", "stands", "(IIZ)Z"⟩, 59), (⟨"CreakBoardsModel", "keepsRoom", "(II)Z"⟩, 59), (⟨"CreakBoardsModel", "goesOn", "(I)V"⟩, 59)]
theorem lw_r6 : ∀ q ∈ lw_privs_6, lw_okq q := List.forall_mem_cons.mpr ⟨lw_p80, List.forall_mem_cons.mpr ⟨lw_p81, List.forall_mem_cons.mpr ⟨lw_p82, List.forall_mem_cons.mpr ⟨lw_p83, List.forall_mem_cons.mpr ⟨lw_p84, List.forall_mem_cons.mpr ⟨lw_p85, List.forall_mem_cons.mpr ⟨lw_p86, List.forall_mem_cons.mpr ⟨lw_p87, List.forall_mem_cons.mpr ⟨lw_p88, List.forall_mem_cons.mpr ⟨lw_p89, List.forall_mem_cons.mpr ⟨lw_p90, List.forall_mem_cons.mpr ⟨lw_p91, List.forall_mem_cons.mpr ⟨lw_p92, List.forall_mem_cons.mpr ⟨lw_p93, List.forall_mem_cons.mpr ⟨lw_p94, List.forall_mem_cons.mpr ⟨lw_p95, fun _ h => absurd h List.not_mem_nil⟩⟩⟩⟩⟩⟩⟩⟩⟩⟩⟩⟩⟩⟩⟩⟩
theorem lw_p96 : lw_okq (⟨"CreakBoardsModel", "leastRoom", "(I)I"⟩, 59) := ⟨⟨by decide +kernel, by decide +kernel⟩, List.mem_of_getElem? (i := 1000) (by decide +kernel), List.mem_of_getElem? (i := 1558) (by decide +kernel), List.mem_of_getElem? (i := 1559) (by decide +kernel)⟩
theorem lw_p97 : lw_okq (⟨"CreakBoardsModel", "layPassing", "(II)V"⟩, 59) := ⟨⟨by decide +kernel, by decide +kernel⟩, List.mem_of_getElem? (i := 1000) (by decide +kernel), List.mem_of_getElem? (i := 1566) (by decide +kernel), List.mem_of_getElem? (i := 1567) (by decide +kernel)⟩
theorem lw_p98 : lw_okq (⟨"CreakBoardsModel", "layMinutes", "(I)V"⟩, 59) := ⟨⟨by decide +kernel, by decide +kernel⟩, List.mem_of_getElem? (i := 1000) (by decide +kernel), List.mem_of_getElem? (i := 1578) (by decide +kernel), List.mem_of_getElem? (i := 1579) (by decide +kernel)⟩
theorem lw_p99 : lw_okq (⟨"CreakBoardsModel", "needCounted", "()I"⟩, 59) := ⟨⟨by decide +kernel, by decide +kernel⟩, List.mem_of_getElem? (i := 1000) (by decide +kernel), List.mem_of_getElem? (i := 1590) (by decide +kernel), List.mem_of_getElem? (i := 1591) (by decide +kernel)⟩
theorem lw_p100 : lw_okq (⟨"CreakBoardsModel", "waysBy", "(II)J"⟩, 59) := ⟨⟨by decide +kernel, by decide +kernel⟩, List.mem_of_getElem? (i := 1000) (by decide +kernel), List.mem_of_getElem? (i := 1594) (by decide +kernel), List.mem_of_getElem? (i := 1595) (by decide +kernel)⟩
theorem lw_p101 : lw_okq (⟨"CreakBoardsModel", "fraction", "(JJI)I"⟩, 59) := ⟨⟨by decide +kernel, by decide +kernel⟩, List.mem_of_getElem? (i := 1000) (by decide +kernel), List.mem_of_getElem? (i := 1598) (by decide +kernel), List.mem_of_getElem? (i := 1599) (by decide +kernel)⟩
theorem lw_p102 : lw_okq (⟨"CreakBoardsModel", "cheapestBy", "(III)I"⟩, 59) := ⟨⟨by decide +kernel, by decide +kernel⟩, List.mem_of_getElem? (i := 1000) (by decide +kernel), List.mem_of_getElem? (i := 1613) (by decide +kernel), List.mem_of_getElem? (i := 1614) (by decide +kernel)⟩
theorem lw_p103 : lw_okq (⟨"CreakBoardsModel", "counted", "(I)I"⟩, 59) := ⟨⟨by decide +kernel, by decide +kernel⟩, List.mem_of_getElem? (i := 1000) (by decide +kernel), List.mem_of_getElem? (i := 1636) (by decide +kernel), List.mem_of_getElem? (i := 1637) (by decide +kernel)⟩
theorem lw_p104 : lw_okq (⟨"CreakBoardsModel", "mix", "(J)V"⟩, 59) := ⟨⟨by decide +kernel, by decide +kernel⟩, List.mem_of_getElem? (i := 1000) (by decide +kernel), List.mem_of_getElem? (i := 1645) (by decide +kernel), List.mem_of_getElem? (i := 1646) (by decide +kernel)⟩
theorem lw_p105 : lw_okq (⟨"CreakBoardsModel", "mixHouse", "()V"⟩, 59) := ⟨⟨by decide +kernel, by decide +kernel⟩, List.mem_of_getElem? (i := 1000) (by decide +kernel), List.mem_of_getElem? (i := 1650) (by decide +kernel), List.mem_of_getElem? (i := 1651) (by decide +kernel)⟩
def lw_privs_7 : List (MethodName × Nat) := [(⟨"CreakBoardsModel", "leastRoom", "(I)I"⟩, 59), (⟨"CreakBoardsModel", "layPassing", "(II)V"⟩, 59), (⟨"CreakBoardsModel", "layMinutes", "(I)V"⟩, 59), (⟨"CreakBoardsModel", "needCounted", "()I"⟩, 59), (⟨"CreakBoardsModel", "waysBy", "(II)J"⟩, 59), (⟨"CreakBoardsModel", "fraction", "(JJI)I"⟩, 59), (⟨"CreakBoardsModel", "cheapestBy", "(III)I"⟩, 59), (⟨"CreakBoardsModel", "counted", "(I)I"⟩, 59), (⟨"CreakBoardsModel", "mix", "(J)V"⟩, 59), (⟨"CreakBoardsModel", "mixHouse", "()V"⟩, 59)]
theorem lw_r7 : ∀ q ∈ lw_privs_7, lw_okq q := List.forall_mem_cons.mpr ⟨lw_p96, List.forall_mem_cons.mpr ⟨lw_p97, List.forall_mem_cons.mpr ⟨lw_p98, List.forall_mem_cons.mpr ⟨lw_p99, List.forall_mem_cons.mpr ⟨lw_p100, List.forall_mem_cons.mpr ⟨lw_p101, List.forall_mem_cons.mpr ⟨lw_p102, List.forall_mem_cons.mpr ⟨lw_p103, List.forall_mem_cons.mpr ⟨lw_p104, List.forall_mem_cons.mpr ⟨lw_p105, fun _ h => absurd h List.not_mem_nil⟩⟩⟩⟩⟩⟩⟩⟩⟩⟩
def lw_privs : List (MethodName × Nat) := lw_privs_1 ++ (lw_privs_2 ++ (lw_privs_3 ++ (lw_privs_4 ++ (lw_privs_5 ++ (lw_privs_6 ++ (lw_privs_7))))))
def lw_tbl : List Cond := k2_sels lw_privs ++ tables_1
theorem lw_privs_ok : ∀ q ∈ lw_privs, lw_okq q := by
  show ∀ q ∈ lw_privs_1 ++ (lw_privs_2 ++ (lw_privs_3 ++ (lw_privs_4 ++ (lw_privs_5 ++ (lw_privs_6 ++ (lw_privs_7)))))), lw_okq q
  exact List.forall_mem_append.mpr ⟨lw_r1, List.forall_mem_append.mpr ⟨lw_r2, List.forall_mem_append.mpr ⟨lw_r3, List.forall_mem_append.mpr ⟨lw_r4, List.forall_mem_append.mpr ⟨lw_r5, List.forall_mem_append.mpr ⟨lw_r6, lw_r7⟩⟩⟩⟩⟩⟩
/-! ===== BEGIN words of one list among another's, by their places ===== -/
theorem goodIn_r {big : List Cond} (ws : List Cond) (ps : List Nat) (hp : ws = ps.filterMap (fun i => big[i]?)) (h : ws.all goodWord = true) : GoodIn big ws := by
  intro w hw
  have h1 := List.all_eq_true.mp h w hw
  rw [hp] at hw
  obtain ⟨i, -, hi⟩ := List.mem_filterMap.mp hw
  have hm : w ∈ big := by first | exact List.mem_of_getElem? hi | exact List.getElem?_mem hi
  exact ⟨hm, good_of_word h1⟩
theorem goodIn_app {big a b : List Cond} (ha : GoodIn big a) (hb : GoodIn big b) : GoodIn big (a ++ b) := fun w h => (List.mem_append.mp h).elim (ha w) (hb w)
theorem goodIn_ca {big a b : List Cond} {c : Cond} (ha : GoodIn big (c :: a)) (hb : GoodIn big b) : GoodIn big (c :: (a ++ b)) := fun w h => (List.mem_cons.mp h).elim (fun e => ha w (List.mem_cons.mpr (Or.inl e))) (fun h => (List.mem_append.mp h).elim (fun h => ha w (List.mem_cons.mpr (Or.inr h))) (hb w))
theorem goodIn_sub {big ws : List Cond} (hm : ∀ w ∈ ws, w ∈ big) (h : ws.all goodWord = true) : GoodIn big ws := fun w hw => ⟨hm w hw, good_of_word (List.all_eq_true.mp h w hw)⟩
/-! ===== END ===== -/

def RX0 : String := "CreakBoards$House"
def TX0 : u_T := fun k => match k with
  | 0 => ("CreakBoards$House", "rooms", "I", false)
  | 1 => ("CreakBoards$House", "doors", "I", false)
  | 2 => ("CreakBoards$House", "walkers", "I", false)
  | 3 => ("CreakBoards$House", "last", "I", false)
  | 4 => ("CreakBoards$House", "boards", "I", false)
  | 5 => ("CreakBoards$House", "lesser", "[I", true)
  | 6 => ("CreakBoards$House", "greater", "[I", true)
  | 7 => ("CreakBoards$House", "pace", "[I", true)
  | _ => ("CreakBoards$House", "begin", "[I", true)
def tyX0 : Nat → FieldType := fun k => match k with
  | 0 => .int
  | 1 => .int
  | 2 => .int
  | 3 => .int
  | 4 => .int
  | 5 => .array .int
  | 6 => .array .int
  | 7 => .array .int
  | _ => .array .int
abbrev wsX00 : List Cond := u_ws RX0 TX0 9
theorem nmX0 : ∀ a, a < 9 → ∀ b, b < 9 → a ≠ b → (TX0 a).2.1 ≠ (TX0 b).2.1 := by decide +kernel
theorem tyX0_ok : ∀ k, k < 9 → parseFieldDescriptor (TX0 k).2.2.1 = some (tyX0 k) := by decide +kernel
abbrev cX0_init : ByteArray := prog_2_method_1_code
def yX0_init : MethodName := ⟨RX0, "<init>", "()V"⟩
abbrev cX0_clear : ByteArray := prog_2_method_2_code
def yX0_clear : MethodName := ⟨RX0, "clear", "()V"⟩
abbrev cX0_addDoor : ByteArray := prog_2_method_3_code
def yX0_addDoor : MethodName := ⟨RX0, "addDoor", "(IIZ)V"⟩
abbrev cX0_addWalker : ByteArray := prog_2_method_4_code
def yX0_addWalker : MethodName := ⟨RX0, "addWalker", "(II)V"⟩
abbrev cX0_hasRoom : ByteArray := prog_2_method_5_code
def yX0_hasRoom : MethodName := ⟨RX0, "hasRoom", "(I)Z"⟩
abbrev cX0_hasDoor : ByteArray := prog_2_method_6_code
def yX0_hasDoor : MethodName := ⟨RX0, "hasDoor", "(I)Z"⟩
abbrev cX0_hasBoard : ByteArray := prog_2_method_7_code
def yX0_hasBoard : MethodName := ⟨RX0, "hasBoard", "(I)Z"⟩
abbrev cX0_hasWalker : ByteArray := prog_2_method_8_code
def yX0_hasWalker : MethodName := ⟨RX0, "hasWalker", "(I)Z"⟩
abbrev cX0_hasMinute : ByteArray := prog_2_method_9_code
def yX0_hasMinute : MethodName := ⟨RX0, "hasMinute", "(I)Z"⟩
abbrev cX0_roomBits : ByteArray := prog_2_method_10_code
def yX0_roomBits : MethodName := ⟨RX0, "roomBits", "()I"⟩
abbrev cX0_doorBits : ByteArray := prog_2_method_11_code
def yX0_doorBits : MethodName := ⟨RX0, "doorBits", "()I"⟩
abbrev cX0_walkerBits : ByteArray := prog_2_method_12_code
def yX0_walkerBits : MethodName := ⟨RX0, "walkerBits", "()I"⟩
abbrev cX0_allows : ByteArray := prog_2_method_13_code
def yX0_allows : MethodName := ⟨RX0, "allows", "(IIII)Z"⟩
abbrev cX0_behind : ByteArray := prog_2_method_14_code
def yX0_behind : MethodName := ⟨RX0, "behind", "(II)I"⟩
abbrev cX0_doorItem : ByteArray := prog_2_method_15_code
def yX0_doorItem : MethodName := ⟨RX0, "doorItem", "(II)I"⟩
abbrev cX0_digested : ByteArray := prog_2_method_16_code
def yX0_digested : MethodName := ⟨RX0, "digested", "(J)J"⟩
def RX1 : String := "CreakBoards$Moves"
def TX1 : u_T := fun k => match k with
  | 0 => ("CreakBoards$Moves", "first", "[I", true)
  | 1 => ("CreakBoards$Moves", "into", "[I", true)
  | _ => ("CreakBoards$Moves", "door", "[I", true)
def tyX1 : Nat → FieldType := fun k => match k with
  | 0 => .array .int
  | 1 => .array .int
  | _ => .array .int
abbrev wsX10 : List Cond := u_ws RX1 TX1 3
theorem nmX1 : ∀ a, a < 3 → ∀ b, b < 3 → a ≠ b → (TX1 a).2.1 ≠ (TX1 b).2.1 := by decide +kernel
theorem tyX1_ok : ∀ k, k < 3 → parseFieldDescriptor (TX1 k).2.2.1 = some (tyX1 k) := by decide +kernel
abbrev cX1_init : ByteArray := prog_3_method_1_code
def yX1_init : MethodName := ⟨RX1, "<init>", "()V"⟩
abbrev cX1_list : ByteArray := prog_3_method_2_code
def yX1_list : MethodName := ⟨RX1, "list", "(LCreakBoards$Plan;I)V"⟩
abbrev cX1_listAbsent : ByteArray := prog_3_method_3_code
def yX1_listAbsent : MethodName := ⟨RX1, "listAbsent", "(I)I"⟩
abbrev cX1_listState : ByteArray := prog_3_method_4_code
def yX1_listState : MethodName := ⟨RX1, "listState", "(LCreakBoards$Plan;IIII)I"⟩
def RX2 : String := "CreakBoards$Night"
def TX2 : u_T := fun k => match k with
  | 0 => ("CreakBoards$Night", "events", "I", false)
  | 1 => ("CreakBoards$Night", "kind", "[I", true)
  | 2 => ("CreakBoards$Night", "thing", "[I", true)
  | 3 => ("CreakBoards$Night", "other", "[I", true)
  | _ => ("CreakBoards$Night", "minute", "[I", true)
def tyX2 : Nat → FieldType := fun k => match k with
  | 0 => .int
  | 1 => .array .int
  | 2 => .array .int
  | 3 => .array .int
  | _ => .array .int
abbrev wsX20 : List Cond := u_ws RX2 TX2 5
theorem nmX2 : ∀ a, a < 5 → ∀ b, b < 5 → a ≠ b → (TX2 a).2.1 ≠ (TX2 b).2.1 := by decide +kernel
theorem tyX2_ok : ∀ k, k < 5 → parseFieldDescriptor (TX2 k).2.2.1 = some (tyX2 k) := by decide +kernel
abbrev cX2_init : ByteArray := prog_4_method_1_code
def yX2_init : MethodName := ⟨RX2, "<init>", "()V"⟩
abbrev cX2_add : ByteArray := prog_4_method_2_code
def yX2_add : MethodName := ⟨RX2, "add", "(IIII)V"⟩
abbrev cX2_addFrom : ByteArray := prog_4_method_3_code
def yX2_addFrom : MethodName := ⟨RX2, "addFrom", "(LCreakBoards$Night;I)V"⟩
abbrev cX2_names : ByteArray := prog_4_method_4_code
def yX2_names : MethodName := ⟨RX2, "names", "(I)Z"⟩
abbrev cX2_isOf : ByteArray := prog_4_method_5_code
def yX2_isOf : MethodName := ⟨RX2, "isOf", "(II)Z"⟩
abbrev cX2_item : ByteArray := prog_4_method_6_code
def yX2_item : MethodName := ⟨RX2, "item", "(II)I"⟩
abbrev cX2_sightings : ByteArray := prog_4_method_7_code
def yX2_sightings : MethodName := ⟨RX2, "sightings", "()I"⟩
abbrev cX2_digested : ByteArray := prog_4_method_8_code
def yX2_digested : MethodName := ⟨RX2, "digested", "(J)J"⟩
def RX3 : String := "CreakBoards$Plan"
def TX3 : u_T := fun k => match k with
  | 0 => ("CreakBoards$Plan", "house", "LCreakBoards$House;", false)
  | 1 => ("CreakBoards$Plan", "used", "I", false)
  | 2 => ("CreakBoards$Plan", "heard", "I", false)
  | 3 => ("CreakBoards$Plan", "total", "I", false)
  | 4 => ("CreakBoards$Plan", "fit", "Z", false)
  | 5 => ("CreakBoards$Plan", "sounds", "[I", true)
  | 6 => ("CreakBoards$Plan", "shut", "[I", true)
  | 7 => ("CreakBoards$Plan", "seen", "[I", true)
  | 8 => ("CreakBoards$Plan", "allowed", "[I", true)
  | 9 => ("CreakBoards$Plan", "states", "[I", true)
  | 10 => ("CreakBoards$Plan", "stride", "[I", true)
  | _ => ("CreakBoards$Plan", "spots", "[I", true)
def tyX3 : Nat → FieldType := fun k => match k with
  | 0 => .object "CreakBoards$House"
  | 1 => .int
  | 2 => .int
  | 3 => .int
  | 4 => .boolean
  | 5 => .array .int
  | 6 => .array .int
  | 7 => .array .int
  | 8 => .array .int
  | 9 => .array .int
  | 10 => .array .int
  | _ => .array .int
abbrev wsX30 : List Cond := u_ws RX3 TX3 12
theorem nmX3 : ∀ a, a < 12 → ∀ b, b < 12 → a ≠ b → (TX3 a).2.1 ≠ (TX3 b).2.1 := by decide +kernel
theorem tyX3_ok : ∀ k, k < 12 → parseFieldDescriptor (TX3 k).2.2.1 = some (tyX3 k) := by decide +kernel
abbrev cX3_init : ByteArray := prog_5_method_1_code
def yX3_init : MethodName := ⟨RX3, "<init>", "(LCreakBoards$House;)V"⟩
abbrev cX3_make : ByteArray := prog_5_method_2_code
def yX3_make : MethodName := ⟨RX3, "make", "(LCreakBoards$House;II)V"⟩
abbrev cX3_shape : ByteArray := prog_5_method_3_code
def yX3_shape : MethodName := ⟨RX3, "shape", "()V"⟩
abbrev cX3_spot : ByteArray := prog_5_method_4_code
def yX3_spot : MethodName := ⟨RX3, "spot", "(II)I"⟩
abbrev cX3_roomOf : ByteArray := prog_5_method_5_code
def yX3_roomOf : MethodName := ⟨RX3, "roomOf", "(I)I"⟩
abbrev cX3_take : ByteArray := prog_5_method_6_code
def yX3_take : MethodName := ⟨RX3, "take", "(LCreakBoards$Night;I)V"⟩
abbrev cX3_takeEvent : ByteArray := prog_5_method_7_code
def yX3_takeEvent : MethodName := ⟨RX3, "takeEvent", "(LCreakBoards$Night;I)V"⟩
abbrev cX3_opens : ByteArray := prog_5_method_8_code
def yX3_opens : MethodName := ⟨RX3, "opens", "(II)Z"⟩
abbrev cX3_mayGo : ByteArray := prog_5_method_9_code
def yX3_mayGo : MethodName := ⟨RX3, "mayGo", "(III)Z"⟩
abbrev cX3_fits : ByteArray := prog_5_method_10_code
def yX3_fits : MethodName := ⟨RX3, "fits", "(II)Z"⟩
def RX4 : String := "CreakBoards$Reader"
def TX4 : u_T := fun k => match k with
  | 0 => ("CreakBoards$Reader", "text", "[I", false)
  | 1 => ("CreakBoards$Reader", "size", "I", false)
  | 2 => ("CreakBoards$Reader", "place", "I", false)
  | _ => ("CreakBoards$Reader", "failed", "Z", false)
def tyX4 : Nat → FieldType := fun k => match k with
  | 0 => .array .int
  | 1 => .int
  | 2 => .int
  | _ => .boolean
abbrev wsX40 : List Cond := u_ws RX4 TX4 4
theorem nmX4 : ∀ a, a < 4 → ∀ b, b < 4 → a ≠ b → (TX4 a).2.1 ≠ (TX4 b).2.1 := by decide +kernel
theorem tyX4_ok : ∀ k, k < 4 → parseFieldDescriptor (TX4 k).2.2.1 = some (tyX4 k) := by decide +kernel
abbrev cX4_init : ByteArray := prog_6_method_1_code
def yX4_init : MethodName := ⟨RX4, "<init>", "()V"⟩
abbrev cX4_open : ByteArray := prog_6_method_2_code
def yX4_open : MethodName := ⟨RX4, "open", "([II)V"⟩
abbrev cX4_readHouse : ByteArray := prog_6_method_3_code
def yX4_readHouse : MethodName := ⟨RX4, "readHouse", "(LCreakBoards$House;)V"⟩
abbrev cX4_readNight : ByteArray := prog_6_method_4_code
def yX4_readNight : MethodName := ⟨RX4, "readNight", "(LCreakBoards$House;LCreakBoards$Night;)V"⟩
abbrev cX4_findItem : ByteArray := prog_6_method_5_code
def yX4_findItem : MethodName := ⟨RX4, "findItem", "()Z"⟩
abbrev cX4_readHouseItem : ByteArray := prog_6_method_6_code
def yX4_readHouseItem : MethodName := ⟨RX4, "readHouseItem", "(LCreakBoards$House;)V"⟩
abbrev cX4_readDoor : ByteArray := prog_6_method_7_code
def yX4_readDoor : MethodName := ⟨RX4, "readDoor", "(LCreakBoards$House;)V"⟩
abbrev cX4_readWalker : ByteArray := prog_6_method_8_code
def yX4_readWalker : MethodName := ⟨RX4, "readWalker", "(LCreakBoards$House;)V"⟩
abbrev cX4_readRising : ByteArray := prog_6_method_9_code
def yX4_readRising : MethodName := ⟨RX4, "readRising", "(I)I"⟩
abbrev cX4_readEvent : ByteArray := prog_6_method_10_code
def yX4_readEvent : MethodName := ⟨RX4, "readEvent", "(LCreakBoards$House;LCreakBoards$Night;)V"⟩
abbrev cX4_kindAhead : ByteArray := prog_6_method_11_code
def yX4_kindAhead : MethodName := ⟨RX4, "kindAhead", "()I"⟩
abbrev cX4_ahead : ByteArray := prog_6_method_12_code
def yX4_ahead : MethodName := ⟨RX4, "ahead", "(I)Z"⟩
abbrev cX4_figureAhead : ByteArray := prog_6_method_13_code
def yX4_figureAhead : MethodName := ⟨RX4, "figureAhead", "()Z"⟩
abbrev cX4_expect : ByteArray := prog_6_method_14_code
def yX4_expect : MethodName := ⟨RX4, "expect", "(I)V"⟩
abbrev cX4_figure : ByteArray := prog_6_method_15_code
def yX4_figure : MethodName := ⟨RX4, "figure", "(I)I"⟩
abbrev cX4_readMinute : ByteArray := prog_6_method_16_code
def yX4_readMinute : MethodName := ⟨RX4, "readMinute", "(II)I"⟩
def RX5 : String := "CreakBoards$Shelf"
def TX5 : u_T := fun k => match k with
  | 0 => ("CreakBoards$Shelf", "lists", "[[I", true)
  | _ => ("CreakBoards$Shelf", "sizes", "[I", true)
def tyX5 : Nat → FieldType := fun k => match k with
  | 0 => .array (.array .int)
  | _ => .array .int
abbrev wsX50 : List Cond := u_ws RX5 TX5 2
theorem nmX5 : ∀ a, a < 2 → ∀ b, b < 2 → a ≠ b → (TX5 a).2.1 ≠ (TX5 b).2.1 := by decide +kernel
theorem tyX5_ok : ∀ k, k < 2 → parseFieldDescriptor (TX5 k).2.2.1 = some (tyX5 k) := by decide +kernel
abbrev cX5_init : ByteArray := prog_7_method_1_code
def yX5_init : MethodName := ⟨RX5, "<init>", "(II)V"⟩
abbrev cX5_names : ByteArray := prog_7_method_2_code
def yX5_names : MethodName := ⟨RX5, "names", "(I)Z"⟩
abbrev cX5_lacks : ByteArray := prog_7_method_3_code
def yX5_lacks : MethodName := ⟨RX5, "lacks", "(I)Z"⟩
abbrev cX5_holds : ByteArray := prog_7_method_4_code
def yX5_holds : MethodName := ⟨RX5, "holds", "(II)Z"⟩
abbrev cX5_spans : ByteArray := prog_7_method_5_code
def yX5_spans : MethodName := ⟨RX5, "spans", "(III)Z"⟩
abbrev cX5_make : ByteArray := prog_7_method_6_code
def yX5_make : MethodName := ⟨RX5, "make", "(III)V"⟩
abbrev cX5_exchange : ByteArray := prog_7_method_7_code
def yX5_exchange : MethodName := ⟨RX5, "exchange", "(III)I"⟩
abbrev cX5_standing : ByteArray := prog_7_method_8_code
def yX5_standing : MethodName := ⟨RX5, "standing", "()I"⟩
abbrev cX5_digested : ByteArray := prog_7_method_9_code
def yX5_digested : MethodName := ⟨RX5, "digested", "(J)J"⟩
def RX6 : String := "CreakBoards$Walks"
def TX6 : u_T := fun k => match k with
  | 0 => ("CreakBoards$Walks", "moves", "LCreakBoards$Moves;", true)
  | 1 => ("CreakBoards$Walks", "sets", "[J", true)
  | 2 => ("CreakBoards$Walks", "may", "[I", true)
  | 3 => ("CreakBoards$Walks", "must", "[I", true)
  | 4 => ("CreakBoards$Walks", "maySome", "[I", true)
  | 5 => ("CreakBoards$Walks", "mustSome", "[I", true)
  | 6 => ("CreakBoards$Walks", "now", "[J", false)
  | 7 => ("CreakBoards$Walks", "next", "[J", false)
  | 8 => ("CreakBoards$Walks", "kept", "[J", false)
  | 9 => ("CreakBoards$Walks", "plan", "LCreakBoards$Plan;", false)
  | 10 => ("CreakBoards$Walks", "mode", "I", false)
  | 11 => ("CreakBoards$Walks", "minute", "I", false)
  | 12 => ("CreakBoards$Walks", "followed", "I", false)
  | 13 => ("CreakBoards$Walks", "missPrice", "I", false)
  | 14 => ("CreakBoards$Walks", "selfPrice", "I", false)
  | 15 => ("CreakBoards$Walks", "inSets", "Z", false)
  | _ => ("CreakBoards$Walks", "stood", "J", false)
def tyX6 : Nat → FieldType := fun k => match k with
  | 0 => .object "CreakBoards$Moves"
  | 1 => .array .long
  | 2 => .array .int
  | 3 => .array .int
  | 4 => .array .int
  | 5 => .array .int
  | 6 => .array .long
  | 7 => .array .long
  | 8 => .array .long
  | 9 => .object "CreakBoards$Plan"
  | 10 => .int
  | 11 => .int
  | 12 => .int
  | 13 => .int
  | 14 => .int
  | 15 => .boolean
  | _ => .long
abbrev wsX60 : List Cond := u_ws RX6 TX6 17
theorem nmX6 : ∀ a, a < 17 → ∀ b, b < 17 → a ≠ b → (TX6 a).2.1 ≠ (TX6 b).2.1 := by decide +kernel
theorem tyX6_ok : ∀ k, k < 17 → parseFieldDescriptor (TX6 k).2.2.1 = some (tyX6 k) := by decide +kernel
abbrev cX6_init : ByteArray := prog_8_method_1_code
def yX6_init : MethodName := ⟨RX6, "<init>", "()V"⟩
abbrev cX6_firstEmpty : ByteArray := prog_8_method_2_code
def yX6_firstEmpty : MethodName := ⟨RX6, "firstEmpty", "(LCreakBoards$Plan;Z)I"⟩
abbrev cX6_live : ByteArray := prog_8_method_3_code
def yX6_live : MethodName := ⟨RX6, "live", "(LCreakBoards$Plan;)V"⟩
abbrev cX6_weigh : ByteArray := prog_8_method_4_code
def yX6_weigh : MethodName := ⟨RX6, "weigh", "(LCreakBoards$Plan;I)V"⟩
abbrev cX6_waysIn : ByteArray := prog_8_method_5_code
def yX6_waysIn : MethodName := ⟨RX6, "waysIn", "(LCreakBoards$Plan;I)J"⟩
abbrev cX6_through : ByteArray := prog_8_method_6_code
def yX6_through : MethodName := ⟨RX6, "through", "(JJ)J"⟩
abbrev cX6_standings : ByteArray := prog_8_method_7_code
def yX6_standings : MethodName := ⟨RX6, "standings", "(LCreakBoards$Plan;II)J"⟩
abbrev cX6_stayApart : ByteArray := prog_8_method_8_code
def yX6_stayApart : MethodName := ⟨RX6, "stayApart", "(LCreakBoards$Plan;II)Z"⟩
abbrev cX6_firstWrong : ByteArray := prog_8_method_9_code
def yX6_firstWrong : MethodName := ⟨RX6, "firstWrong", "(LCreakBoards$Plan;I[I)I"⟩
abbrev cX6_firstWalk : ByteArray := prog_8_method_10_code
def yX6_firstWalk : MethodName := ⟨RX6, "firstWalk", "(LCreakBoards$Plan;I[I)V"⟩
abbrev cX6_least : ByteArray := prog_8_method_11_code
def yX6_least : MethodName := ⟨RX6, "least", "(LCreakBoards$Plan;II)J"⟩
abbrev cX6_lastSince : ByteArray := prog_8_method_12_code
def yX6_lastSince : MethodName := ⟨RX6, "lastSince", "(LCreakBoards$Plan;II)I"⟩
abbrev cX6_mayBe : ByteArray := prog_8_method_13_code
def yX6_mayBe : MethodName := ⟨RX6, "mayBe", "(LCreakBoards$Plan;I)I"⟩
abbrev cX6_mustBe : ByteArray := prog_8_method_14_code
def yX6_mustBe : MethodName := ⟨RX6, "mustBe", "(LCreakBoards$Plan;I)I"⟩
abbrev cX6_fewestIn : ByteArray := prog_8_method_15_code
def yX6_fewestIn : MethodName := ⟨RX6, "fewestIn", "(LCreakBoards$Plan;II)I"⟩
abbrev cX6_mostIn : ByteArray := prog_8_method_16_code
def yX6_mostIn : MethodName := ⟨RX6, "mostIn", "(LCreakBoards$Plan;II)I"⟩
abbrev cX6_firstMeeting : ByteArray := prog_8_method_17_code
def yX6_firstMeeting : MethodName := ⟨RX6, "firstMeeting", "(LCreakBoards$Plan;II)I"⟩
abbrev cX6_walkersThrough : ByteArray := prog_8_method_18_code
def yX6_walkersThrough : MethodName := ⟨RX6, "walkersThrough", "([III)I"⟩
abbrev cX6_minutesOf : ByteArray := prog_8_method_19_code
def yX6_minutesOf : MethodName := ⟨RX6, "minutesOf", "([III)I"⟩
abbrev cX6_begin : ByteArray := prog_8_method_20_code
def yX6_begin : MethodName := ⟨RX6, "begin", "(LCreakBoards$Plan;IZ)V"⟩
abbrev cX6_rested : ByteArray := prog_8_method_21_code
def yX6_rested : MethodName := ⟨RX6, "rested", "(I)I"⟩
abbrev cX6_stays : ByteArray := prog_8_method_22_code
def yX6_stays : MethodName := ⟨RX6, "stays", "(II)Z"⟩
abbrev cX6_sweep : ByteArray := prog_8_method_23_code
def yX6_sweep : MethodName := ⟨RX6, "sweep", "(I)V"⟩
abbrev cX6_fan : ByteArray := prog_8_method_24_code
def yX6_fan : MethodName := ⟨RX6, "fan", "(IIII)V"⟩
abbrev cX6_link : ByteArray := prog_8_method_25_code
def yX6_link : MethodName := ⟨RX6, "link", "(IIIII)V"⟩
abbrev cX6_note : ByteArray := prog_8_method_26_code
def yX6_note : MethodName := ⟨RX6, "note", "(II)V"⟩
abbrev cX6_stoodOn : ByteArray := prog_8_method_27_code
def yX6_stoodOn : MethodName := ⟨RX6, "stoodOn", "(JI)J"⟩
abbrev cX6_priceOf : ByteArray := prog_8_method_28_code
def yX6_priceOf : MethodName := ⟨RX6, "priceOf", "(I)J"⟩
abbrev cX6_lesser : ByteArray := prog_8_method_29_code
def yX6_lesser : MethodName := ⟨RX6, "lesser", "(JJ)J"⟩
abbrev cX6_together : ByteArray := prog_8_method_30_code
def yX6_together : MethodName := ⟨RX6, "together", "(III)Z"⟩
abbrev cX6_keepIn : ByteArray := prog_8_method_31_code
def yX6_keepIn : MethodName := ⟨RX6, "keepIn", "(II)V"⟩
abbrev cX6_isNone : ByteArray := prog_8_method_32_code
def yX6_isNone : MethodName := ⟨RX6, "isNone", "()Z"⟩
abbrev cX6_isIn : ByteArray := prog_8_method_33_code
def yX6_isIn : MethodName := ⟨RX6, "isIn", "(II)Z"⟩
abbrev cX6_keepSet : ByteArray := prog_8_method_34_code
def yX6_keepSet : MethodName := ⟨RX6, "keepSet", "(I)V"⟩
abbrev cX6_loadSet : ByteArray := prog_8_method_35_code
def yX6_loadSet : MethodName := ⟨RX6, "loadSet", "(I)V"⟩
def RX7 : String := "CreakBoards"
def TX7 : u_T := fun k => match k with
  | 0 => ("CreakBoards", "rows", "LCreakBoards$Shelf;", true)
  | 1 => ("CreakBoards", "texts", "LCreakBoards$Shelf;", true)
  | 2 => ("CreakBoards", "reader", "LCreakBoards$Reader;", true)
  | 3 => ("CreakBoards", "walks", "LCreakBoards$Walks;", true)
  | 4 => ("CreakBoards", "plan", "LCreakBoards$Plan;", true)
  | 5 => ("CreakBoards", "trial", "LCreakBoards$Plan;", true)
  | 6 => ("CreakBoards", "night", "LCreakBoards$Night;", true)
  | 7 => ("CreakBoards", "spareNight", "LCreakBoards$Night;", true)
  | 8 => ("CreakBoards", "house", "LCreakBoards$House;", false)
  | 9 => ("CreakBoards", "spareHouse", "LCreakBoards$House;", false)
  | 10 => ("CreakBoards", "searched", "Z", false)
  | 11 => ("CreakBoards", "lived", "Z", false)
  | 12 => ("CreakBoards", "astray", "I", false)
  | 13 => ("CreakBoards", "latestAsked", "I", false)
  | 14 => ("CreakBoards", "latestFinding", "I", false)
  | 15 => ("CreakBoards", "findingCounts", "[I", true)
  | 16 => ("CreakBoards", "latestMany", "J", false)
  | 17 => ("CreakBoards", "latestUpper", "J", false)
  | _ => ("CreakBoards", "latestLower", "J", false)
def tyX7 : Nat → FieldType := fun k => match k with
  | 0 => .object "CreakBoards$Shelf"
  | 1 => .object "CreakBoards$Shelf"
  | 2 => .object "CreakBoards$Reader"
  | 3 => .object "CreakBoards$Walks"
  | 4 => .object "CreakBoards$Plan"
  | 5 => .object "CreakBoards$Plan"
  | 6 => .object "CreakBoards$Night"
  | 7 => .object "CreakBoards$Night"
  | 8 => .object "CreakBoards$House"
  | 9 => .object "CreakBoards$House"
  | 10 => .boolean
  | 11 => .boolean
  | 12 => .int
  | 13 => .int
  | 14 => .int
  | 15 => .array .int
  | 16 => .long
  | 17 => .long
  | _ => .long
abbrev wsX70 : List Cond := u_ws RX7 TX7 19
theorem nmX7 : ∀ a, a < 19 → ∀ b, b < 19 → a ≠ b → (TX7 a).2.1 ≠ (TX7 b).2.1 := by decide +kernel
theorem tyX7_ok : ∀ k, k < 19 → parseFieldDescriptor (TX7 k).2.2.1 = some (tyX7 k) := by decide +kernel
abbrev cX7_init : ByteArray := prog_1_method_1_code
def yX7_init : MethodName := ⟨RX7, "<init>", "()V"⟩
abbrev cX7_row : ByteArray := prog_1_method_2_code
def yX7_row : MethodName := ⟨RX7, "row", "(II)I"⟩
abbrev cX7_lay : ByteArray := prog_1_method_3_code
def yX7_lay : MethodName := ⟨RX7, "lay", "(III)I"⟩
abbrev cX7_at : ByteArray := prog_1_method_4_code
def yX7_at : MethodName := ⟨RX7, "at", "(II)I"⟩
abbrev cX7_tear : ByteArray := prog_1_method_5_code
def yX7_tear : MethodName := ⟨RX7, "tear", "(I)I"⟩
abbrev cX7_copy : ByteArray := prog_1_method_6_code
def yX7_copy : MethodName := ⟨RX7, "copy", "(IIIII)I"⟩
abbrev cX7_mean : ByteArray := prog_1_method_7_code
def yX7_mean : MethodName := ⟨RX7, "mean", "(I)I"⟩
abbrev cX7_text : ByteArray := prog_1_method_8_code
def yX7_text : MethodName := ⟨RX7, "text", "(II)I"⟩
abbrev cX7_put : ByteArray := prog_1_method_9_code
def yX7_put : MethodName := ⟨RX7, "put", "(III)I"⟩
abbrev cX7_fault : ByteArray := prog_1_method_10_code
def yX7_fault : MethodName := ⟨RX7, "fault", "(IZ)I"⟩
abbrev cX7_house : ByteArray := prog_1_method_11_code
def yX7_house : MethodName := ⟨RX7, "house", "(I)I"⟩
abbrev cX7_night : ByteArray := prog_1_method_12_code
def yX7_night : MethodName := ⟨RX7, "night", "(I)I"⟩
abbrev cX7_event : ByteArray := prog_1_method_13_code
def yX7_event : MethodName := ⟨RX7, "event", "(IIII)I"⟩
abbrev cX7_back : ByteArray := prog_1_method_14_code
def yX7_back : MethodName := ⟨RX7, "back", "(I)I"⟩
abbrev cX7_told : ByteArray := prog_1_method_15_code
def yX7_told : MethodName := ⟨RX7, "told", "(II)I"⟩
abbrev cX7_mark : ByteArray := prog_1_method_16_code
def yX7_mark : MethodName := ⟨RX7, "mark", "(II)I"⟩
abbrev cX7_door : ByteArray := prog_1_method_17_code
def yX7_door : MethodName := ⟨RX7, "door", "(II)I"⟩
abbrev cX7_walker : ByteArray := prog_1_method_18_code
def yX7_walker : MethodName := ⟨RX7, "walker", "(II)I"⟩
abbrev cX7_could : ByteArray := prog_1_method_19_code
def yX7_could : MethodName := ⟨RX7, "could", "()I"⟩
abbrev cX7_fewest : ByteArray := prog_1_method_20_code
def yX7_fewest : MethodName := ⟨RX7, "fewest", "()I"⟩
abbrev cX7_ways : ByteArray := prog_1_method_21_code
def yX7_ways : MethodName := ⟨RX7, "ways", "()I"⟩
abbrev cX7_rooms : ByteArray := prog_1_method_22_code
def yX7_rooms : MethodName := ⟨RX7, "rooms", "(II)I"⟩
abbrev cX7_empty : ByteArray := prog_1_method_23_code
def yX7_empty : MethodName := ⟨RX7, "empty", "(I)I"⟩
abbrev cX7_where : ByteArray := prog_1_method_24_code
def yX7_where : MethodName := ⟨RX7, "where", "(II)I"⟩
abbrev cX7_met : ByteArray := prog_1_method_25_code
def yX7_met : MethodName := ⟨RX7, "met", "(II)I"⟩
abbrev cX7_still : ByteArray := prog_1_method_26_code
def yX7_still : MethodName := ⟨RX7, "still", "(II)I"⟩
abbrev cX7_judge : ByteArray := prog_1_method_27_code
def yX7_judge : MethodName := ⟨RX7, "judge", "(II)I"⟩
abbrev cX7_way : ByteArray := prog_1_method_28_code
def yX7_way : MethodName := ⟨RX7, "way", "(II)I"⟩
abbrev cX7_whose : ByteArray := prog_1_method_29_code
def yX7_whose : MethodName := ⟨RX7, "whose", "(I)I"⟩
abbrev cX7_same : ByteArray := prog_1_method_30_code
def yX7_same : MethodName := ⟨RX7, "same", "(I)I"⟩
abbrev cX7_passes : ByteArray := prog_1_method_31_code
def yX7_passes : MethodName := ⟨RX7, "passes", "(I)I"⟩
abbrev cX7_third : ByteArray := prog_1_method_32_code
def yX7_third : MethodName := ⟨RX7, "third", "()I"⟩
abbrev cX7_chance : ByteArray := prog_1_method_33_code
def yX7_chance : MethodName := ⟨RX7, "chance", "(II)I"⟩
abbrev cX7_likely : ByteArray := prog_1_method_34_code
def yX7_likely : MethodName := ⟨RX7, "likely", "(II)I"⟩
abbrev cX7_cheapest : ByteArray := prog_1_method_35_code
def yX7_cheapest : MethodName := ⟨RX7, "cheapest", "(II)I"⟩
abbrev cX7_settle : ByteArray := prog_1_method_36_code
def yX7_settle : MethodName := ⟨RX7, "settle", "(III)I"⟩
abbrev cX7_stuck : ByteArray := prog_1_method_37_code
def yX7_stuck : MethodName := ⟨RX7, "stuck", "()I"⟩
abbrev cX7_quarrel : ByteArray := prog_1_method_38_code
def yX7_quarrel : MethodName := ⟨RX7, "quarrel", "()I"⟩
abbrev cX7_asked : ByteArray := prog_1_method_39_code
def yX7_asked : MethodName := ⟨RX7, "asked", "()I"⟩
abbrev cX7_many : ByteArray := prog_1_method_40_code
def yX7_many : MethodName := ⟨RX7, "many", "()J"⟩
abbrev cX7_upper : ByteArray := prog_1_method_41_code
def yX7_upper : MethodName := ⟨RX7, "upper", "()J"⟩
abbrev cX7_lower : ByteArray := prog_1_method_42_code
def yX7_lower : MethodName := ⟨RX7, "lower", "()J"⟩
abbrev cX7_count : ByteArray := prog_1_method_43_code
def yX7_count : MethodName := ⟨RX7, "count", "(I)I"⟩
abbrev cX7_finding : ByteArray := prog_1_method_44_code
def yX7_finding : MethodName := ⟨RX7, "finding", "()I"⟩
abbrev cX7_findings : ByteArray := prog_1_method_45_code
def yX7_findings : MethodName := ⟨RX7, "findings", "(I)I"⟩
abbrev cX7_digest : ByteArray := prog_1_method_46_code
def yX7_digest : MethodName := ⟨RX7, "digest", "()J"⟩
abbrev cX7_found : ByteArray := prog_1_method_47_code
def yX7_found : MethodName := ⟨RX7, "found", "(I)I"⟩
abbrev cX7_tell : ByteArray := prog_1_method_48_code
def yX7_tell : MethodName := ⟨RX7, "tell", "(I)I"⟩
abbrev cX7_tellPart : ByteArray := prog_1_method_49_code
def yX7_tellPart : MethodName := ⟨RX7, "tellPart", "(JJ)V"⟩
abbrev cX7_faultOfHouse : ByteArray := prog_1_method_50_code
def yX7_faultOfHouse : MethodName := ⟨RX7, "faultOfHouse", "(I)I"⟩
abbrev cX7_faultOfNight : ByteArray := prog_1_method_51_code
def yX7_faultOfNight : MethodName := ⟨RX7, "faultOfNight", "(I)I"⟩
abbrev cX7_canBe : ByteArray := prog_1_method_52_code
def yX7_canBe : MethodName := ⟨RX7, "canBe", "()Z"⟩
abbrev cX7_knowsWays : ByteArray := prog_1_method_53_code
def yX7_knowsWays : MethodName := ⟨RX7, "knowsWays", "()Z"⟩
abbrev cX7_leastBy : ByteArray := prog_1_method_54_code
def yX7_leastBy : MethodName := ⟨RX7, "leastBy", "(III)J"⟩
abbrev cX7_stuckSince : ByteArray := prog_1_method_55_code
def yX7_stuckSince : MethodName := ⟨RX7, "stuckSince", "(I)I"⟩
abbrev cX7_isPrice : ByteArray := prog_1_method_56_code
def yX7_isPrice : MethodName := ⟨RX7, "isPrice", "(I)Z"⟩
abbrev cX7_roomBit : ByteArray := prog_1_method_57_code
def yX7_roomBit : MethodName := ⟨RX7, "roomBit", "(II)I"⟩
abbrev cX7_roomsOf : ByteArray := prog_1_method_58_code
def yX7_roomsOf : MethodName := ⟨RX7, "roomsOf", "(II)I"⟩
abbrev cX7_leastOf : ByteArray := prog_1_method_59_code
def yX7_leastOf : MethodName := ⟨RX7, "leastOf", "(I)I"⟩
abbrev cX7_walkersIn : ByteArray := prog_1_method_60_code
def yX7_walkersIn : MethodName := ⟨RX7, "walkersIn", "(II)I"⟩
abbrev cX7_capped : ByteArray := prog_1_method_61_code
def yX7_capped : MethodName := ⟨RX7, "capped", "(J)J"⟩
def RX8 : String := "CreakBoardsModel"
def TX8 : u_T := fun k => match k with
  | 0 => ("CreakBoardsModel", "latest", "I", false)
  | 1 => ("CreakBoardsModel", "came", "[I", true)
  | 2 => ("CreakBoardsModel", "asked", "I", false)
  | 3 => ("CreakBoardsModel", "many", "J", false)
  | 4 => ("CreakBoardsModel", "upper", "J", false)
  | 5 => ("CreakBoardsModel", "lower", "J", false)
  | 6 => ("CreakBoardsModel", "sizes", "[I", true)
  | 7 => ("CreakBoardsModel", "rows", "[I", true)
  | 8 => ("CreakBoardsModel", "copied", "[I", true)
  | 9 => ("CreakBoardsModel", "textSizes", "[I", true)
  | 10 => ("CreakBoardsModel", "bytes", "[B", true)
  | 11 => ("CreakBoardsModel", "roomMany", "I", false)
  | 12 => ("CreakBoardsModel", "doorMany", "I", false)
  | 13 => ("CreakBoardsModel", "walkerMany", "I", false)
  | 14 => ("CreakBoardsModel", "last", "I", false)
  | 15 => ("CreakBoardsModel", "doors", "[I", true)
  | 16 => ("CreakBoardsModel", "walkers", "[I", true)
  | 17 => ("CreakBoardsModel", "readAt", "I", false)
  | 18 => ("CreakBoardsModel", "readNumber", "I", false)
  | 19 => ("CreakBoardsModel", "readRooms", "I", false)
  | 20 => ("CreakBoardsModel", "readDoors", "I", false)
  | 21 => ("CreakBoardsModel", "readWalkers", "I", false)
  | 22 => ("CreakBoardsModel", "readLast", "I", false)
  | 23 => ("CreakBoardsModel", "readDoor", "[I", true)
  | 24 => ("CreakBoardsModel", "readWalker", "[I", true)
  | 25 => ("CreakBoardsModel", "eventMany", "I", false)
  | 26 => ("CreakBoardsModel", "events", "[I", true)
  | 27 => ("CreakBoardsModel", "nightMany", "I", false)
  | 28 => ("CreakBoardsModel", "nights", "[I", true)
  | 29 => ("CreakBoardsModel", "sound", "[I", true)
  | 30 => ("CreakBoardsModel", "shut", "[I", true)
  | 31 => ("CreakBoardsModel", "seen", "[I", true)
  | 32 => ("CreakBoardsModel", "bare", "[I", true)
  | 33 => ("CreakBoardsModel", "known", "[I", true)
  | 34 => ("CreakBoardsModel", "use", "I", false)
  | 35 => ("CreakBoardsModel", "boards", "I", false)
  | 36 => ("CreakBoardsModel", "stuckDoor", "I", false)
  | 37 => ("CreakBoardsModel", "stuckFrom", "I", false)
  | 38 => ("CreakBoardsModel", "moveMany", "[I", true)
  | 39 => ("CreakBoardsModel", "moveDoor", "[I", true)
  | 40 => ("CreakBoardsModel", "moveTo", "[I", true)
  | 41 => ("CreakBoardsModel", "moveAll", "I", false)
  | 42 => ("CreakBoardsModel", "passed", "I", false)
  | 43 => ("CreakBoardsModel", "next", "I", false)
  | 44 => ("CreakBoardsModel", "moveOf", "[I", true)
  | 45 => ("CreakBoardsModel", "front", "[J", true)
  | 46 => ("CreakBoardsModel", "rest", "[J", true)
  | 47 => ("CreakBoardsModel", "fewIn", "I", false)
  | 48 => ("CreakBoardsModel", "mostIn", "I", false)
  | 49 => ("CreakBoardsModel", "value", "[I", true)
  | 50 => ("CreakBoardsModel", "valueThen", "[I", true)
  | 51 => ("CreakBoardsModel", "mayPass", "I", false)
  | 52 => ("CreakBoardsModel", "mustPass", "I", false)
  | 53 => ("CreakBoardsModel", "mayAny", "Z", false)
  | 54 => ("CreakBoardsModel", "mustAny", "Z", false)
  | 55 => ("CreakBoardsModel", "mayMany", "I", false)
  | 56 => ("CreakBoardsModel", "mustMany", "I", false)
  | 57 => ("CreakBoardsModel", "inRoom", "[J", true)
  | _ => ("CreakBoardsModel", "h", "J", false)
def tyX8 : Nat → FieldType := fun k => match k with
  | 0 => .int
  | 1 => .array .int
  | 2 => .int
  | 3 => .long
  | 4 => .long
  | 5 => .long
  | 6 => .array .int
  | 7 => .array .int
  | 8 => .array .int
  | 9 => .array .int
  | 10 => .array .byte
  | 11 => .int
  | 12 => .int
  | 13 => .int
  | 14 => .int
  | 15 => .array .int
  | 16 => .array .int
  | 17 => .int
  | 18 => .int
  | 19 => .int
  | 20 => .int
  | 21 => .int
  | 22 => .int
  | 23 => .array .int
  | 24 => .array .int
  | 25 => .int
  | 26 => .array .int
  | 27 => .int
  | 28 => .array .int
  | 29 => .array .int
  | 30 => .array .int
  | 31 => .array .int
  | 32 => .array .int
  | 33 => .array .int
  | 34 => .int
  | 35 => .int
  | 36 => .int
  | 37 => .int
  | 38 => .array .int
  | 39 => .array .int
  | 40 => .array .int
  | 41 => .int
  | 42 => .int
  | 43 => .int
  | 44 => .array .int
  | 45 => .array .long
  | 46 => .array .long
  | 47 => .int
  | 48 => .int
  | 49 => .array .int
  | 50 => .array .int
  | 51 => .int
  | 52 => .int
  | 53 => .boolean
  | 54 => .boolean
  | 55 => .int
  | 56 => .int
  | 57 => .array .long
  | _ => .long
abbrev wsX80 : List Cond := u_ws RX8 TX8 59
theorem nmX8 : ∀ a, a < 59 → ∀ b, b < 59 → a ≠ b → (TX8 a).2.1 ≠ (TX8 b).2.1 := by decide +kernel
theorem tyX8_ok : ∀ k, k < 59 → parseFieldDescriptor (TX8 k).2.2.1 = some (tyX8 k) := by decide +kernel
abbrev cX8_init : ByteArray := prog_10_method_1_code
def yX8_init : MethodName := ⟨RX8, "<init>", "()V"⟩
abbrev cX8_in : ByteArray := prog_10_method_2_code
def yX8_in : MethodName := ⟨RX8, "in", "(III)Z"⟩
abbrev cX8_has : ByteArray := prog_10_method_3_code
def yX8_has : MethodName := ⟨RX8, "has", "(II)Z"⟩
abbrev cX8_bits : ByteArray := prog_10_method_4_code
def yX8_bits : MethodName := ⟨RX8, "bits", "(I)I"⟩
abbrev cX8_meets : ByteArray := prog_10_method_5_code
def yX8_meets : MethodName := ⟨RX8, "meets", "(I)I"⟩
abbrev cX8_finding : ByteArray := prog_10_method_6_code
def yX8_finding : MethodName := ⟨RX8, "finding", "()I"⟩
abbrev cX8_findings : ByteArray := prog_10_method_7_code
def yX8_findings : MethodName := ⟨RX8, "findings", "(I)I"⟩
abbrev cX8_tells : ByteArray := prog_10_method_8_code
def yX8_tells : MethodName := ⟨RX8, "tells", "(II)I"⟩
abbrev cX8_asked : ByteArray := prog_10_method_9_code
def yX8_asked : MethodName := ⟨RX8, "asked", "()I"⟩
abbrev cX8_many : ByteArray := prog_10_method_10_code
def yX8_many : MethodName := ⟨RX8, "many", "()J"⟩
abbrev cX8_fraction : ByteArray := prog_10_method_11_code
def yX8_fraction : MethodName := ⟨RX8, "fraction", "(JJI)I"⟩
abbrev cX8_upper : ByteArray := prog_10_method_12_code
def yX8_upper : MethodName := ⟨RX8, "upper", "()J"⟩
abbrev cX8_lower : ByteArray := prog_10_method_13_code
def yX8_lower : MethodName := ⟨RX8, "lower", "()J"⟩
abbrev cX8_isRow : ByteArray := prog_10_method_14_code
def yX8_isRow : MethodName := ⟨RX8, "isRow", "(I)Z"⟩
abbrev cX8_rowAt : ByteArray := prog_10_method_15_code
def yX8_rowAt : MethodName := ⟨RX8, "rowAt", "(II)I"⟩
abbrev cX8_row : ByteArray := prog_10_method_16_code
def yX8_row : MethodName := ⟨RX8, "row", "(II)I"⟩
abbrev cX8_lay : ByteArray := prog_10_method_17_code
def yX8_lay : MethodName := ⟨RX8, "lay", "(III)I"⟩
abbrev cX8_at : ByteArray := prog_10_method_18_code
def yX8_at : MethodName := ⟨RX8, "at", "(II)I"⟩
abbrev cX8_tear : ByteArray := prog_10_method_19_code
def yX8_tear : MethodName := ⟨RX8, "tear", "(I)I"⟩
abbrev cX8_copy : ByteArray := prog_10_method_20_code
def yX8_copy : MethodName := ⟨RX8, "copy", "(IIIII)I"⟩
abbrev cX8_mean : ByteArray := prog_10_method_21_code
def yX8_mean : MethodName := ⟨RX8, "mean", "(I)I"⟩
abbrev cX8_isText : ByteArray := prog_10_method_22_code
def yX8_isText : MethodName := ⟨RX8, "isText", "(I)Z"⟩
abbrev cX8_text : ByteArray := prog_10_method_23_code
def yX8_text : MethodName := ⟨RX8, "text", "(II)I"⟩
abbrev cX8_put : ByteArray := prog_10_method_24_code
def yX8_put : MethodName := ⟨RX8, "put", "(III)I"⟩
abbrev cX8_byteAt : ByteArray := prog_10_method_25_code
def yX8_byteAt : MethodName := ⟨RX8, "byteAt", "(II)I"⟩
abbrev cX8_sign : ByteArray := prog_10_method_26_code
def yX8_sign : MethodName := ⟨RX8, "sign", "(II)Z"⟩
abbrev cX8_figure : ByteArray := prog_10_method_27_code
def yX8_figure : MethodName := ⟨RX8, "figure", "(III)Z"⟩
abbrev cX8_minute : ByteArray := prog_10_method_28_code
def yX8_minute : MethodName := ⟨RX8, "minute", "(III)Z"⟩
abbrev cX8_readsDoor : ByteArray := prog_10_method_29_code
def yX8_readsDoor : MethodName := ⟨RX8, "readsDoor", "(II)Z"⟩
abbrev cX8_readsWalker : ByteArray := prog_10_method_30_code
def yX8_readsWalker : MethodName := ⟨RX8, "readsWalker", "(I)Z"⟩
abbrev cX8_readsMinute : ByteArray := prog_10_method_31_code
def yX8_readsMinute : MethodName := ⟨RX8, "readsMinute", "(I)Z"⟩
abbrev cX8_readsItem : ByteArray := prog_10_method_32_code
def yX8_readsItem : MethodName := ⟨RX8, "readsItem", "(I)Z"⟩
abbrev cX8_pass : ByteArray := prog_10_method_33_code
def yX8_pass : MethodName := ⟨RX8, "pass", "(I)V"⟩
abbrev cX8_houseFault : ByteArray := prog_10_method_34_code
def yX8_houseFault : MethodName := ⟨RX8, "houseFault", "(I)I"⟩
abbrev cX8_isRoom : ByteArray := prog_10_method_35_code
def yX8_isRoom : MethodName := ⟨RX8, "isRoom", "(I)Z"⟩
abbrev cX8_isDoor : ByteArray := prog_10_method_36_code
def yX8_isDoor : MethodName := ⟨RX8, "isDoor", "(I)Z"⟩
abbrev cX8_isWalker : ByteArray := prog_10_method_37_code
def yX8_isWalker : MethodName := ⟨RX8, "isWalker", "(I)Z"⟩
abbrev cX8_hasBoard : ByteArray := prog_10_method_38_code
def yX8_hasBoard : MethodName := ⟨RX8, "hasBoard", "(I)Z"⟩
abbrev cX8_noteNight : ByteArray := prog_10_method_39_code
def yX8_noteNight : MethodName := ⟨RX8, "noteNight", "(IIII)V"⟩
abbrev cX8_about : ByteArray := prog_10_method_40_code
def yX8_about : MethodName := ⟨RX8, "about", "(II)Z"⟩
abbrev cX8_readsEvent : ByteArray := prog_10_method_41_code
def yX8_readsEvent : MethodName := ⟨RX8, "readsEvent", "(I)Z"⟩
abbrev cX8_nightFault : ByteArray := prog_10_method_42_code
def yX8_nightFault : MethodName := ⟨RX8, "nightFault", "(I)I"⟩
abbrev cX8_fault : ByteArray := prog_10_method_43_code
def yX8_fault : MethodName := ⟨RX8, "fault", "(IZ)I"⟩
abbrev cX8_house : ByteArray := prog_10_method_44_code
def yX8_house : MethodName := ⟨RX8, "house", "(I)I"⟩
abbrev cX8_comes : ByteArray := prog_10_method_45_code
def yX8_comes : MethodName := ⟨RX8, "comes", "(IIII)I"⟩
abbrev cX8_night : ByteArray := prog_10_method_46_code
def yX8_night : MethodName := ⟨RX8, "night", "(I)I"⟩
abbrev cX8_isEventTold : ByteArray := prog_10_method_47_code
def yX8_isEventTold : MethodName := ⟨RX8, "isEventTold", "(IIII)Z"⟩
abbrev cX8_event : ByteArray := prog_10_method_48_code
def yX8_event : MethodName := ⟨RX8, "event", "(IIII)I"⟩
abbrev cX8_back : ByteArray := prog_10_method_49_code
def yX8_back : MethodName := ⟨RX8, "back", "(I)I"⟩
abbrev cX8_isEvent : ByteArray := prog_10_method_50_code
def yX8_isEvent : MethodName := ⟨RX8, "isEvent", "(I)Z"⟩
abbrev cX8_eventAt : ByteArray := prog_10_method_51_code
def yX8_eventAt : MethodName := ⟨RX8, "eventAt", "(II)I"⟩
abbrev cX8_told : ByteArray := prog_10_method_52_code
def yX8_told : MethodName := ⟨RX8, "told", "(II)I"⟩
abbrev cX8_isOf : ByteArray := prog_10_method_53_code
def yX8_isOf : MethodName := ⟨RX8, "isOf", "(II)Z"⟩
abbrev cX8_mark : ByteArray := prog_10_method_54_code
def yX8_mark : MethodName := ⟨RX8, "mark", "(II)I"⟩
abbrev cX8_door : ByteArray := prog_10_method_55_code
def yX8_door : MethodName := ⟨RX8, "door", "(II)I"⟩
abbrev cX8_walker : ByteArray := prog_10_method_56_code
def yX8_walker : MethodName := ⟨RX8, "walker", "(II)I"⟩
abbrev cX8_layNight : ByteArray := prog_10_method_57_code
def yX8_layNight : MethodName := ⟨RX8, "layNight", "(II)Z"⟩
abbrev cX8_note : ByteArray := prog_10_method_58_code
def yX8_note : MethodName := ⟨RX8, "note", "(I)Z"⟩
abbrev cX8_states : ByteArray := prog_10_method_59_code
def yX8_states : MethodName := ⟨RX8, "states", "()I"⟩
abbrev cX8_placeOf : ByteArray := prog_10_method_60_code
def yX8_placeOf : MethodName := ⟨RX8, "placeOf", "(II)I"⟩
abbrev cX8_roomOf : ByteArray := prog_10_method_61_code
def yX8_roomOf : MethodName := ⟨RX8, "roomOf", "(II)I"⟩
abbrev cX8_roomsOf : ByteArray := prog_10_method_62_code
def yX8_roomsOf : MethodName := ⟨RX8, "roomsOf", "(I)I"⟩
abbrev cX8_canBe : ByteArray := prog_10_method_63_code
def yX8_canBe : MethodName := ⟨RX8, "canBe", "(II)Z"⟩
abbrev cX8_canBegin : ByteArray := prog_10_method_64_code
def yX8_canBegin : MethodName := ⟨RX8, "canBegin", "(I)Z"⟩
abbrev cX8_layMoves : ByteArray := prog_10_method_65_code
def yX8_layMoves : MethodName := ⟨RX8, "layMoves", "(II)V"⟩
abbrev cX8_take : ByteArray := prog_10_method_66_code
def yX8_take : MethodName := ⟨RX8, "take", "(I)V"⟩
abbrev cX8_isHeard : ByteArray := prog_10_method_67_code
def yX8_isHeard : MethodName := ⟨RX8, "isHeard", "(I)Z"⟩
abbrev cX8_canTake : ByteArray := prog_10_method_68_code
def yX8_canTake : MethodName := ⟨RX8, "canTake", "(I)Z"⟩
abbrev cX8_more : ByteArray := prog_10_method_69_code
def yX8_more : MethodName := ⟨RX8, "more", "(JJ)J"⟩
abbrev cX8_layFront : ByteArray := prog_10_method_70_code
def yX8_layFront : MethodName := ⟨RX8, "layFront", "()I"⟩
abbrev cX8_goOn : ByteArray := prog_10_method_71_code
def yX8_goOn : MethodName := ⟨RX8, "goOn", "(II)V"⟩
abbrev cX8_layRest : ByteArray := prog_10_method_72_code
def yX8_layRest : MethodName := ⟨RX8, "layRest", "()V"⟩
abbrev cX8_isAlive : ByteArray := prog_10_method_73_code
def yX8_isAlive : MethodName := ⟨RX8, "isAlive", "(II)Z"⟩
abbrev cX8_layAll : ByteArray := prog_10_method_74_code
def yX8_layAll : MethodName := ⟨RX8, "layAll", "()Z"⟩
abbrev cX8_could : ByteArray := prog_10_method_75_code
def yX8_could : MethodName := ⟨RX8, "could", "()I"⟩
abbrev cX8_fewest : ByteArray := prog_10_method_76_code
def yX8_fewest : MethodName := ⟨RX8, "fewest", "()I"⟩
abbrev cX8_allWays : ByteArray := prog_10_method_77_code
def yX8_allWays : MethodName := ⟨RX8, "allWays", "()J"⟩
abbrev cX8_waysTold : ByteArray := prog_10_method_78_code
def yX8_waysTold : MethodName := ⟨RX8, "waysTold", "(JI)I"⟩
abbrev cX8_ways : ByteArray := prog_10_method_79_code
def yX8_ways : MethodName := ⟨RX8, "ways", "()I"⟩
abbrev cX8_isMinute : ByteArray := prog_10_method_80_code
def yX8_isMinute : MethodName := ⟨RX8, "isMinute", "(I)Z"⟩
abbrev cX8_manyIn : ByteArray := prog_10_method_81_code
def yX8_manyIn : MethodName := ⟨RX8, "manyIn", "(II)I"⟩
abbrev cX8_layIn : ByteArray := prog_10_method_82_code
def yX8_layIn : MethodName := ⟨RX8, "layIn", "(II)V"⟩
abbrev cX8_rooms : ByteArray := prog_10_method_83_code
def yX8_rooms : MethodName := ⟨RX8, "rooms", "(II)I"⟩
abbrev cX8_empty : ByteArray := prog_10_method_84_code
def yX8_empty : MethodName := ⟨RX8, "empty", "(I)I"⟩
abbrev cX8_where : ByteArray := prog_10_method_85_code
def yX8_where : MethodName := ⟨RX8, "where", "(II)I"⟩
abbrev cX8_turnValues : ByteArray := prog_10_method_86_code
def yX8_turnValues : MethodName := ⟨RX8, "turnValues", "()V"⟩
abbrev cX8_beginValues : ByteArray := prog_10_method_87_code
def yX8_beginValues : MethodName := ⟨RX8, "beginValues", "(I)V"⟩
abbrev cX8_anyValue : ByteArray := prog_10_method_88_code
def yX8_anyValue : MethodName := ⟨RX8, "anyValue", "()Z"⟩
abbrev cX8_areIn : ByteArray := prog_10_method_89_code
def yX8_areIn : MethodName := ⟨RX8, "areIn", "(III)Z"⟩
abbrev cX8_canMiss : ByteArray := prog_10_method_90_code
def yX8_canMiss : MethodName := ⟨RX8, "canMiss", "(II)Z"⟩
abbrev cX8_met : ByteArray := prog_10_method_91_code
def yX8_met : MethodName := ⟨RX8, "met", "(II)I"⟩
abbrev cX8_stands : ByteArray := prog_10_method_92_code
def yX8_stands : MethodName := ⟨RX8, "stands", "(IIZ)Z"⟩
abbrev cX8_still : ByteArray := prog_10_method_93_code
def yX8_still : MethodName := ⟨RX8, "still", "(II)I"⟩
abbrev cX8_keepsRoom : ByteArray := prog_10_method_94_code
def yX8_keepsRoom : MethodName := ⟨RX8, "keepsRoom", "(II)Z"⟩
abbrev cX8_goesOn : ByteArray := prog_10_method_95_code
def yX8_goesOn : MethodName := ⟨RX8, "goesOn", "(I)V"⟩
abbrev cX8_judge : ByteArray := prog_10_method_96_code
def yX8_judge : MethodName := ⟨RX8, "judge", "(II)I"⟩
abbrev cX8_leastRoom : ByteArray := prog_10_method_97_code
def yX8_leastRoom : MethodName := ⟨RX8, "leastRoom", "(I)I"⟩
abbrev cX8_way : ByteArray := prog_10_method_98_code
def yX8_way : MethodName := ⟨RX8, "way", "(II)I"⟩
abbrev cX8_layPassing : ByteArray := prog_10_method_99_code
def yX8_layPassing : MethodName := ⟨RX8, "layPassing", "(II)V"⟩
abbrev cX8_whose : ByteArray := prog_10_method_100_code
def yX8_whose : MethodName := ⟨RX8, "whose", "(I)I"⟩
abbrev cX8_same : ByteArray := prog_10_method_101_code
def yX8_same : MethodName := ⟨RX8, "same", "(I)I"⟩
abbrev cX8_layMinutes : ByteArray := prog_10_method_102_code
def yX8_layMinutes : MethodName := ⟨RX8, "layMinutes", "(I)V"⟩
abbrev cX8_passes : ByteArray := prog_10_method_103_code
def yX8_passes : MethodName := ⟨RX8, "passes", "(I)I"⟩
abbrev cX8_third : ByteArray := prog_10_method_104_code
def yX8_third : MethodName := ⟨RX8, "third", "()I"⟩
abbrev cX8_needCounted : ByteArray := prog_10_method_105_code
def yX8_needCounted : MethodName := ⟨RX8, "needCounted", "()I"⟩
abbrev cX8_waysBy : ByteArray := prog_10_method_106_code
def yX8_waysBy : MethodName := ⟨RX8, "waysBy", "(II)J"⟩
abbrev cX8_chance : ByteArray := prog_10_method_107_code
def yX8_chance : MethodName := ⟨RX8, "chance", "(II)I"⟩
abbrev cX8_likely : ByteArray := prog_10_method_108_code
def yX8_likely : MethodName := ⟨RX8, "likely", "(II)I"⟩
abbrev cX8_cheapestBy : ByteArray := prog_10_method_109_code
def yX8_cheapestBy : MethodName := ⟨RX8, "cheapestBy", "(III)I"⟩
abbrev cX8_isPrice : ByteArray := prog_10_method_110_code
def yX8_isPrice : MethodName := ⟨RX8, "isPrice", "(I)Z"⟩
abbrev cX8_cheapest : ByteArray := prog_10_method_111_code
def yX8_cheapest : MethodName := ⟨RX8, "cheapest", "(II)I"⟩
abbrev cX8_settle : ByteArray := prog_10_method_112_code
def yX8_settle : MethodName := ⟨RX8, "settle", "(III)I"⟩
abbrev cX8_stuck : ByteArray := prog_10_method_113_code
def yX8_stuck : MethodName := ⟨RX8, "stuck", "()I"⟩
abbrev cX8_quarrel : ByteArray := prog_10_method_114_code
def yX8_quarrel : MethodName := ⟨RX8, "quarrel", "()I"⟩
abbrev cX8_counted : ByteArray := prog_10_method_115_code
def yX8_counted : MethodName := ⟨RX8, "counted", "(I)I"⟩
abbrev cX8_count : ByteArray := prog_10_method_116_code
def yX8_count : MethodName := ⟨RX8, "count", "(I)I"⟩
abbrev cX8_mix : ByteArray := prog_10_method_117_code
def yX8_mix : MethodName := ⟨RX8, "mix", "(J)V"⟩
abbrev cX8_mixHouse : ByteArray := prog_10_method_118_code
def yX8_mixHouse : MethodName := ⟨RX8, "mixHouse", "()V"⟩
abbrev cX8_digest : ByteArray := prog_10_method_119_code
def yX8_digest : MethodName := ⟨RX8, "digest", "()J"⟩
def RJ6 : String := "java/lang/Integer"
def TJ6 : u_T := fun k => match k with
  | _ => ("", "", "", false)
def tyJ6 : Nat → FieldType := fun k => match k with
  | _ => .int
abbrev wsJ60 : List Cond := u_ws RJ6 TJ6 0
theorem nmJ6 : ∀ a, a < 0 → ∀ b, b < 0 → a ≠ b → (TJ6 a).2.1 ≠ (TJ6 b).2.1 := by decide +kernel
theorem tyJ6_ok : ∀ k, k < 0 → parseFieldDescriptor (TJ6 k).2.2.1 = some (tyJ6 k) := by decide +kernel
abbrev cJ6_bitCount_0f7a4 : ByteArray := prog_11_method_49_code
def yJ6_bitCount_0f7a4 : MethodName := ⟨RJ6, "bitCount", "(I)I"⟩
def RJ9 : String := "java/lang/Math"
def TJ9 : u_T := fun k => match k with
  | _ => ("", "", "", false)
def tyJ9 : Nat → FieldType := fun k => match k with
  | _ => .int
abbrev wsJ90 : List Cond := u_ws RJ9 TJ9 0
theorem nmJ9 : ∀ a, a < 0 → ∀ b, b < 0 → a ≠ b → (TJ9 a).2.1 ≠ (TJ9 b).2.1 := by decide +kernel
theorem tyJ9_ok : ∀ k, k < 0 → parseFieldDescriptor (TJ9 k).2.2.1 = some (tyJ9 k) := by decide +kernel
abbrev cJ9_max_7cf53 : ByteArray := prog_12_method_65_code
def yJ9_max_7cf53 : MethodName := ⟨RJ9, "max", "(II)I"⟩
abbrev cJ9_max_f86c9 : ByteArray := prog_12_method_66_code
def yJ9_max_f86c9 : MethodName := ⟨RJ9, "max", "(JJ)J"⟩
abbrev cJ9_min_7cf53 : ByteArray := prog_12_method_69_code
def yJ9_min_7cf53 : MethodName := ⟨RJ9, "min", "(II)I"⟩
abbrev cJ9_min_f86c9 : ByteArray := prog_12_method_70_code
def yJ9_min_f86c9 : MethodName := ⟨RJ9, "min", "(JJ)J"⟩
def RJ10 : String := "java/lang/System"
def TJ10 : u_T := fun k => match k with
  | _ => ("", "", "", false)
def tyJ10 : Nat → FieldType := fun k => match k with
  | _ => .int
abbrev wsJ100 : List Cond := u_ws RJ10 TJ10 0
theorem nmJ10 : ∀ a, a < 0 → ∀ b, b < 0 → a ≠ b → (TJ10 a).2.1 ≠ (TJ10 b).2.1 := by decide +kernel
theorem tyJ10_ok : ∀ k, k < 0 → parseFieldDescriptor (TJ10 k).2.2.1 = some (tyJ10 k) := by decide +kernel
def RL : String := "CreakBoardsLaw"
abbrev cL_law : ByteArray := code
def yL_law : MethodName := ⟨RL, "law", "([I)Z"⟩
abbrev vwCl : List vw_C := [(RX0, TX0, 9), (RX1, TX1, 3), (RX2, TX2, 5), (RX3, TX3, 12), (RX4, TX4, 4), (RX5, TX5, 2), (RX6, TX6, 17), (RX7, TX7, 19), (RX8, TX8, 59)]
theorem inX0 : ∀ w ∈ wsX00, w ∈ lw_tbl := by decide +kernel
theorem inX1 : ∀ w ∈ wsX10, w ∈ lw_tbl := by decide +kernel
theorem inX2 : ∀ w ∈ wsX20, w ∈ lw_tbl := by decide +kernel
theorem inX3 : ∀ w ∈ wsX30, w ∈ lw_tbl := by decide +kernel
theorem inX4 : ∀ w ∈ wsX40, w ∈ lw_tbl := by decide +kernel
theorem inX5 : ∀ w ∈ wsX50, w ∈ lw_tbl := by decide +kernel
theorem inX6 : ∀ w ∈ wsX60, w ∈ lw_tbl := by decide +kernel
theorem inX7 : ∀ w ∈ wsX70, w ∈ lw_tbl := by decide +kernel
theorem inX8 : ∀ w ∈ wsX80, w ∈ lw_tbl := by decide +kernel
