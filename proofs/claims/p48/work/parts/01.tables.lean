-- ===== PART A: goes FIRST, ahead of the names: the tables' words, and 'selects' of the private methods out of them =====
/-- a private method of a class that the tables say can be made, by its rows of tables_1 -/
def lw_okq (q : MethodName × Nat) : Prop := (q.1.cls ≠ "java/lang/invoke/MethodHandle" ∧ q.1.cls ≠ "java/lang/invoke/VarHandle") ∧ Cond.instantiable q.1.cls q.2 ∈ tables_1 ∧ Cond.privateMethod q.1 ∈ tables_1 ∧ Cond.instanceMethod q.1 ∈ tables_1
theorem lw_p0 : lw_okq (⟨"CreakBoards", "found", "(I)I"⟩, 19) := ⟨⟨by decide +kernel, by decide +kernel⟩, List.mem_of_getElem? (i := 12) (by decide +kernel), List.mem_of_getElem? (i := 391) (by decide +kernel), List.mem_of_getElem? (i := 392) (by decide +kernel)⟩
theorem lw_p1 : lw_okq (⟨"CreakBoards", "canBe", "()Z"⟩, 19) := ⟨⟨by decide +kernel, by decide +kernel⟩, List.mem_of_getElem? (i := 12) (by decide +kernel), List.mem_of_getElem? (i := 399) (by decide +kernel), List.mem_of_getElem? (i := 400) (by decide +kernel)⟩
theorem lw_p2 : lw_okq (⟨"CreakBoards$Plan", "shape", "()V"⟩, 12) := ⟨⟨by decide +kernel, by decide +kernel⟩, List.mem_of_getElem? (i := 200) (by decide +kernel), List.mem_of_getElem? (i := 415) (by decide +kernel), List.mem_of_getElem? (i := 416) (by decide +kernel)⟩
theorem lw_p3 : lw_okq (⟨"CreakBoards$Plan", "spot", "(II)I"⟩, 12) := ⟨⟨by decide +kernel, by decide +kernel⟩, List.mem_of_getElem? (i := 200) (by decide +kernel), List.mem_of_getElem? (i := 419) (by decide +kernel), List.mem_of_getElem? (i := 420) (by decide +kernel)⟩
theorem lw_p4 : lw_okq (⟨"CreakBoards$Plan", "takeEvent", "(LCreakBoards$Night;I)V"⟩, 12) := ⟨⟨by decide +kernel, by decide +kernel⟩, List.mem_of_getElem? (i := 200) (by decide +kernel), List.mem_of_getElem? (i := 434) (by decide +kernel), List.mem_of_getElem? (i := 435) (by decide +kernel)⟩
theorem lw_p5 : lw_okq (⟨"CreakBoards$Walks", "begin", "(LCreakBoards$Plan;IZ)V"⟩, 17) := ⟨⟨by decide +kernel, by decide +kernel⟩, List.mem_of_getElem? (i := 59) (by decide +kernel), List.mem_of_getElem? (i := 442) (by decide +kernel), List.mem_of_getElem? (i := 443) (by decide +kernel)⟩
theorem lw_p6 : lw_okq (⟨"CreakBoards$Walks", "rested", "(I)I"⟩, 17) := ⟨⟨by decide +kernel, by decide +kernel⟩, List.mem_of_getElem? (i := 59) (by decide +kernel), List.mem_of_getElem? (i := 446) (by decide +kernel), List.mem_of_getElem? (i := 447) (by decide +kernel)⟩
theorem lw_p7 : lw_okq (⟨"CreakBoards$Walks", "stays", "(II)Z"⟩, 17) := ⟨⟨by decide +kernel, by decide +kernel⟩, List.mem_of_getElem? (i := 59) (by decide +kernel), List.mem_of_getElem? (i := 450) (by decide +kernel), List.mem_of_getElem? (i := 451) (by decide +kernel)⟩
theorem lw_p8 : lw_okq (⟨"CreakBoards$Walks", "isIn", "(II)Z"⟩, 17) := ⟨⟨by decide +kernel, by decide +kernel⟩, List.mem_of_getElem? (i := 59) (by decide +kernel), List.mem_of_getElem? (i := 454) (by decide +kernel), List.mem_of_getElem? (i := 455) (by decide +kernel)⟩
theorem lw_p9 : lw_okq (⟨"CreakBoards$Walks", "sweep", "(I)V"⟩, 17) := ⟨⟨by decide +kernel, by decide +kernel⟩, List.mem_of_getElem? (i := 59) (by decide +kernel), List.mem_of_getElem? (i := 462) (by decide +kernel), List.mem_of_getElem? (i := 463) (by decide +kernel)⟩
theorem lw_p10 : lw_okq (⟨"CreakBoards$Moves", "listState", "(LCreakBoards$Plan;IIII)I"⟩, 3) := ⟨⟨by decide +kernel, by decide +kernel⟩, List.mem_of_getElem? (i := 65) (by decide +kernel), List.mem_of_getElem? (i := 470) (by decide +kernel), List.mem_of_getElem? (i := 471) (by decide +kernel)⟩
theorem lw_p11 : lw_okq (⟨"CreakBoards$Moves", "listAbsent", "(I)I"⟩, 3) := ⟨⟨by decide +kernel, by decide +kernel⟩, List.mem_of_getElem? (i := 65) (by decide +kernel), List.mem_of_getElem? (i := 487) (by decide +kernel), List.mem_of_getElem? (i := 488) (by decide +kernel)⟩
theorem lw_p12 : lw_okq (⟨"CreakBoards$Walks", "fan", "(IIII)V"⟩, 17) := ⟨⟨by decide +kernel, by decide +kernel⟩, List.mem_of_getElem? (i := 59) (by decide +kernel), List.mem_of_getElem? (i := 491) (by decide +kernel), List.mem_of_getElem? (i := 492) (by decide +kernel)⟩
theorem lw_p13 : lw_okq (⟨"CreakBoards$Walks", "link", "(IIIII)V"⟩, 17) := ⟨⟨by decide +kernel, by decide +kernel⟩, List.mem_of_getElem? (i := 59) (by decide +kernel), List.mem_of_getElem? (i := 495) (by decide +kernel), List.mem_of_getElem? (i := 496) (by decide +kernel)⟩
theorem lw_p14 : lw_okq (⟨"CreakBoards$Walks", "stoodOn", "(JI)J"⟩, 17) := ⟨⟨by decide +kernel, by decide +kernel⟩, List.mem_of_getElem? (i := 59) (by decide +kernel), List.mem_of_getElem? (i := 503) (by decide +kernel), List.mem_of_getElem? (i := 504) (by decide +kernel)⟩
theorem lw_p15 : lw_okq (⟨"CreakBoards$Walks", "priceOf", "(I)J"⟩, 17) := ⟨⟨by decide +kernel, by decide +kernel⟩, List.mem_of_getElem? (i := 59) (by decide +kernel), List.mem_of_getElem? (i := 508) (by decide +kernel), List.mem_of_getElem? (i := 509) (by decide +kernel)⟩
def lw_privs_1 : List (MethodName × Nat) := [(⟨"CreakBoards", "found", "(I)I"⟩, 19), (⟨"CreakBoards", "canBe", "()Z"⟩, 19), (⟨"CreakBoards$Plan", "shape", "()V"⟩, 12), (⟨"CreakBoards$Plan", "spot", "(II)I"⟩, 12), (⟨"CreakBoards$Plan", "takeEvent", "(LCreakBoards$Night;I)V"⟩, 12), (⟨"CreakBoards$Walks", "begin", "(LCreakBoards$Plan;IZ)V"⟩, 17), (⟨"CreakBoards$Walks", "rested", "(I)I"⟩, 17), (⟨"CreakBoards$Walks", "stays", "(II)Z"⟩, 17), (⟨"CreakBoards$Walks", "isIn", "(II)Z"⟩, 17), (⟨"CreakBoards$Walks", "sweep", "(I)V"⟩, 17), (⟨"CreakBoards$Moves", "listState", "(LCreakBoards$Plan;IIII)I"⟩, 3), (⟨"CreakBoards$Moves", "listAbsent", "(I)I"⟩, 3), (⟨"CreakBoards$Walks", "fan", "(IIII)V"⟩, 17), (⟨"CreakBoards$Walks", "link", "(IIIII)V"⟩, 17), (⟨"CreakBoards$Walks", "stoodOn", "(JI)J"⟩, 17), (⟨"CreakBoards$Walks", "priceOf", "(I)J"⟩, 17)]
theorem lw_r1 : ∀ q ∈ lw_privs_1, lw_okq q := List.forall_mem_cons.mpr ⟨lw_p0, List.forall_mem_cons.mpr ⟨lw_p1, List.forall_mem_cons.mpr ⟨lw_p2, List.forall_mem_cons.mpr ⟨lw_p3, List.forall_mem_cons.mpr ⟨lw_p4, List.forall_mem_cons.mpr ⟨lw_p5, List.forall_mem_cons.mpr ⟨lw_p6, List.forall_mem_cons.mpr ⟨lw_p7, List.forall_mem_cons.mpr ⟨lw_p8, List.forall_mem_cons.mpr ⟨lw_p9, List.forall_mem_cons.mpr ⟨lw_p10, List.forall_mem_cons.mpr ⟨lw_p11, List.forall_mem_cons.mpr ⟨lw_p12, List.forall_mem_cons.mpr ⟨lw_p13, List.forall_mem_cons.mpr ⟨lw_p14, List.forall_mem_cons.mpr ⟨lw_p15, fun _ h => absurd h List.not_mem_nil⟩⟩⟩⟩⟩⟩⟩⟩⟩⟩⟩⟩⟩⟩⟩⟩
theorem lw_p16 : lw_okq (⟨"CreakBoards$Walks", "note", "(II)V"⟩, 17) := ⟨⟨by decide +kernel, by decide +kernel⟩, List.mem_of_getElem? (i := 59) (by decide +kernel), List.mem_of_getElem? (i := 528) (by decide +kernel), List.mem_of_getElem? (i := 529) (by decide +kernel)⟩
theorem lw_p17 : lw_okq (⟨"CreakBoards$Walks", "keepSet", "(I)V"⟩, 17) := ⟨⟨by decide +kernel, by decide +kernel⟩, List.mem_of_getElem? (i := 59) (by decide +kernel), List.mem_of_getElem? (i := 532) (by decide +kernel), List.mem_of_getElem? (i := 533) (by decide +kernel)⟩
theorem lw_p18 : lw_okq (⟨"CreakBoards$Walks", "isNone", "()Z"⟩, 17) := ⟨⟨by decide +kernel, by decide +kernel⟩, List.mem_of_getElem? (i := 59) (by decide +kernel), List.mem_of_getElem? (i := 536) (by decide +kernel), List.mem_of_getElem? (i := 537) (by decide +kernel)⟩
theorem lw_p19 : lw_okq (⟨"CreakBoards", "knowsWays", "()Z"⟩, 19) := ⟨⟨by decide +kernel, by decide +kernel⟩, List.mem_of_getElem? (i := 12) (by decide +kernel), List.mem_of_getElem? (i := 548) (by decide +kernel), List.mem_of_getElem? (i := 549) (by decide +kernel)⟩
theorem lw_p20 : lw_okq (⟨"CreakBoards$Walks", "loadSet", "(I)V"⟩, 17) := ⟨⟨by decide +kernel, by decide +kernel⟩, List.mem_of_getElem? (i := 59) (by decide +kernel), List.mem_of_getElem? (i := 556) (by decide +kernel), List.mem_of_getElem? (i := 557) (by decide +kernel)⟩
theorem lw_p21 : lw_okq (⟨"CreakBoards$Walks", "together", "(III)Z"⟩, 17) := ⟨⟨by decide +kernel, by decide +kernel⟩, List.mem_of_getElem? (i := 59) (by decide +kernel), List.mem_of_getElem? (i := 620) (by decide +kernel), List.mem_of_getElem? (i := 621) (by decide +kernel)⟩
theorem lw_p22 : lw_okq (⟨"CreakBoards", "tellPart", "(JJ)V"⟩, 19) := ⟨⟨by decide +kernel, by decide +kernel⟩, List.mem_of_getElem? (i := 12) (by decide +kernel), List.mem_of_getElem? (i := 670) (by decide +kernel), List.mem_of_getElem? (i := 671) (by decide +kernel)⟩
theorem lw_p23 : lw_okq (⟨"CreakBoards", "leastBy", "(III)J"⟩, 19) := ⟨⟨by decide +kernel, by decide +kernel⟩, List.mem_of_getElem? (i := 12) (by decide +kernel), List.mem_of_getElem? (i := 687) (by decide +kernel), List.mem_of_getElem? (i := 688) (by decide +kernel)⟩
theorem lw_p24 : lw_okq (⟨"CreakBoards", "stuckSince", "(I)I"⟩, 19) := ⟨⟨by decide +kernel, by decide +kernel⟩, List.mem_of_getElem? (i := 12) (by decide +kernel), List.mem_of_getElem? (i := 704) (by decide +kernel), List.mem_of_getElem? (i := 705) (by decide +kernel)⟩
theorem lw_p25 : lw_okq (⟨"CreakBoards", "faultOfNight", "(I)I"⟩, 19) := ⟨⟨by decide +kernel, by decide +kernel⟩, List.mem_of_getElem? (i := 12) (by decide +kernel), List.mem_of_getElem? (i := 781) (by decide +kernel), List.mem_of_getElem? (i := 782) (by decide +kernel)⟩
theorem lw_p26 : lw_okq (⟨"CreakBoards$Reader", "findItem", "()Z"⟩, 4) := ⟨⟨by decide +kernel, by decide +kernel⟩, List.mem_of_getElem? (i := 38) (by decide +kernel), List.mem_of_getElem? (i := 794) (by decide +kernel), List.mem_of_getElem? (i := 795) (by decide +kernel)⟩
theorem lw_p27 : lw_okq (⟨"CreakBoards$Reader", "ahead", "(I)Z"⟩, 4) := ⟨⟨by decide +kernel, by decide +kernel⟩, List.mem_of_getElem? (i := 38) (by decide +kernel), List.mem_of_getElem? (i := 798) (by decide +kernel), List.mem_of_getElem? (i := 799) (by decide +kernel)⟩
theorem lw_p28 : lw_okq (⟨"CreakBoards$Reader", "readEvent", "(LCreakBoards$House;LCreakBoards$Night;)V"⟩, 4) := ⟨⟨by decide +kernel, by decide +kernel⟩, List.mem_of_getElem? (i := 38) (by decide +kernel), List.mem_of_getElem? (i := 802) (by decide +kernel), List.mem_of_getElem? (i := 803) (by decide +kernel)⟩
theorem lw_p29 : lw_okq (⟨"CreakBoards$Reader", "kindAhead", "()I"⟩, 4) := ⟨⟨by decide +kernel, by decide +kernel⟩, List.mem_of_getElem? (i := 38) (by decide +kernel), List.mem_of_getElem? (i := 806) (by decide +kernel), List.mem_of_getElem? (i := 807) (by decide +kernel)⟩
theorem lw_p30 : lw_okq (⟨"CreakBoards$Reader", "figure", "(I)I"⟩, 4) := ⟨⟨by decide +kernel, by decide +kernel⟩, List.mem_of_getElem? (i := 38) (by decide +kernel), List.mem_of_getElem? (i := 815) (by decide +kernel), List.mem_of_getElem? (i := 816) (by decide +kernel)⟩
theorem lw_p31 : lw_okq (⟨"CreakBoards$Reader", "figureAhead", "()Z"⟩, 4) := ⟨⟨by decide +kernel, by decide +kernel⟩, List.mem_of_getElem? (i := 38) (by decide +kernel), List.mem_of_getElem? (i := 819) (by decide +kernel), List.mem_of_getElem? (i := 820) (by decide +kernel)⟩
def lw_privs_2 : List (MethodName × Nat) := [(⟨"CreakBoards$Walks", "note", "(II)V"⟩, 17), (⟨"CreakBoards$Walks", "keepSet", "(I)V"⟩, 17), (⟨"CreakBoards$Walks", "isNone", "()Z"⟩, 17), (⟨"CreakBoards", "knowsWays", "()Z"⟩, 19), (⟨"CreakBoards$Walks", "loadSet", "(I)V"⟩, 17), (⟨"CreakBoards$Walks", "together", "(III)Z"⟩, 17), (⟨"CreakBoards", "tellPart", "(JJ)V"⟩, 19), (⟨"CreakBoards", "leastBy", "(III)J"⟩, 19), (⟨"CreakBoards", "stuckSince", "(I)I"⟩, 19), (⟨"CreakBoards", "faultOfNight", "(I)I"⟩, 19), (⟨"CreakBoards$Reader", "findItem", "()Z"⟩, 4), (⟨"CreakBoards$Reader", "ahead", "(I)Z"⟩, 4), (⟨"CreakBoards$Reader", "readEvent", "(LCreakBoards$House;LCreakBoards$Night;)V"⟩, 4), (⟨"CreakBoards$Reader", "kindAhead", "()I"⟩, 4), (⟨"CreakBoards$Reader", "figure", "(I)I"⟩, 4), (⟨"CreakBoards$Reader", "figureAhead", "()Z"⟩, 4)]
theorem lw_r2 : ∀ q ∈ lw_privs_2, lw_okq q := List.forall_mem_cons.mpr ⟨lw_p16, List.forall_mem_cons.mpr ⟨lw_p17, List.forall_mem_cons.mpr ⟨lw_p18, List.forall_mem_cons.mpr ⟨lw_p19, List.forall_mem_cons.mpr ⟨lw_p20, List.forall_mem_cons.mpr ⟨lw_p21, List.forall_mem_cons.mpr ⟨lw_p22, List.forall_mem_cons.mpr ⟨lw_p23, List.forall_mem_cons.mpr ⟨lw_p24, List.forall_mem_cons.mpr ⟨lw_p25, List.forall_mem_cons.mpr ⟨lw_p26, List.forall_mem_cons.mpr ⟨lw_p27, List.forall_mem_cons.mpr ⟨lw_p28, List.forall_mem_cons.mpr ⟨lw_p29, List.forall_mem_cons.mpr ⟨lw_p30, List.forall_mem_cons.mpr ⟨lw_p31, fun _ h => absurd h List.not_mem_nil⟩⟩⟩⟩⟩⟩⟩⟩⟩⟩⟩⟩⟩⟩⟩⟩
theorem lw_p32 : lw_okq (⟨"CreakBoards$Reader", "expect", "(I)V"⟩, 4) := ⟨⟨by decide +kernel, by decide +kernel⟩, List.mem_of_getElem? (i := 38) (by decide +kernel), List.mem_of_getElem? (i := 827) (by decide +kernel), List.mem_of_getElem? (i := 828) (by decide +kernel)⟩
theorem lw_p33 : lw_okq (⟨"CreakBoards$Reader", "readMinute", "(II)I"⟩, 4) := ⟨⟨by decide +kernel, by decide +kernel⟩, List.mem_of_getElem? (i := 38) (by decide +kernel), List.mem_of_getElem? (i := 831) (by decide +kernel), List.mem_of_getElem? (i := 832) (by decide +kernel)⟩
theorem lw_p34 : lw_okq (⟨"CreakBoards", "faultOfHouse", "(I)I"⟩, 19) := ⟨⟨by decide +kernel, by decide +kernel⟩, List.mem_of_getElem? (i := 12) (by decide +kernel), List.mem_of_getElem? (i := 836) (by decide +kernel), List.mem_of_getElem? (i := 837) (by decide +kernel)⟩
theorem lw_p35 : lw_okq (⟨"CreakBoards$Reader", "readHouseItem", "(LCreakBoards$House;)V"⟩, 4) := ⟨⟨by decide +kernel, by decide +kernel⟩, List.mem_of_getElem? (i := 38) (by decide +kernel), List.mem_of_getElem? (i := 845) (by decide +kernel), List.mem_of_getElem? (i := 846) (by decide +kernel)⟩
theorem lw_p36 : lw_okq (⟨"CreakBoards$Reader", "readDoor", "(LCreakBoards$House;)V"⟩, 4) := ⟨⟨by decide +kernel, by decide +kernel⟩, List.mem_of_getElem? (i := 38) (by decide +kernel), List.mem_of_getElem? (i := 849) (by decide +kernel), List.mem_of_getElem? (i := 850) (by decide +kernel)⟩
theorem lw_p37 : lw_okq (⟨"CreakBoards$Reader", "readWalker", "(LCreakBoards$House;)V"⟩, 4) := ⟨⟨by decide +kernel, by decide +kernel⟩, List.mem_of_getElem? (i := 38) (by decide +kernel), List.mem_of_getElem? (i := 859) (by decide +kernel), List.mem_of_getElem? (i := 860) (by decide +kernel)⟩
theorem lw_p38 : lw_okq (⟨"CreakBoards$Reader", "readRising", "(I)I"⟩, 4) := ⟨⟨by decide +kernel, by decide +kernel⟩, List.mem_of_getElem? (i := 38) (by decide +kernel), List.mem_of_getElem? (i := 863) (by decide +kernel), List.mem_of_getElem? (i := 864) (by decide +kernel)⟩
def lw_privs_3 : List (MethodName × Nat) := [(⟨"CreakBoards$Reader", "expect", "(I)V"⟩, 4), (⟨"CreakBoards$Reader", "readMinute", "(II)I"⟩, 4), (⟨"CreakBoards", "faultOfHouse", "(I)I"⟩, 19), (⟨"CreakBoards$Reader", "readHouseItem", "(LCreakBoards$House;)V"⟩, 4), (⟨"CreakBoards$Reader", "readDoor", "(LCreakBoards$House;)V"⟩, 4), (⟨"CreakBoards$Reader", "readWalker", "(LCreakBoards$House;)V"⟩, 4), (⟨"CreakBoards$Reader", "readRising", "(I)I"⟩, 4)]
theorem lw_r3 : ∀ q ∈ lw_privs_3, lw_okq q := List.forall_mem_cons.mpr ⟨lw_p32, List.forall_mem_cons.mpr ⟨lw_p33, List.forall_mem_cons.mpr ⟨lw_p34, List.forall_mem_cons.mpr ⟨lw_p35, List.forall_mem_cons.mpr ⟨lw_p36, List.forall_mem_cons.mpr ⟨lw_p37, List.forall_mem_cons.mpr ⟨lw_p38, fun _ h => absurd h List.not_mem_nil⟩⟩⟩⟩⟩⟩⟩
def lw_privs : List (MethodName × Nat) := lw_privs_1 ++ (lw_privs_2 ++ (lw_privs_3))
def lw_tbl : List Cond := k2_sels lw_privs ++ tables_1
theorem lw_privs_ok : ∀ q ∈ lw_privs, lw_okq q := by
  show ∀ q ∈ lw_privs_1 ++ (lw_privs_2 ++ (lw_privs_3)), lw_okq q
  exact List.forall_mem_append.mpr ⟨lw_r1, List.forall_mem_append.mpr ⟨lw_r2, lw_r3⟩⟩
/-! ===== BEGIN words of one list among another's, by their places ===== -/
theorem goodIn_r {big : List Cond} (ws : List Cond) (ps : List Nat) (hp : ws = ps.filterMap (fun i => big[i]?)) (h : ws.all goodWord = true) : GoodIn big ws := by
  intro w hw
  have h1 := List.all_eq_true.mp h w hw
  rw [hp] at hw
  obtain ⟨i, -, hi⟩ := List.mem_filterMap.mp hw
  have hm : w ∈ big := by first | exact List.mem_of_getElem? hi | exact List.getElem?_mem hi
  exact ⟨hm, good_of_word h1⟩
theorem goodIn_app {big a b : List Cond} (ha : GoodIn big a) (hb : GoodIn big b) : GoodIn big (a ++ b) := fun w h => (List.mem_append.mp h).elim (ha w) (hb w)
theorem goodIn_ca {big a b : List Cond} {c : Cond} (ha : GoodIn big (c :: a)) (hb : GoodIn big b) : GoodIn big (c :: (a ++ b)) := fun w h => (List.mem_cons.mp h).elim (fun e => ha w (List.mem_cons.mpr (Or.inl e))) (fun h => (List.mem_append.mp h).elim (fun h => ha w (List.mem_cons.mpr (Or.inr h))) (hb w))
theorem goodIn_sub {big ws : List Cond} (hm : ∀ w ∈ ws, w ∈ big) (h : ws.all goodWord = true) : GoodIn big ws := fun w hw => ⟨hm w hw, good_of_word (List.all_eq_true.mp h w hw)⟩
/-! ===== END ===== -/

def RX0 : String := "CreakBoards$House"
def TX0 : u_T := fun k => match k with
  | 0 => ("CreakBoards$House", "rooms", "I", false)
  | 1 => ("CreakBoards$House", "doors", "I", false)
  | 2 => ("CreakBoards$House", "walkers", "I", false)
  | 3 => ("CreakBoards$House", "last", "I", false)
  | 4 => ("CreakBoards$House", "boards", "I", false)
  | 5 => ("CreakBoards$House", "lesser", "[I", true)
  | 6 => ("CreakBoards$House", "greater", "[I", true)
  | 7 => ("CreakBoards$House", "pace", "[I", true)
  | _ => ("CreakBoards$House", "begin", "[I", true)
def tyX0 : Nat → FieldType := fun k => match k with
  | 0 => .int
  | 1 => .int
  | 2 => .int
  | 3 => .int
  | 4 => .int
  | 5 => .array .int
  | 6 => .array .int
  | 7 => .array .int
  | _ => .array .int
abbrev wsX00 : List Cond := u_ws RX0 TX0 9
theorem nmX0 : ∀ a, a < 9 → ∀ b, b < 9 → a ≠ b → (TX0 a).2.1 ≠ (TX0 b).2.1 := by decide +kernel
theorem tyX0_ok : ∀ k, k < 9 → parseFieldDescriptor (TX0 k).2.2.1 = some (tyX0 k) := by decide +kernel
abbrev cX0_init : ByteArray := prog_2_method_1_code
def yX0_init : MethodName := ⟨RX0, "<init>", "()V"⟩
abbrev cX0_clear : ByteArray := prog_2_method_2_code
def yX0_clear : MethodName := ⟨RX0, "clear", "()V"⟩
abbrev cX0_addDoor : ByteArray := prog_2_method_3_code
def yX0_addDoor : MethodName := ⟨RX0, "addDoor", "(IIZ)V"⟩
abbrev cX0_addWalker : ByteArray := prog_2_method_4_code
def yX0_addWalker : MethodName := ⟨RX0, "addWalker", "(II)V"⟩
abbrev cX0_hasRoom : ByteArray := prog_2_method_5_code
def yX0_hasRoom : MethodName := ⟨RX0, "hasRoom", "(I)Z"⟩
abbrev cX0_hasDoor : ByteArray := prog_2_method_6_code
def yX0_hasDoor : MethodName := ⟨RX0, "hasDoor", "(I)Z"⟩
abbrev cX0_hasBoard : ByteArray := prog_2_method_7_code
def yX0_hasBoard : MethodName := ⟨RX0, "hasBoard", "(I)Z"⟩
abbrev cX0_hasWalker : ByteArray := prog_2_method_8_code
def yX0_hasWalker : MethodName := ⟨RX0, "hasWalker", "(I)Z"⟩
abbrev cX0_hasMinute : ByteArray := prog_2_method_9_code
def yX0_hasMinute : MethodName := ⟨RX0, "hasMinute", "(I)Z"⟩
abbrev cX0_roomBits : ByteArray := prog_2_method_10_code
def yX0_roomBits : MethodName := ⟨RX0, "roomBits", "()I"⟩
abbrev cX0_doorBits : ByteArray := prog_2_method_11_code
def yX0_doorBits : MethodName := ⟨RX0, "doorBits", "()I"⟩
abbrev cX0_walkerBits : ByteArray := prog_2_method_12_code
def yX0_walkerBits : MethodName := ⟨RX0, "walkerBits", "()I"⟩
abbrev cX0_allows : ByteArray := prog_2_method_13_code
def yX0_allows : MethodName := ⟨RX0, "allows", "(IIII)Z"⟩
abbrev cX0_behind : ByteArray := prog_2_method_14_code
def yX0_behind : MethodName := ⟨RX0, "behind", "(II)I"⟩
def RX1 : String := "CreakBoards$Moves"
def TX1 : u_T := fun k => match k with
  | 0 => ("CreakBoards$Moves", "first", "[I", true)
  | 1 => ("CreakBoards$Moves", "into", "[I", true)
  | _ => ("CreakBoards$Moves", "door", "[I", true)
def tyX1 : Nat → FieldType := fun k => match k with
  | 0 => .array .int
  | 1 => .array .int
  | _ => .array .int
abbrev wsX10 : List Cond := u_ws RX1 TX1 3
theorem nmX1 : ∀ a, a < 3 → ∀ b, b < 3 → a ≠ b → (TX1 a).2.1 ≠ (TX1 b).2.1 := by decide +kernel
theorem tyX1_ok : ∀ k, k < 3 → parseFieldDescriptor (TX1 k).2.2.1 = some (tyX1 k) := by decide +kernel
abbrev cX1_init : ByteArray := prog_3_method_1_code
def yX1_init : MethodName := ⟨RX1, "<init>", "()V"⟩
abbrev cX1_list : ByteArray := prog_3_method_2_code
def yX1_list : MethodName := ⟨RX1, "list", "(LCreakBoards$Plan;I)V"⟩
abbrev cX1_listAbsent : ByteArray := prog_3_method_3_code
def yX1_listAbsent : MethodName := ⟨RX1, "listAbsent", "(I)I"⟩
abbrev cX1_listState : ByteArray := prog_3_method_4_code
def yX1_listState : MethodName := ⟨RX1, "listState", "(LCreakBoards$Plan;IIII)I"⟩
def RX2 : String := "CreakBoards$Night"
def TX2 : u_T := fun k => match k with
  | 0 => ("CreakBoards$Night", "events", "I", false)
  | 1 => ("CreakBoards$Night", "kind", "[I", true)
  | 2 => ("CreakBoards$Night", "thing", "[I", true)
  | 3 => ("CreakBoards$Night", "other", "[I", true)
  | _ => ("CreakBoards$Night", "minute", "[I", true)
def tyX2 : Nat → FieldType := fun k => match k with
  | 0 => .int
  | 1 => .array .int
  | 2 => .array .int
  | 3 => .array .int
  | _ => .array .int
abbrev wsX20 : List Cond := u_ws RX2 TX2 5
theorem nmX2 : ∀ a, a < 5 → ∀ b, b < 5 → a ≠ b → (TX2 a).2.1 ≠ (TX2 b).2.1 := by decide +kernel
theorem tyX2_ok : ∀ k, k < 5 → parseFieldDescriptor (TX2 k).2.2.1 = some (tyX2 k) := by decide +kernel
abbrev cX2_init : ByteArray := prog_4_method_1_code
def yX2_init : MethodName := ⟨RX2, "<init>", "()V"⟩
abbrev cX2_add : ByteArray := prog_4_method_2_code
def yX2_add : MethodName := ⟨RX2, "add", "(IIII)V"⟩
abbrev cX2_names : ByteArray := prog_4_method_4_code
def yX2_names : MethodName := ⟨RX2, "names", "(I)Z"⟩
abbrev cX2_isOf : ByteArray := prog_4_method_5_code
def yX2_isOf : MethodName := ⟨RX2, "isOf", "(II)Z"⟩
def RX3 : String := "CreakBoards$Plan"
def TX3 : u_T := fun k => match k with
  | 0 => ("CreakBoards$Plan", "house", "LCreakBoards$House;", false)
  | 1 => ("CreakBoards$Plan", "used", "I", false)
  | 2 => ("CreakBoards$Plan", "heard", "I", false)
  | 3 => ("CreakBoards$Plan", "total", "I", false)
  | 4 => ("CreakBoards$Plan", "fit", "Z", false)
  | 5 => ("CreakBoards$Plan", "sounds", "[I", true)
  | 6 => ("CreakBoards$Plan", "shut", "[I", true)
  | 7 => ("CreakBoards$Plan", "seen", "[I", true)
  | 8 => ("CreakBoards$Plan", "allowed", "[I", true)
  | 9 => ("CreakBoards$Plan", "states", "[I", true)
  | 10 => ("CreakBoards$Plan", "stride", "[I", true)
  | _ => ("CreakBoards$Plan", "spots", "[I", true)
def tyX3 : Nat → FieldType := fun k => match k with
  | 0 => .object "CreakBoards$House"
  | 1 => .int
  | 2 => .int
  | 3 => .int
  | 4 => .boolean
  | 5 => .array .int
  | 6 => .array .int
  | 7 => .array .int
  | 8 => .array .int
  | 9 => .array .int
  | 10 => .array .int
  | _ => .array .int
abbrev wsX30 : List Cond := u_ws RX3 TX3 12
theorem nmX3 : ∀ a, a < 12 → ∀ b, b < 12 → a ≠ b → (TX3 a).2.1 ≠ (TX3 b).2.1 := by decide +kernel
theorem tyX3_ok : ∀ k, k < 12 → parseFieldDescriptor (TX3 k).2.2.1 = some (tyX3 k) := by decide +kernel
abbrev cX3_init : ByteArray := prog_5_method_1_code
def yX3_init : MethodName := ⟨RX3, "<init>", "(LCreakBoards$House;)V"⟩
abbrev cX3_make : ByteArray := prog_5_method_2_code
def yX3_make : MethodName := ⟨RX3, "make", "(LCreakBoards$House;II)V"⟩
abbrev cX3_shape : ByteArray := prog_5_method_3_code
def yX3_shape : MethodName := ⟨RX3, "shape", "()V"⟩
abbrev cX3_spot : ByteArray := prog_5_method_4_code
def yX3_spot : MethodName := ⟨RX3, "spot", "(II)I"⟩
abbrev cX3_roomOf : ByteArray := prog_5_method_5_code
def yX3_roomOf : MethodName := ⟨RX3, "roomOf", "(I)I"⟩
abbrev cX3_take : ByteArray := prog_5_method_6_code
def yX3_take : MethodName := ⟨RX3, "take", "(LCreakBoards$Night;I)V"⟩
abbrev cX3_takeEvent : ByteArray := prog_5_method_7_code
def yX3_takeEvent : MethodName := ⟨RX3, "takeEvent", "(LCreakBoards$Night;I)V"⟩
abbrev cX3_opens : ByteArray := prog_5_method_8_code
def yX3_opens : MethodName := ⟨RX3, "opens", "(II)Z"⟩
abbrev cX3_mayGo : ByteArray := prog_5_method_9_code
def yX3_mayGo : MethodName := ⟨RX3, "mayGo", "(III)Z"⟩
abbrev cX3_fits : ByteArray := prog_5_method_10_code
def yX3_fits : MethodName := ⟨RX3, "fits", "(II)Z"⟩
def RX4 : String := "CreakBoards$Reader"
def TX4 : u_T := fun k => match k with
  | 0 => ("CreakBoards$Reader", "text", "[I", false)
  | 1 => ("CreakBoards$Reader", "size", "I", false)
  | 2 => ("CreakBoards$Reader", "place", "I", false)
  | _ => ("CreakBoards$Reader", "failed", "Z", false)
def tyX4 : Nat → FieldType := fun k => match k with
  | 0 => .array .int
  | 1 => .int
  | 2 => .int
  | _ => .boolean
abbrev wsX40 : List Cond := u_ws RX4 TX4 4
theorem nmX4 : ∀ a, a < 4 → ∀ b, b < 4 → a ≠ b → (TX4 a).2.1 ≠ (TX4 b).2.1 := by decide +kernel
theorem tyX4_ok : ∀ k, k < 4 → parseFieldDescriptor (TX4 k).2.2.1 = some (tyX4 k) := by decide +kernel
abbrev cX4_init : ByteArray := prog_6_method_1_code
def yX4_init : MethodName := ⟨RX4, "<init>", "()V"⟩
abbrev cX4_open : ByteArray := prog_6_method_2_code
def yX4_open : MethodName := ⟨RX4, "open", "([II)V"⟩
abbrev cX4_readHouse : ByteArray := prog_6_method_3_code
def yX4_readHouse : MethodName := ⟨RX4, "readHouse", "(LCreakBoards$House;)V"⟩
abbrev cX4_readNight : ByteArray := prog_6_method_4_code
def yX4_readNight : MethodName := ⟨RX4, "readNight", "(LCreakBoards$House;LCreakBoards$Night;)V"⟩
abbrev cX4_findItem : ByteArray := prog_6_method_5_code
def yX4_findItem : MethodName := ⟨RX4, "findItem", "()Z"⟩
abbrev cX4_readHouseItem : ByteArray := prog_6_method_6_code
def yX4_readHouseItem : MethodName := ⟨RX4, "readHouseItem", "(LCreakBoards$House;)V"⟩
abbrev cX4_readDoor : ByteArray := prog_6_method_7_code
def yX4_readDoor : MethodName := ⟨RX4, "readDoor", "(LCreakBoards$House;)V"⟩
abbrev cX4_readWalker : ByteArray := prog_6_method_8_code
def yX4_readWalker : MethodName := ⟨RX4, "readWalker", "(LCreakBoards$House;)V"⟩
abbrev cX4_readRising : ByteArray := prog_6_method_9_code
def yX4_readRising : MethodName := ⟨RX4, "readRising", "(I)I"⟩
abbrev cX4_readEvent : ByteArray := prog_6_method_10_code
def yX4_readEvent : MethodName := ⟨RX4, "readEvent", "(LCreakBoards$House;LCreakBoards$Night;)V"⟩
abbrev cX4_kindAhead : ByteArray := prog_6_method_11_code
def yX4_kindAhead : MethodName := ⟨RX4, "kindAhead", "()I"⟩
abbrev cX4_ahead : ByteArray := prog_6_method_12_code
def yX4_ahead : MethodName := ⟨RX4, "ahead", "(I)Z"⟩
abbrev cX4_figureAhead : ByteArray := prog_6_method_13_code
def yX4_figureAhead : MethodName := ⟨RX4, "figureAhead", "()Z"⟩
abbrev cX4_expect : ByteArray := prog_6_method_14_code
def yX4_expect : MethodName := ⟨RX4, "expect", "(I)V"⟩
abbrev cX4_figure : ByteArray := prog_6_method_15_code
def yX4_figure : MethodName := ⟨RX4, "figure", "(I)I"⟩
abbrev cX4_readMinute : ByteArray := prog_6_method_16_code
def yX4_readMinute : MethodName := ⟨RX4, "readMinute", "(II)I"⟩
def RX5 : String := "CreakBoards$Shelf"
def TX5 : u_T := fun k => match k with
  | 0 => ("CreakBoards$Shelf", "lists", "[[I", true)
  | _ => ("CreakBoards$Shelf", "sizes", "[I", true)
def tyX5 : Nat → FieldType := fun k => match k with
  | 0 => .array (.array .int)
  | _ => .array .int
abbrev wsX50 : List Cond := u_ws RX5 TX5 2
theorem nmX5 : ∀ a, a < 2 → ∀ b, b < 2 → a ≠ b → (TX5 a).2.1 ≠ (TX5 b).2.1 := by decide +kernel
theorem tyX5_ok : ∀ k, k < 2 → parseFieldDescriptor (TX5 k).2.2.1 = some (tyX5 k) := by decide +kernel
abbrev cX5_init : ByteArray := prog_7_method_1_code
def yX5_init : MethodName := ⟨RX5, "<init>", "(II)V"⟩
abbrev cX5_names : ByteArray := prog_7_method_2_code
def yX5_names : MethodName := ⟨RX5, "names", "(I)Z"⟩
abbrev cX5_lacks : ByteArray := prog_7_method_3_code
def yX5_lacks : MethodName := ⟨RX5, "lacks", "(I)Z"⟩
abbrev cX5_holds : ByteArray := prog_7_method_4_code
def yX5_holds : MethodName := ⟨RX5, "holds", "(II)Z"⟩
abbrev cX5_make : ByteArray := prog_7_method_6_code
def yX5_make : MethodName := ⟨RX5, "make", "(III)V"⟩
abbrev cX5_exchange : ByteArray := prog_7_method_7_code
def yX5_exchange : MethodName := ⟨RX5, "exchange", "(III)I"⟩
def RX6 : String := "CreakBoards$Walks"
def TX6 : u_T := fun k => match k with
  | 0 => ("CreakBoards$Walks", "moves", "LCreakBoards$Moves;", true)
  | 1 => ("CreakBoards$Walks", "sets", "[J", true)
  | 2 => ("CreakBoards$Walks", "may", "[I", true)
  | 3 => ("CreakBoards$Walks", "must", "[I", true)
  | 4 => ("CreakBoards$Walks", "maySome", "[I", true)
  | 5 => ("CreakBoards$Walks", "mustSome", "[I", true)
  | 6 => ("CreakBoards$Walks", "now", "[J", false)
  | 7 => ("CreakBoards$Walks", "next", "[J", false)
  | 8 => ("CreakBoards$Walks", "kept", "[J", false)
  | 9 => ("CreakBoards$Walks", "plan", "LCreakBoards$Plan;", false)
  | 10 => ("CreakBoards$Walks", "mode", "I", false)
  | 11 => ("CreakBoards$Walks", "minute", "I", false)
  | 12 => ("CreakBoards$Walks", "followed", "I", false)
  | 13 => ("CreakBoards$Walks", "missPrice", "I", false)
  | 14 => ("CreakBoards$Walks", "selfPrice", "I", false)
  | 15 => ("CreakBoards$Walks", "inSets", "Z", false)
  | _ => ("CreakBoards$Walks", "stood", "J", false)
def tyX6 : Nat → FieldType := fun k => match k with
  | 0 => .object "CreakBoards$Moves"
  | 1 => .array .long
  | 2 => .array .int
  | 3 => .array .int
  | 4 => .array .int
  | 5 => .array .int
  | 6 => .array .long
  | 7 => .array .long
  | 8 => .array .long
  | 9 => .object "CreakBoards$Plan"
  | 10 => .int
  | 11 => .int
  | 12 => .int
  | 13 => .int
  | 14 => .int
  | 15 => .boolean
  | _ => .long
abbrev wsX60 : List Cond := u_ws RX6 TX6 17
theorem nmX6 : ∀ a, a < 17 → ∀ b, b < 17 → a ≠ b → (TX6 a).2.1 ≠ (TX6 b).2.1 := by decide +kernel
theorem tyX6_ok : ∀ k, k < 17 → parseFieldDescriptor (TX6 k).2.2.1 = some (tyX6 k) := by decide +kernel
abbrev cX6_init : ByteArray := prog_8_method_1_code
def yX6_init : MethodName := ⟨RX6, "<init>", "()V"⟩
abbrev cX6_firstEmpty : ByteArray := prog_8_method_2_code
def yX6_firstEmpty : MethodName := ⟨RX6, "firstEmpty", "(LCreakBoards$Plan;Z)I"⟩
abbrev cX6_live : ByteArray := prog_8_method_3_code
def yX6_live : MethodName := ⟨RX6, "live", "(LCreakBoards$Plan;)V"⟩
abbrev cX6_weigh : ByteArray := prog_8_method_4_code
def yX6_weigh : MethodName := ⟨RX6, "weigh", "(LCreakBoards$Plan;I)V"⟩
abbrev cX6_waysIn : ByteArray := prog_8_method_5_code
def yX6_waysIn : MethodName := ⟨RX6, "waysIn", "(LCreakBoards$Plan;I)J"⟩
abbrev cX6_through : ByteArray := prog_8_method_6_code
def yX6_through : MethodName := ⟨RX6, "through", "(JJ)J"⟩
abbrev cX6_standings : ByteArray := prog_8_method_7_code
def yX6_standings : MethodName := ⟨RX6, "standings", "(LCreakBoards$Plan;II)J"⟩
abbrev cX6_stayApart : ByteArray := prog_8_method_8_code
def yX6_stayApart : MethodName := ⟨RX6, "stayApart", "(LCreakBoards$Plan;II)Z"⟩
abbrev cX6_least : ByteArray := prog_8_method_11_code
def yX6_least : MethodName := ⟨RX6, "least", "(LCreakBoards$Plan;II)J"⟩
abbrev cX6_lastSince : ByteArray := prog_8_method_12_code
def yX6_lastSince : MethodName := ⟨RX6, "lastSince", "(LCreakBoards$Plan;II)I"⟩
abbrev cX6_mayBe : ByteArray := prog_8_method_13_code
def yX6_mayBe : MethodName := ⟨RX6, "mayBe", "(LCreakBoards$Plan;I)I"⟩
abbrev cX6_mustBe : ByteArray := prog_8_method_14_code
def yX6_mustBe : MethodName := ⟨RX6, "mustBe", "(LCreakBoards$Plan;I)I"⟩
abbrev cX6_fewestIn : ByteArray := prog_8_method_15_code
def yX6_fewestIn : MethodName := ⟨RX6, "fewestIn", "(LCreakBoards$Plan;II)I"⟩
abbrev cX6_mostIn : ByteArray := prog_8_method_16_code
def yX6_mostIn : MethodName := ⟨RX6, "mostIn", "(LCreakBoards$Plan;II)I"⟩
abbrev cX6_firstMeeting : ByteArray := prog_8_method_17_code
def yX6_firstMeeting : MethodName := ⟨RX6, "firstMeeting", "(LCreakBoards$Plan;II)I"⟩
abbrev cX6_walkersThrough : ByteArray := prog_8_method_18_code
def yX6_walkersThrough : MethodName := ⟨RX6, "walkersThrough", "([III)I"⟩
abbrev cX6_minutesOf : ByteArray := prog_8_method_19_code
def yX6_minutesOf : MethodName := ⟨RX6, "minutesOf", "([III)I"⟩
abbrev cX6_begin : ByteArray := prog_8_method_20_code
def yX6_begin : MethodName := ⟨RX6, "begin", "(LCreakBoards$Plan;IZ)V"⟩
abbrev cX6_rested : ByteArray := prog_8_method_21_code
def yX6_rested : MethodName := ⟨RX6, "rested", "(I)I"⟩
abbrev cX6_stays : ByteArray := prog_8_method_22_code
def yX6_stays : MethodName := ⟨RX6, "stays", "(II)Z"⟩
abbrev cX6_sweep : ByteArray := prog_8_method_23_code
def yX6_sweep : MethodName := ⟨RX6, "sweep", "(I)V"⟩
abbrev cX6_fan : ByteArray := prog_8_method_24_code
def yX6_fan : MethodName := ⟨RX6, "fan", "(IIII)V"⟩
abbrev cX6_link : ByteArray := prog_8_method_25_code
def yX6_link : MethodName := ⟨RX6, "link", "(IIIII)V"⟩
abbrev cX6_note : ByteArray := prog_8_method_26_code
def yX6_note : MethodName := ⟨RX6, "note", "(II)V"⟩
abbrev cX6_stoodOn : ByteArray := prog_8_method_27_code
def yX6_stoodOn : MethodName := ⟨RX6, "stoodOn", "(JI)J"⟩
abbrev cX6_priceOf : ByteArray := prog_8_method_28_code
def yX6_priceOf : MethodName := ⟨RX6, "priceOf", "(I)J"⟩
abbrev cX6_lesser : ByteArray := prog_8_method_29_code
def yX6_lesser : MethodName := ⟨RX6, "lesser", "(JJ)J"⟩
abbrev cX6_together : ByteArray := prog_8_method_30_code
def yX6_together : MethodName := ⟨RX6, "together", "(III)Z"⟩
abbrev cX6_isNone : ByteArray := prog_8_method_32_code
def yX6_isNone : MethodName := ⟨RX6, "isNone", "()Z"⟩
abbrev cX6_isIn : ByteArray := prog_8_method_33_code
def yX6_isIn : MethodName := ⟨RX6, "isIn", "(II)Z"⟩
abbrev cX6_keepSet : ByteArray := prog_8_method_34_code
def yX6_keepSet : MethodName := ⟨RX6, "keepSet", "(I)V"⟩
abbrev cX6_loadSet : ByteArray := prog_8_method_35_code
def yX6_loadSet : MethodName := ⟨RX6, "loadSet", "(I)V"⟩
def RX7 : String := "CreakBoards"
def TX7 : u_T := fun k => match k with
  | 0 => ("CreakBoards", "rows", "LCreakBoards$Shelf;", true)
  | 1 => ("CreakBoards", "texts", "LCreakBoards$Shelf;", true)
  | 2 => ("CreakBoards", "reader", "LCreakBoards$Reader;", true)
  | 3 => ("CreakBoards", "walks", "LCreakBoards$Walks;", true)
  | 4 => ("CreakBoards", "plan", "LCreakBoards$Plan;", true)
  | 5 => ("CreakBoards", "trial", "LCreakBoards$Plan;", true)
  | 6 => ("CreakBoards", "night", "LCreakBoards$Night;", true)
  | 7 => ("CreakBoards", "spareNight", "LCreakBoards$Night;", true)
  | 8 => ("CreakBoards", "house", "LCreakBoards$House;", false)
  | 9 => ("CreakBoards", "spareHouse", "LCreakBoards$House;", false)
  | 10 => ("CreakBoards", "searched", "Z", false)
  | 11 => ("CreakBoards", "lived", "Z", false)
  | 12 => ("CreakBoards", "astray", "I", false)
  | 13 => ("CreakBoards", "latestAsked", "I", false)
  | 14 => ("CreakBoards", "latestFinding", "I", false)
  | 15 => ("CreakBoards", "findingCounts", "[I", true)
  | 16 => ("CreakBoards", "latestMany", "J", false)
  | 17 => ("CreakBoards", "latestUpper", "J", false)
  | _ => ("CreakBoards", "latestLower", "J", false)
def tyX7 : Nat → FieldType := fun k => match k with
  | 0 => .object "CreakBoards$Shelf"
  | 1 => .object "CreakBoards$Shelf"
  | 2 => .object "CreakBoards$Reader"
  | 3 => .object "CreakBoards$Walks"
  | 4 => .object "CreakBoards$Plan"
  | 5 => .object "CreakBoards$Plan"
  | 6 => .object "CreakBoards$Night"
  | 7 => .object "CreakBoards$Night"
  | 8 => .object "CreakBoards$House"
  | 9 => .object "CreakBoards$House"
  | 10 => .boolean
  | 11 => .boolean
  | 12 => .int
  | 13 => .int
  | 14 => .int
  | 15 => .array .int
  | 16 => .long
  | 17 => .long
  | _ => .long
abbrev wsX70 : List Cond := u_ws RX7 TX7 19
theorem nmX7 : ∀ a, a < 19 → ∀ b, b < 19 → a ≠ b → (TX7 a).2.1 ≠ (TX7 b).2.1 := by decide +kernel
theorem tyX7_ok : ∀ k, k < 19 → parseFieldDescriptor (TX7 k).2.2.1 = some (tyX7 k) := by decide +kernel
abbrev cX7_init : ByteArray := prog_1_method_1_code
def yX7_init : MethodName := ⟨RX7, "<init>", "()V"⟩
abbrev cX7_text : ByteArray := prog_1_method_8_code
def yX7_text : MethodName := ⟨RX7, "text", "(II)I"⟩
abbrev cX7_put : ByteArray := prog_1_method_9_code
def yX7_put : MethodName := ⟨RX7, "put", "(III)I"⟩
abbrev cX7_fault : ByteArray := prog_1_method_10_code
def yX7_fault : MethodName := ⟨RX7, "fault", "(IZ)I"⟩
abbrev cX7_house : ByteArray := prog_1_method_11_code
def yX7_house : MethodName := ⟨RX7, "house", "(I)I"⟩
abbrev cX7_event : ByteArray := prog_1_method_13_code
def yX7_event : MethodName := ⟨RX7, "event", "(IIII)I"⟩
abbrev cX7_mark : ByteArray := prog_1_method_16_code
def yX7_mark : MethodName := ⟨RX7, "mark", "(II)I"⟩
abbrev cX7_could : ByteArray := prog_1_method_19_code
def yX7_could : MethodName := ⟨RX7, "could", "()I"⟩
abbrev cX7_fewest : ByteArray := prog_1_method_20_code
def yX7_fewest : MethodName := ⟨RX7, "fewest", "()I"⟩
abbrev cX7_ways : ByteArray := prog_1_method_21_code
def yX7_ways : MethodName := ⟨RX7, "ways", "()I"⟩
abbrev cX7_rooms : ByteArray := prog_1_method_22_code
def yX7_rooms : MethodName := ⟨RX7, "rooms", "(II)I"⟩
abbrev cX7_empty : ByteArray := prog_1_method_23_code
def yX7_empty : MethodName := ⟨RX7, "empty", "(I)I"⟩
abbrev cX7_where : ByteArray := prog_1_method_24_code
def yX7_where : MethodName := ⟨RX7, "where", "(II)I"⟩
abbrev cX7_met : ByteArray := prog_1_method_25_code
def yX7_met : MethodName := ⟨RX7, "met", "(II)I"⟩
abbrev cX7_still : ByteArray := prog_1_method_26_code
def yX7_still : MethodName := ⟨RX7, "still", "(II)I"⟩
abbrev cX7_whose : ByteArray := prog_1_method_29_code
def yX7_whose : MethodName := ⟨RX7, "whose", "(I)I"⟩
abbrev cX7_same : ByteArray := prog_1_method_30_code
def yX7_same : MethodName := ⟨RX7, "same", "(I)I"⟩
abbrev cX7_passes : ByteArray := prog_1_method_31_code
def yX7_passes : MethodName := ⟨RX7, "passes", "(I)I"⟩
abbrev cX7_third : ByteArray := prog_1_method_32_code
def yX7_third : MethodName := ⟨RX7, "third", "()I"⟩
abbrev cX7_chance : ByteArray := prog_1_method_33_code
def yX7_chance : MethodName := ⟨RX7, "chance", "(II)I"⟩
abbrev cX7_likely : ByteArray := prog_1_method_34_code
def yX7_likely : MethodName := ⟨RX7, "likely", "(II)I"⟩
abbrev cX7_cheapest : ByteArray := prog_1_method_35_code
def yX7_cheapest : MethodName := ⟨RX7, "cheapest", "(II)I"⟩
abbrev cX7_settle : ByteArray := prog_1_method_36_code
def yX7_settle : MethodName := ⟨RX7, "settle", "(III)I"⟩
abbrev cX7_stuck : ByteArray := prog_1_method_37_code
def yX7_stuck : MethodName := ⟨RX7, "stuck", "()I"⟩
abbrev cX7_quarrel : ByteArray := prog_1_method_38_code
def yX7_quarrel : MethodName := ⟨RX7, "quarrel", "()I"⟩
abbrev cX7_asked : ByteArray := prog_1_method_39_code
def yX7_asked : MethodName := ⟨RX7, "asked", "()I"⟩
abbrev cX7_many : ByteArray := prog_1_method_40_code
def yX7_many : MethodName := ⟨RX7, "many", "()J"⟩
abbrev cX7_upper : ByteArray := prog_1_method_41_code
def yX7_upper : MethodName := ⟨RX7, "upper", "()J"⟩
abbrev cX7_lower : ByteArray := prog_1_method_42_code
def yX7_lower : MethodName := ⟨RX7, "lower", "()J"⟩
abbrev cX7_found : ByteArray := prog_1_method_47_code
def yX7_found : MethodName := ⟨RX7, "found", "(I)I"⟩
abbrev cX7_tellPart : ByteArray := prog_1_method_49_code
def yX7_tellPart : MethodName := ⟨RX7, "tellPart", "(JJ)V"⟩
abbrev cX7_faultOfHouse : ByteArray := prog_1_method_50_code
def yX7_faultOfHouse : MethodName := ⟨RX7, "faultOfHouse", "(I)I"⟩
abbrev cX7_faultOfNight : ByteArray := prog_1_method_51_code
def yX7_faultOfNight : MethodName := ⟨RX7, "faultOfNight", "(I)I"⟩
abbrev cX7_canBe : ByteArray := prog_1_method_52_code
def yX7_canBe : MethodName := ⟨RX7, "canBe", "()Z"⟩
abbrev cX7_knowsWays : ByteArray := prog_1_method_53_code
def yX7_knowsWays : MethodName := ⟨RX7, "knowsWays", "()Z"⟩
abbrev cX7_leastBy : ByteArray := prog_1_method_54_code
def yX7_leastBy : MethodName := ⟨RX7, "leastBy", "(III)J"⟩
abbrev cX7_stuckSince : ByteArray := prog_1_method_55_code
def yX7_stuckSince : MethodName := ⟨RX7, "stuckSince", "(I)I"⟩
abbrev cX7_isPrice : ByteArray := prog_1_method_56_code
def yX7_isPrice : MethodName := ⟨RX7, "isPrice", "(I)Z"⟩
abbrev cX7_roomBit : ByteArray := prog_1_method_57_code
def yX7_roomBit : MethodName := ⟨RX7, "roomBit", "(II)I"⟩
abbrev cX7_roomsOf : ByteArray := prog_1_method_58_code
def yX7_roomsOf : MethodName := ⟨RX7, "roomsOf", "(II)I"⟩
abbrev cX7_walkersIn : ByteArray := prog_1_method_60_code
def yX7_walkersIn : MethodName := ⟨RX7, "walkersIn", "(II)I"⟩
abbrev cX7_capped : ByteArray := prog_1_method_61_code
def yX7_capped : MethodName := ⟨RX7, "capped", "(J)J"⟩
def RX8 : String := "CreakBoardsModel"
def TX8 : u_T := fun k => match k with
  | _ => ("", "", "", false)
def tyX8 : Nat → FieldType := fun k => match k with
  | _ => .int
abbrev wsX80 : List Cond := u_ws RX8 TX8 0
theorem nmX8 : ∀ a, a < 0 → ∀ b, b < 0 → a ≠ b → (TX8 a).2.1 ≠ (TX8 b).2.1 := by decide +kernel
theorem tyX8_ok : ∀ k, k < 0 → parseFieldDescriptor (TX8 k).2.2.1 = some (tyX8 k) := by decide +kernel
def RJ6 : String := "java/lang/Integer"
def TJ6 : u_T := fun k => match k with
  | _ => ("", "", "", false)
def tyJ6 : Nat → FieldType := fun k => match k with
  | _ => .int
abbrev wsJ60 : List Cond := u_ws RJ6 TJ6 0
theorem nmJ6 : ∀ a, a < 0 → ∀ b, b < 0 → a ≠ b → (TJ6 a).2.1 ≠ (TJ6 b).2.1 := by decide +kernel
theorem tyJ6_ok : ∀ k, k < 0 → parseFieldDescriptor (TJ6 k).2.2.1 = some (tyJ6 k) := by decide +kernel
abbrev cJ6_bitCount_0f7a4 : ByteArray := prog_11_method_49_code
def yJ6_bitCount_0f7a4 : MethodName := ⟨RJ6, "bitCount", "(I)I"⟩
def RJ9 : String := "java/lang/Math"
def TJ9 : u_T := fun k => match k with
  | _ => ("", "", "", false)
def tyJ9 : Nat → FieldType := fun k => match k with
  | _ => .int
abbrev wsJ90 : List Cond := u_ws RJ9 TJ9 0
theorem nmJ9 : ∀ a, a < 0 → ∀ b, b < 0 → a ≠ b → (TJ9 a).2.1 ≠ (TJ9 b).2.1 := by decide +kernel
theorem tyJ9_ok : ∀ k, k < 0 → parseFieldDescriptor (TJ9 k).2.2.1 = some (tyJ9 k) := by decide +kernel
abbrev cJ9_max_7cf53 : ByteArray := prog_12_method_65_code
def yJ9_max_7cf53 : MethodName := ⟨RJ9, "max", "(II)I"⟩
abbrev cJ9_max_f86c9 : ByteArray := prog_12_method_66_code
def yJ9_max_f86c9 : MethodName := ⟨RJ9, "max", "(JJ)J"⟩
abbrev cJ9_min_7cf53 : ByteArray := prog_12_method_69_code
def yJ9_min_7cf53 : MethodName := ⟨RJ9, "min", "(II)I"⟩
abbrev cJ9_min_f86c9 : ByteArray := prog_12_method_70_code
def yJ9_min_f86c9 : MethodName := ⟨RJ9, "min", "(JJ)J"⟩
def RL : String := "CreakBoardsLaw"
abbrev cL_cell : ByteArray := method_2_code
def yL_cell : MethodName := ⟨RL, "cell", "([II)I"⟩
abbrev cL_put : ByteArray := method_3_code
def yL_put : MethodName := ⟨RL, "put", "(LCreakBoards;III)I"⟩
abbrev cL_number : ByteArray := method_4_code
def yL_number : MethodName := ⟨RL, "number", "(LCreakBoards;III)I"⟩
abbrev cL_numbers : ByteArray := method_5_code
def yL_numbers : MethodName := ⟨RL, "numbers", "([IIIIII[I)V"⟩
abbrev cL_house : ByteArray := method_6_code
def yL_house : MethodName := ⟨RL, "house", "(LCreakBoards;[I)Z"⟩
abbrev cL_tells : ByteArray := method_7_code
def yL_tells : MethodName := ⟨RL, "tells", "([II[I[II)Z"⟩
abbrev cL_events : ByteArray := method_8_code
def yL_events : MethodName := ⟨RL, "events", "(LCreakBoards;[II[I[II)I"⟩
abbrev cL_law : ByteArray := code
def yL_law : MethodName := ⟨RL, "law", "([I)Z"⟩
abbrev vwCl : List vw_C := [(RX0, TX0, 9), (RX1, TX1, 3), (RX2, TX2, 5), (RX3, TX3, 12), (RX4, TX4, 4), (RX5, TX5, 2), (RX6, TX6, 17), (RX7, TX7, 19)]
theorem inX0 : ∀ w ∈ wsX00, w ∈ lw_tbl := by decide +kernel
theorem inX1 : ∀ w ∈ wsX10, w ∈ lw_tbl := by decide +kernel
theorem inX2 : ∀ w ∈ wsX20, w ∈ lw_tbl := by decide +kernel
theorem inX3 : ∀ w ∈ wsX30, w ∈ lw_tbl := by decide +kernel
theorem inX4 : ∀ w ∈ wsX40, w ∈ lw_tbl := by decide +kernel
theorem inX5 : ∀ w ∈ wsX50, w ∈ lw_tbl := by decide +kernel
theorem inX6 : ∀ w ∈ wsX60, w ∈ lw_tbl := by decide +kernel
theorem inX7 : ∀ w ∈ wsX70, w ∈ lw_tbl := by decide +kernel
theorem inX8 : ∀ w ∈ wsX80, w ∈ lw_tbl := by decide +kernel
