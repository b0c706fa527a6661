section
-- ===== PART A: goes FIRST, ahead of the names: the tables' words, and 'selects' of the private methods out of them =====
/-- a private method of a class that the tables say can be made, by its rows of tables_1 -/
def lw_okq (q : MethodName × Nat) : Prop := (q.1.cls ≠ "java/lang/invoke/MethodHandle" ∧ q.1.cls ≠ "java/lang/invoke/VarHandle") ∧ Cond.instantiable q.1.cls q.2 ∈ tables_1 ∧ Cond.privateMethod q.1 ∈ tables_1 ∧ Cond.instanceMethod q.1 ∈ tables_1
theorem lw_p0 : lw_okq (⟨"ShoesAtLaw", "beginAnew", "()V"⟩, 15) := ⟨⟨by decide +kernel, by decide +kernel⟩, List.mem_of_getElem? (i := 17) (by decide +kernel), List.mem_of_getElem? (i := 193) (by decide +kernel), List.mem_of_getElem? (i := 194) (by decide +kernel)⟩
theorem lw_p1 : lw_okq (⟨"ShoesAtLaw$Reader", "nextToken", "()V"⟩, 8) := ⟨⟨by decide +kernel, by decide +kernel⟩, List.mem_of_getElem? (i := 25) (by decide +kernel), List.mem_of_getElem? (i := 281) (by decide +kernel), List.mem_of_getElem? (i := 282) (by decide +kernel)⟩
theorem lw_p2 : lw_okq (⟨"ShoesAtLaw$Reader", "letterAt", "(I)I"⟩, 8) := ⟨⟨by decide +kernel, by decide +kernel⟩, List.mem_of_getElem? (i := 25) (by decide +kernel), List.mem_of_getElem? (i := 285) (by decide +kernel), List.mem_of_getElem? (i := 286) (by decide +kernel)⟩
theorem lw_p3 : lw_okq (⟨"ShoesAtLaw$Reader", "takeNumber", "()V"⟩, 8) := ⟨⟨by decide +kernel, by decide +kernel⟩, List.mem_of_getElem? (i := 25) (by decide +kernel), List.mem_of_getElem? (i := 292) (by decide +kernel), List.mem_of_getElem? (i := 293) (by decide +kernel)⟩
theorem lw_p4 : lw_okq (⟨"ShoesAtLaw$Reader", "readGood", "(LShoesAtLaw$Suit;)Z"⟩, 8) := ⟨⟨by decide +kernel, by decide +kernel⟩, List.mem_of_getElem? (i := 25) (by decide +kernel), List.mem_of_getElem? (i := 299) (by decide +kernel), List.mem_of_getElem? (i := 300) (by decide +kernel)⟩
theorem lw_p5 : lw_okq (⟨"ShoesAtLaw$Reader", "nextNumber", "(II)Z"⟩, 8) := ⟨⟨by decide +kernel, by decide +kernel⟩, List.mem_of_getElem? (i := 25) (by decide +kernel), List.mem_of_getElem? (i := 303) (by decide +kernel), List.mem_of_getElem? (i := 304) (by decide +kernel)⟩
theorem lw_p6 : lw_okq (⟨"ShoesAtLaw$Reader", "nextEnds", "()Z"⟩, 8) := ⟨⟨by decide +kernel, by decide +kernel⟩, List.mem_of_getElem? (i := 25) (by decide +kernel), List.mem_of_getElem? (i := 311) (by decide +kernel), List.mem_of_getElem? (i := 312) (by decide +kernel)⟩
theorem lw_p7 : lw_okq (⟨"ShoesAtLaw$Reader", "readPair", "(LShoesAtLaw$Suit;)Z"⟩, 8) := ⟨⟨by decide +kernel, by decide +kernel⟩, List.mem_of_getElem? (i := 25) (by decide +kernel), List.mem_of_getElem? (i := 315) (by decide +kernel), List.mem_of_getElem? (i := 316) (by decide +kernel)⟩
theorem lw_p8 : lw_okq (⟨"ShoesAtLaw$Reader", "readHops", "(LShoesAtLaw$Suit;)Z"⟩, 8) := ⟨⟨by decide +kernel, by decide +kernel⟩, List.mem_of_getElem? (i := 25) (by decide +kernel), List.mem_of_getElem? (i := 323) (by decide +kernel), List.mem_of_getElem? (i := 324) (by decide +kernel)⟩
theorem lw_p9 : lw_okq (⟨"ShoesAtLaw$Reader", "readCells", "(LShoesAtLaw$Suit;)Z"⟩, 8) := ⟨⟨by decide +kernel, by decide +kernel⟩, List.mem_of_getElem? (i := 25) (by decide +kernel), List.mem_of_getElem? (i := 327) (by decide +kernel), List.mem_of_getElem? (i := 328) (by decide +kernel)⟩
theorem lw_p10 : lw_okq (⟨"ShoesAtLaw$Suit", "moreOf", "(II)I"⟩, 8) := ⟨⟨by decide +kernel, by decide +kernel⟩, List.mem_of_getElem? (i := 58) (by decide +kernel), List.mem_of_getElem? (i := 350) (by decide +kernel), List.mem_of_getElem? (i := 351) (by decide +kernel)⟩
theorem lw_p11 : lw_okq (⟨"ShoesAtLaw", "isGood", "(I)Z"⟩, 15) := ⟨⟨by decide +kernel, by decide +kernel⟩, List.mem_of_getElem? (i := 17) (by decide +kernel), List.mem_of_getElem? (i := 358) (by decide +kernel), List.mem_of_getElem? (i := 359) (by decide +kernel)⟩
theorem lw_p12 : lw_okq (⟨"ShoesAtLaw", "remember", "(I)V"⟩, 15) := ⟨⟨by decide +kernel, by decide +kernel⟩, List.mem_of_getElem? (i := 17) (by decide +kernel), List.mem_of_getElem? (i := 393) (by decide +kernel), List.mem_of_getElem? (i := 394) (by decide +kernel)⟩
theorem lw_p13 : lw_okq (⟨"ShoesAtLaw", "envyOf", "(I)I"⟩, 15) := ⟨⟨by decide +kernel, by decide +kernel⟩, List.mem_of_getElem? (i := 17) (by decide +kernel), List.mem_of_getElem? (i := 436) (by decide +kernel), List.mem_of_getElem? (i := 437) (by decide +kernel)⟩
theorem lw_p14 : lw_okq (⟨"ShoesAtLaw", "ownValue", "(I)I"⟩, 15) := ⟨⟨by decide +kernel, by decide +kernel⟩, List.mem_of_getElem? (i := 17) (by decide +kernel), List.mem_of_getElem? (i := 440) (by decide +kernel), List.mem_of_getElem? (i := 441) (by decide +kernel)⟩
theorem lw_p15 : lw_okq (⟨"ShoesAtLaw$Partings", "isFair", "(LShoesAtLaw$Suit;I)Z"⟩, 6) := ⟨⟨by decide +kernel, by decide +kernel⟩, List.mem_of_getElem? (i := 123) (by decide +kernel), List.mem_of_getElem? (i := 456) (by decide +kernel), List.mem_of_getElem? (i := 457) (by decide +kernel)⟩
def lw_privs_1 : List (MethodName × Nat) := [(⟨"ShoesAtLaw", "beginAnew", "()V"⟩, 15), (⟨"ShoesAtLaw$Reader", "nextToken", "()V"⟩, 8), (⟨"ShoesAtLaw$Reader", "letterAt", "(I)I"⟩, 8), (⟨"ShoesAtLaw$Reader", "takeNumber", "()V"⟩, 8), (⟨"ShoesAtLaw$Reader", "readGood", "(LShoesAtLaw$Suit;)Z"⟩, 8), (⟨"ShoesAtLaw$Reader", "nextNumber", "(II)Z"⟩, 8), (⟨"ShoesAtLaw$Reader", "nextEnds", "()Z"⟩, 8), (⟨"ShoesAtLaw$Reader", "readPair", "(LShoesAtLaw$Suit;)Z"⟩, 8), (⟨"ShoesAtLaw$Reader", "readHops", "(LShoesAtLaw$Suit;)Z"⟩, 8), (⟨"ShoesAtLaw$Reader", "readCells", "(LShoesAtLaw$Suit;)Z"⟩, 8), (⟨"ShoesAtLaw$Suit", "moreOf", "(II)I"⟩, 8), (⟨"ShoesAtLaw", "isGood", "(I)Z"⟩, 15), (⟨"ShoesAtLaw", "remember", "(I)V"⟩, 15), (⟨"ShoesAtLaw", "envyOf", "(I)I"⟩, 15), (⟨"ShoesAtLaw", "ownValue", "(I)I"⟩, 15), (⟨"ShoesAtLaw$Partings", "isFair", "(LShoesAtLaw$Suit;I)Z"⟩, 6)]
theorem lw_r1 : ∀ q ∈ lw_privs_1, lw_okq q := List.forall_mem_cons.mpr ⟨lw_p0, List.forall_mem_cons.mpr ⟨lw_p1, List.forall_mem_cons.mpr ⟨lw_p2, List.forall_mem_cons.mpr ⟨lw_p3, List.forall_mem_cons.mpr ⟨lw_p4, List.forall_mem_cons.mpr ⟨lw_p5, List.forall_mem_cons.mpr ⟨lw_p6, List.forall_mem_cons.mpr ⟨lw_p7, List.forall_mem_cons.mpr ⟨lw_p8, List.forall_mem_cons.mpr ⟨lw_p9, List.forall_mem_cons.mpr ⟨lw_p10, List.forall_mem_cons.mpr ⟨lw_p11, List.forall_mem_cons.mpr ⟨lw_p12, List.forall_mem_cons.mpr ⟨lw_p13, List.forall_mem_cons.mpr ⟨lw_p14, List.forall_mem_cons.mpr ⟨lw_p15, fun _ h => absurd h List.not_mem_nil⟩⟩⟩⟩⟩⟩⟩⟩⟩⟩⟩⟩⟩⟩⟩⟩
theorem lw_p16 : lw_okq (⟨"ShoesAtLaw$Partings", "lead", "(LShoesAtLaw$Suit;II)I"⟩, 6) := ⟨⟨by decide +kernel, by decide +kernel⟩, List.mem_of_getElem? (i := 123) (by decide +kernel), List.mem_of_getElem? (i := 460) (by decide +kernel), List.mem_of_getElem? (i := 461) (by decide +kernel)⟩
theorem lw_p17 : lw_okq (⟨"ShoesAtLaw$Partings", "outcome", "(LShoesAtLaw$Suit;IIII)I"⟩, 6) := ⟨⟨by decide +kernel, by decide +kernel⟩, List.mem_of_getElem? (i := 123) (by decide +kernel), List.mem_of_getElem? (i := 500) (by decide +kernel), List.mem_of_getElem? (i := 501) (by decide +kernel)⟩
theorem lw_p18 : lw_okq (⟨"ShoesAtLaw$Partings", "listOthersFair", "(LShoesAtLaw$Suit;I)V"⟩, 6) := ⟨⟨by decide +kernel, by decide +kernel⟩, List.mem_of_getElem? (i := 123) (by decide +kernel), List.mem_of_getElem? (i := 514) (by decide +kernel), List.mem_of_getElem? (i := 515) (by decide +kernel)⟩
theorem lw_p19 : lw_okq (⟨"ShoesAtLaw$Partings", "ownInBestTold", "(II)I"⟩, 6) := ⟨⟨by decide +kernel, by decide +kernel⟩, List.mem_of_getElem? (i := 123) (by decide +kernel), List.mem_of_getElem? (i := 518) (by decide +kernel), List.mem_of_getElem? (i := 519) (by decide +kernel)⟩
theorem lw_p20 : lw_okq (⟨"ShoesAtLaw", "isCell", "(I)Z"⟩, 15) := ⟨⟨by decide +kernel, by decide +kernel⟩, List.mem_of_getElem? (i := 17) (by decide +kernel), List.mem_of_getElem? (i := 567) (by decide +kernel), List.mem_of_getElem? (i := 568) (by decide +kernel)⟩
theorem lw_p21 : lw_okq (⟨"ShoesAtLaw$Now", "changesAt", "(I)Z"⟩, 4) := ⟨⟨by decide +kernel, by decide +kernel⟩, List.mem_of_getElem? (i := 103) (by decide +kernel), List.mem_of_getElem? (i := 579) (by decide +kernel), List.mem_of_getElem? (i := 580) (by decide +kernel)⟩
theorem lw_p22 : lw_okq (⟨"ShoesAtLaw", "agrees", "(II)Z"⟩, 15) := ⟨⟨by decide +kernel, by decide +kernel⟩, List.mem_of_getElem? (i := 17) (by decide +kernel), List.mem_of_getElem? (i := 604) (by decide +kernel), List.mem_of_getElem? (i := 605) (by decide +kernel)⟩
theorem lw_p23 : lw_okq (⟨"ShoesAtLaw", "canBeWalked", "(II)Z"⟩, 15) := ⟨⟨by decide +kernel, by decide +kernel⟩, List.mem_of_getElem? (i := 17) (by decide +kernel), List.mem_of_getElem? (i := 616) (by decide +kernel), List.mem_of_getElem? (i := 617) (by decide +kernel)⟩
theorem lw_p24 : lw_okq (⟨"ShoesAtLaw", "imageOf", "(I)LShoesAtLaw$Now;"⟩, 15) := ⟨⟨by decide +kernel, by decide +kernel⟩, List.mem_of_getElem? (i := 17) (by decide +kernel), List.mem_of_getElem? (i := 664) (by decide +kernel), List.mem_of_getElem? (i := 665) (by decide +kernel)⟩
theorem lw_p25 : lw_okq (⟨"ShoesAtLawModel", "begins", "()V"⟩, 20) := ⟨⟨by decide +kernel, by decide +kernel⟩, List.mem_of_getElem? (i := 685) (by decide +kernel), List.mem_of_getElem? (i := 694) (by decide +kernel), List.mem_of_getElem? (i := 695) (by decide +kernel)⟩
theorem lw_p26 : lw_okq (⟨"ShoesAtLawModel", "first", "()I"⟩, 20) := ⟨⟨by decide +kernel, by decide +kernel⟩, List.mem_of_getElem? (i := 685) (by decide +kernel), List.mem_of_getElem? (i := 776) (by decide +kernel), List.mem_of_getElem? (i := 777) (by decide +kernel)⟩
theorem lw_p27 : lw_okq (⟨"ShoesAtLawModel", "takesItem", "(I)Z"⟩, 20) := ⟨⟨by decide +kernel, by decide +kernel⟩, List.mem_of_getElem? (i := 685) (by decide +kernel), List.mem_of_getElem? (i := 780) (by decide +kernel), List.mem_of_getElem? (i := 781) (by decide +kernel)⟩
theorem lw_p28 : lw_okq (⟨"ShoesAtLawModel", "takesGood", "()Z"⟩, 20) := ⟨⟨by decide +kernel, by decide +kernel⟩, List.mem_of_getElem? (i := 685) (by decide +kernel), List.mem_of_getElem? (i := 784) (by decide +kernel), List.mem_of_getElem? (i := 785) (by decide +kernel)⟩
theorem lw_p29 : lw_okq (⟨"ShoesAtLawModel", "number", "(III)Z"⟩, 20) := ⟨⟨by decide +kernel, by decide +kernel⟩, List.mem_of_getElem? (i := 685) (by decide +kernel), List.mem_of_getElem? (i := 788) (by decide +kernel), List.mem_of_getElem? (i := 789) (by decide +kernel)⟩
theorem lw_p30 : lw_okq (⟨"ShoesAtLawModel", "ends", "()Z"⟩, 20) := ⟨⟨by decide +kernel, by decide +kernel⟩, List.mem_of_getElem? (i := 685) (by decide +kernel), List.mem_of_getElem? (i := 794) (by decide +kernel), List.mem_of_getElem? (i := 795) (by decide +kernel)⟩
theorem lw_p31 : lw_okq (⟨"ShoesAtLawModel", "takesPair", "()Z"⟩, 20) := ⟨⟨by decide +kernel, by decide +kernel⟩, List.mem_of_getElem? (i := 685) (by decide +kernel), List.mem_of_getElem? (i := 798) (by decide +kernel), List.mem_of_getElem? (i := 799) (by decide +kernel)⟩
def lw_privs_2 : List (MethodName × Nat) := [(⟨"ShoesAtLaw$Partings", "lead", "(LShoesAtLaw$Suit;II)I"⟩, 6), (⟨"ShoesAtLaw$Partings", "outcome", "(LShoesAtLaw$Suit;IIII)I"⟩, 6), (⟨"ShoesAtLaw$Partings", "listOthersFair", "(LShoesAtLaw$Suit;I)V"⟩, 6), (⟨"ShoesAtLaw$Partings", "ownInBestTold", "(II)I"⟩, 6), (⟨"ShoesAtLaw", "isCell", "(I)Z"⟩, 15), (⟨"ShoesAtLaw$Now", "changesAt", "(I)Z"⟩, 4), (⟨"ShoesAtLaw", "agrees", "(II)Z"⟩, 15), (⟨"ShoesAtLaw", "canBeWalked", "(II)Z"⟩, 15), (⟨"ShoesAtLaw", "imageOf", "(I)LShoesAtLaw$Now;"⟩, 15), (⟨"ShoesAtLawModel", "begins", "()V"⟩, 20), (⟨"ShoesAtLawModel", "first", "()I"⟩, 20), (⟨"ShoesAtLawModel", "takesItem", "(I)Z"⟩, 20), (⟨"ShoesAtLawModel", "takesGood", "()Z"⟩, 20), (⟨"ShoesAtLawModel", "number", "(III)Z"⟩, 20), (⟨"ShoesAtLawModel", "ends", "()Z"⟩, 20), (⟨"ShoesAtLawModel", "takesPair", "()Z"⟩, 20)]
theorem lw_r2 : ∀ q ∈ lw_privs_2, lw_okq q := List.forall_mem_cons.mpr ⟨lw_p16, List.forall_mem_cons.mpr ⟨lw_p17, List.forall_mem_cons.mpr ⟨lw_p18, List.forall_mem_cons.mpr ⟨lw_p19, List.forall_mem_cons.mpr ⟨lw_p20, List.forall_mem_cons.mpr ⟨lw_p21, List.forall_mem_cons.mpr ⟨lw_p22, List.forall_mem_cons.mpr ⟨lw_p23, List.forall_mem_cons.mpr ⟨lw_p24, List.forall_mem_cons.mpr ⟨lw_p25, List.forall_mem_cons.mpr ⟨lw_p26, List.forall_mem_cons.mpr ⟨lw_p27, List.forall_mem_cons.mpr ⟨lw_p28, List.forall_mem_cons.mpr ⟨lw_p29, List.forall_mem_cons.mpr ⟨lw_p30, List.forall_mem_cons.mpr ⟨lw_p31, fun _ h => absurd h List.not_mem_nil⟩⟩⟩⟩⟩⟩⟩⟩⟩⟩⟩⟩⟩⟩⟩⟩
theorem lw_p32 : lw_okq (⟨"ShoesAtLawModel", "takesOne", "(III)Z"⟩, 20) := ⟨⟨by decide +kernel, by decide +kernel⟩, List.mem_of_getElem? (i := 685) (by decide +kernel), List.mem_of_getElem? (i := 802) (by decide +kernel), List.mem_of_getElem? (i := 803) (by decide +kernel)⟩
theorem lw_p33 : lw_okq (⟨"ShoesAtLawModel", "isGood", "(I)Z"⟩, 20) := ⟨⟨by decide +kernel, by decide +kernel⟩, List.mem_of_getElem? (i := 685) (by decide +kernel), List.mem_of_getElem? (i := 813) (by decide +kernel), List.mem_of_getElem? (i := 814) (by decide +kernel)⟩
theorem lw_p34 : lw_okq (⟨"ShoesAtLawModel", "all", "()I"⟩, 20) := ⟨⟨by decide +kernel, by decide +kernel⟩, List.mem_of_getElem? (i := 685) (by decide +kernel), List.mem_of_getElem? (i := 825) (by decide +kernel), List.mem_of_getElem? (i := 826) (by decide +kernel)⟩
theorem lw_p35 : lw_okq (⟨"ShoesAtLawModel", "valued", "(II)I"⟩, 20) := ⟨⟨by decide +kernel, by decide +kernel⟩, List.mem_of_getElem? (i := 685) (by decide +kernel), List.mem_of_getElem? (i := 829) (by decide +kernel), List.mem_of_getElem? (i := 830) (by decide +kernel)⟩
theorem lw_p36 : lw_okq (⟨"ShoesAtLawModel", "goodsOf", "(I)I"⟩, 20) := ⟨⟨by decide +kernel, by decide +kernel⟩, List.mem_of_getElem? (i := 685) (by decide +kernel), List.mem_of_getElem? (i := 837) (by decide +kernel), List.mem_of_getElem? (i := 838) (by decide +kernel)⟩
theorem lw_p37 : lw_okq (⟨"ShoesAtLawModel", "remember", "()V"⟩, 20) := ⟨⟨by decide +kernel, by decide +kernel⟩, List.mem_of_getElem? (i := 685) (by decide +kernel), List.mem_of_getElem? (i := 845) (by decide +kernel), List.mem_of_getElem? (i := 846) (by decide +kernel)⟩
theorem lw_p38 : lw_okq (⟨"ShoesAtLawModel", "stepsOf", "(I)I"⟩, 20) := ⟨⟨by decide +kernel, by decide +kernel⟩, List.mem_of_getElem? (i := 685) (by decide +kernel), List.mem_of_getElem? (i := 856) (by decide +kernel), List.mem_of_getElem? (i := 857) (by decide +kernel)⟩
theorem lw_p39 : lw_okq (⟨"ShoesAtLawModel", "footOf", "(I)I"⟩, 20) := ⟨⟨by decide +kernel, by decide +kernel⟩, List.mem_of_getElem? (i := 685) (by decide +kernel), List.mem_of_getElem? (i := 860) (by decide +kernel), List.mem_of_getElem? (i := 861) (by decide +kernel)⟩
theorem lw_p40 : lw_okq (⟨"ShoesAtLawModel", "wornBy", "(III)I"⟩, 20) := ⟨⟨by decide +kernel, by decide +kernel⟩, List.mem_of_getElem? (i := 685) (by decide +kernel), List.mem_of_getElem? (i := 864) (by decide +kernel), List.mem_of_getElem? (i := 865) (by decide +kernel)⟩
theorem lw_p41 : lw_okq (⟨"ShoesAtLawModel", "envyBy", "(III)I"⟩, 20) := ⟨⟨by decide +kernel, by decide +kernel⟩, List.mem_of_getElem? (i := 685) (by decide +kernel), List.mem_of_getElem? (i := 876) (by decide +kernel), List.mem_of_getElem? (i := 877) (by decide +kernel)⟩
theorem lw_p42 : lw_okq (⟨"ShoesAtLawModel", "isFair", "(I)Z"⟩, 20) := ⟨⟨by decide +kernel, by decide +kernel⟩, List.mem_of_getElem? (i := 685) (by decide +kernel), List.mem_of_getElem? (i := 885) (by decide +kernel), List.mem_of_getElem? (i := 886) (by decide +kernel)⟩
theorem lw_p43 : lw_okq (⟨"ShoesAtLawModel", "best", "(Z)I"⟩, 20) := ⟨⟨by decide +kernel, by decide +kernel⟩, List.mem_of_getElem? (i := 685) (by decide +kernel), List.mem_of_getElem? (i := 889) (by decide +kernel), List.mem_of_getElem? (i := 890) (by decide +kernel)⟩
theorem lw_p44 : lw_okq (⟨"ShoesAtLawModel", "together", "(I)I"⟩, 20) := ⟨⟨by decide +kernel, by decide +kernel⟩, List.mem_of_getElem? (i := 685) (by decide +kernel), List.mem_of_getElem? (i := 893) (by decide +kernel), List.mem_of_getElem? (i := 894) (by decide +kernel)⟩
theorem lw_p45 : lw_okq (⟨"ShoesAtLawModel", "layTurns", "(I)V"⟩, 20) := ⟨⟨by decide +kernel, by decide +kernel⟩, List.mem_of_getElem? (i := 685) (by decide +kernel), List.mem_of_getElem? (i := 905) (by decide +kernel), List.mem_of_getElem? (i := 906) (by decide +kernel)⟩
theorem lw_p46 : lw_okq (⟨"ShoesAtLawModel", "layTake", "(III)V"⟩, 20) := ⟨⟨by decide +kernel, by decide +kernel⟩, List.mem_of_getElem? (i := 685) (by decide +kernel), List.mem_of_getElem? (i := 912) (by decide +kernel), List.mem_of_getElem? (i := 913) (by decide +kernel)⟩
theorem lw_p47 : lw_okq (⟨"ShoesAtLawModel", "gains", "(III)I"⟩, 20) := ⟨⟨by decide +kernel, by decide +kernel⟩, List.mem_of_getElem? (i := 685) (by decide +kernel), List.mem_of_getElem? (i := 920) (by decide +kernel), List.mem_of_getElem? (i := 921) (by decide +kernel)⟩
def lw_privs_3 : List (MethodName × Nat) := [(⟨"ShoesAtLawModel", "takesOne", "(III)Z"⟩, 20), (⟨"ShoesAtLawModel", "isGood", "(I)Z"⟩, 20), (⟨"ShoesAtLawModel", "all", "()I"⟩, 20), (⟨"ShoesAtLawModel", "valued", "(II)I"⟩, 20), (⟨"ShoesAtLawModel", "goodsOf", "(I)I"⟩, 20), (⟨"ShoesAtLawModel", "remember", "()V"⟩, 20), (⟨"ShoesAtLawModel", "stepsOf", "(I)I"⟩, 20), (⟨"ShoesAtLawModel", "footOf", "(I)I"⟩, 20), (⟨"ShoesAtLawModel", "wornBy", "(III)I"⟩, 20), (⟨"ShoesAtLawModel", "envyBy", "(III)I"⟩, 20), (⟨"ShoesAtLawModel", "isFair", "(I)Z"⟩, 20), (⟨"ShoesAtLawModel", "best", "(Z)I"⟩, 20), (⟨"ShoesAtLawModel", "together", "(I)I"⟩, 20), (⟨"ShoesAtLawModel", "layTurns", "(I)V"⟩, 20), (⟨"ShoesAtLawModel", "layTake", "(III)V"⟩, 20), (⟨"ShoesAtLawModel", "gains", "(III)I"⟩, 20)]
theorem lw_r3 : ∀ q ∈ lw_privs_3, lw_okq q := List.forall_mem_cons.mpr ⟨lw_p32, List.forall_mem_cons.mpr ⟨lw_p33, List.forall_mem_cons.mpr ⟨lw_p34, List.forall_mem_cons.mpr ⟨lw_p35, List.forall_mem_cons.mpr ⟨lw_p36, List.forall_mem_cons.mpr ⟨lw_p37, List.forall_mem_cons.mpr ⟨lw_p38, List.forall_mem_cons.mpr ⟨lw_p39, List.forall_mem_cons.mpr ⟨lw_p40, List.forall_mem_cons.mpr ⟨lw_p41, List.forall_mem_cons.mpr ⟨lw_p42, List.forall_mem_cons.mpr ⟨lw_p43, List.forall_mem_cons.mpr ⟨lw_p44, List.forall_mem_cons.mpr ⟨lw_p45, List.forall_mem_cons.mpr ⟨lw_p46, List.forall_mem_cons.mpr ⟨lw_p47, fun _ h => absurd h List.not_mem_nil⟩⟩⟩⟩⟩⟩⟩⟩⟩⟩⟩⟩⟩⟩⟩⟩
theorem lw_p48 : lw_okq (⟨"ShoesAtLawModel", "isCell", "(I)Z"⟩, 20) := ⟨⟨by decide +kernel, by decide +kernel⟩, List.mem_of_getElem? (i := 685) (by decide +kernel), List.mem_of_getElem? (i := 946) (by decide +kernel), List.mem_of_getElem? (i := 947) (by decide +kernel)⟩
theorem lw_p49 : lw_okq (⟨"ShoesAtLawModel", "isSo", "(I)Z"⟩, 20) := ⟨⟨by decide +kernel, by decide +kernel⟩, List.mem_of_getElem? (i := 685) (by decide +kernel), List.mem_of_getElem? (i := 967) (by decide +kernel), List.mem_of_getElem? (i := 968) (by decide +kernel)⟩
theorem lw_p50 : lw_okq (⟨"ShoesAtLawModel", "goes", "(II)V"⟩, 20) := ⟨⟨by decide +kernel, by decide +kernel⟩, List.mem_of_getElem? (i := 685) (by decide +kernel), List.mem_of_getElem? (i := 983) (by decide +kernel), List.mem_of_getElem? (i := 984) (by decide +kernel)⟩
theorem lw_p51 : lw_okq (⟨"ShoesAtLawModel", "anyOf", "(II)Z"⟩, 20) := ⟨⟨by decide +kernel, by decide +kernel⟩, List.mem_of_getElem? (i := 685) (by decide +kernel), List.mem_of_getElem? (i := 987) (by decide +kernel), List.mem_of_getElem? (i := 988) (by decide +kernel)⟩
def lw_privs_4 : List (MethodName × Nat) := [(⟨"ShoesAtLawModel", "isCell", "(I)Z"⟩, 20), (⟨"ShoesAtLawModel", "isSo", "(I)Z"⟩, 20), (⟨"ShoesAtLawModel", "goes", "(II)V"⟩, 20), (⟨"ShoesAtLawModel", "anyOf", "(II)Z"⟩, 20)]
theorem lw_r4 : ∀ q ∈ lw_privs_4, lw_okq q := List.forall_mem_cons.mpr ⟨lw_p48, List.forall_mem_cons.mpr ⟨lw_p49, List.forall_mem_cons.mpr ⟨lw_p50, List.forall_mem_cons.mpr ⟨lw_p51, fun _ h => absurd h List.not_mem_nil⟩⟩⟩⟩
def lw_privs : List (MethodName × Nat) := lw_privs_1 ++ (lw_privs_2 ++ (lw_privs_3 ++ (lw_privs_4)))
def lw_tbl : List Cond := k2_sels lw_privs ++ tables_1
theorem lw_privs_ok : ∀ q ∈ lw_privs, lw_okq q := by
  show ∀ q ∈ lw_privs_1 ++ (lw_privs_2 ++ (lw_privs_3 ++ (lw_privs_4))), lw_okq q
  exact List.forall_mem_append.mpr ⟨lw_r1, List.forall_mem_append.mpr ⟨lw_r2, List.forall_mem_append.mpr ⟨lw_r3, lw_r4⟩⟩⟩

def RX0 : String := "ShoesAtLaw$Cobbler"
def TX0 : u_T := fun k => match k with
  | _ => ("", "", "", false)
def tyX0 : Nat → FieldType := fun k => match k with
  | _ => .int
abbrev wsX00 : List Cond := u_ws RX0 TX0 0
theorem nmX0 : ∀ a, a < 0 → ∀ b, b < 0 → a ≠ b → (TX0 a).2.1 ≠ (TX0 b).2.1 := by decide +kernel
theorem tyX0_ok : ∀ k, k < 0 → parseFieldDescriptor (TX0 k).2.2.1 = some (tyX0 k) := by decide +kernel
abbrev cX0_init : ByteArray := prog_2_method_1_code
def yX0_init : MethodName := ⟨RX0, "<init>", "()V"⟩
abbrev cX0_verdict : ByteArray := prog_2_method_2_code
def yX0_verdict : MethodName := ⟨RX0, "verdict", "(LShoesAtLaw;I)I"⟩
def RX1 : String := "ShoesAtLaw$Judge"
def TX1 : u_T := fun k => match k with
  | _ => ("", "", "", false)
def tyX1 : Nat → FieldType := fun k => match k with
  | _ => .int
abbrev wsX10 : List Cond := u_ws RX1 TX1 0
theorem nmX1 : ∀ a, a < 0 → ∀ b, b < 0 → a ≠ b → (TX1 a).2.1 ≠ (TX1 b).2.1 := by decide +kernel
theorem tyX1_ok : ∀ k, k < 0 → parseFieldDescriptor (TX1 k).2.2.1 = some (tyX1 k) := by decide +kernel
abbrev cX1_init : ByteArray := prog_3_method_1_code
def yX1_init : MethodName := ⟨RX1, "<init>", "()V"⟩
abbrev cX1_verdict : ByteArray := prog_3_method_2_code
def yX1_verdict : MethodName := ⟨RX1, "verdict", "(LShoesAtLaw;I)I"⟩
def RX2 : String := "ShoesAtLaw$Master"
def TX2 : u_T := fun k => match k with
  | _ => ("", "", "", false)
def tyX2 : Nat → FieldType := fun k => match k with
  | _ => .int
abbrev wsX20 : List Cond := u_ws RX2 TX2 0
theorem nmX2 : ∀ a, a < 0 → ∀ b, b < 0 → a ≠ b → (TX2 a).2.1 ≠ (TX2 b).2.1 := by decide +kernel
theorem tyX2_ok : ∀ k, k < 0 → parseFieldDescriptor (TX2 k).2.2.1 = some (tyX2 k) := by decide +kernel
abbrev cX2_init : ByteArray := prog_4_method_1_code
def yX2_init : MethodName := ⟨RX2, "<init>", "()V"⟩
abbrev cX2_verdict : ByteArray := prog_4_method_2_code
def yX2_verdict : MethodName := ⟨RX2, "verdict", "(LShoesAtLaw;I)I"⟩
def RX3 : String := "ShoesAtLaw$Now"
def TX3 : u_T := fun k => match k with
  | 0 => ("ShoesAtLaw$Now", "owner", "[I", true)
  | 1 => ("ShoesAtLaw$Now", "feet", "[I", true)
  | 2 => ("ShoesAtLaw$Now", "stepCount", "I", false)
  | _ => ("ShoesAtLaw$Now", "filled", "Z", false)
def tyX3 : Nat → FieldType := fun k => match k with
  | 0 => .array .int
  | 1 => .array .int
  | 2 => .int
  | _ => .boolean
abbrev wsX30 : List Cond := u_ws RX3 TX3 4
theorem nmX3 : ∀ a, a < 4 → ∀ b, b < 4 → a ≠ b → (TX3 a).2.1 ≠ (TX3 b).2.1 := by decide +kernel
theorem tyX3_ok : ∀ k, k < 4 → parseFieldDescriptor (TX3 k).2.2.1 = some (tyX3 k) := by decide +kernel
abbrev cX3_init : ByteArray := prog_5_method_1_code
def yX3_init : MethodName := ⟨RX3, "<init>", "()V"⟩
abbrev cX3_begin : ByteArray := prog_5_method_2_code
def yX3_begin : MethodName := ⟨RX3, "begin", "()V"⟩
abbrev cX3_become : ByteArray := prog_5_method_3_code
def yX3_become : MethodName := ⟨RX3, "become", "(LShoesAtLaw$Now;)V"⟩
abbrev cX3_whose : ByteArray := prog_5_method_4_code
def yX3_whose : MethodName := ⟨RX3, "whose", "(I)I"⟩
abbrev cX3_put : ByteArray := prog_5_method_5_code
def yX3_put : MethodName := ⟨RX3, "put", "(II)V"⟩
abbrev cX3_setOf : ByteArray := prog_5_method_6_code
def yX3_setOf : MethodName := ⟨RX3, "setOf", "(II)I"⟩
abbrev cX3_walk : ByteArray := prog_5_method_7_code
def yX3_walk : MethodName := ⟨RX3, "walk", "(I)Z"⟩
abbrev cX3_unwalk : ByteArray := prog_5_method_8_code
def yX3_unwalk : MethodName := ⟨RX3, "unwalk", "()V"⟩
abbrev cX3_footOf : ByteArray := prog_5_method_9_code
def yX3_footOf : MethodName := ⟨RX3, "footOf", "(I)I"⟩
abbrev cX3_stepsOf : ByteArray := prog_5_method_10_code
def yX3_stepsOf : MethodName := ⟨RX3, "stepsOf", "(I)I"⟩
abbrev cX3_firstRunOver : ByteArray := prog_5_method_11_code
def yX3_firstRunOver : MethodName := ⟨RX3, "firstRunOver", "(I)I"⟩
abbrev cX3_longestRun : ByteArray := prog_5_method_12_code
def yX3_longestRun : MethodName := ⟨RX3, "longestRun", "()I"⟩
abbrev cX3_changes : ByteArray := prog_5_method_13_code
def yX3_changes : MethodName := ⟨RX3, "changes", "()I"⟩
abbrev cX3_changesAt : ByteArray := prog_5_method_14_code
def yX3_changesAt : MethodName := ⟨RX3, "changesAt", "(I)Z"⟩
def RX4 : String := "ShoesAtLaw$Partings"
def TX4 : u_T := fun k => match k with
  | 0 => ("ShoesAtLaw$Partings", "own", "[I", true)
  | 1 => ("ShoesAtLaw$Partings", "ahead", "[I", true)
  | 2 => ("ShoesAtLaw$Partings", "sum", "[I", true)
  | 3 => ("ShoesAtLaw$Partings", "found", "I", false)
  | 4 => ("ShoesAtLaw$Partings", "gain", "I", false)
  | _ => ("ShoesAtLaw$Partings", "lie", "I", false)
def tyX4 : Nat → FieldType := fun k => match k with
  | 0 => .array .int
  | 1 => .array .int
  | 2 => .array .int
  | 3 => .int
  | 4 => .int
  | _ => .int
abbrev wsX40 : List Cond := u_ws RX4 TX4 6
theorem nmX4 : ∀ a, a < 6 → ∀ b, b < 6 → a ≠ b → (TX4 a).2.1 ≠ (TX4 b).2.1 := by decide +kernel
theorem tyX4_ok : ∀ k, k < 6 → parseFieldDescriptor (TX4 k).2.2.1 = some (tyX4 k) := by decide +kernel
abbrev cX4_init : ByteArray := prog_6_method_1_code
def yX4_init : MethodName := ⟨RX4, "<init>", "()V"⟩
abbrev cX4_total : ByteArray := prog_6_method_2_code
def yX4_total : MethodName := ⟨RX4, "total", "(LShoesAtLaw$Suit;I)I"⟩
abbrev cX4_lead : ByteArray := prog_6_method_3_code
def yX4_lead : MethodName := ⟨RX4, "lead", "(LShoesAtLaw$Suit;II)I"⟩
abbrev cX4_isFair : ByteArray := prog_6_method_4_code
def yX4_isFair : MethodName := ⟨RX4, "isFair", "(LShoesAtLaw$Suit;I)Z"⟩
abbrev cX4_fairCount : ByteArray := prog_6_method_5_code
def yX4_fairCount : MethodName := ⟨RX4, "fairCount", "(LShoesAtLaw$Suit;)I"⟩
abbrev cX4_best : ByteArray := prog_6_method_6_code
def yX4_best : MethodName := ⟨RX4, "best", "(LShoesAtLaw$Suit;)I"⟩
abbrev cX4_mostTotal : ByteArray := prog_6_method_7_code
def yX4_mostTotal : MethodName := ⟨RX4, "mostTotal", "(LShoesAtLaw$Suit;)I"⟩
abbrev cX4_leftToCutter : ByteArray := prog_6_method_8_code
def yX4_leftToCutter : MethodName := ⟨RX4, "leftToCutter", "(LShoesAtLaw$Suit;II)I"⟩
abbrev cX4_bestCut : ByteArray := prog_6_method_9_code
def yX4_bestCut : MethodName := ⟨RX4, "bestCut", "(LShoesAtLaw$Suit;I)I"⟩
abbrev cX4_outcome : ByteArray := prog_6_method_10_code
def yX4_outcome : MethodName := ⟨RX4, "outcome", "(LShoesAtLaw$Suit;IIII)I"⟩
abbrev cX4_seekLie : ByteArray := prog_6_method_11_code
def yX4_seekLie : MethodName := ⟨RX4, "seekLie", "(LShoesAtLaw$Suit;I)V"⟩
abbrev cX4_listOthersFair : ByteArray := prog_6_method_12_code
def yX4_listOthersFair : MethodName := ⟨RX4, "listOthersFair", "(LShoesAtLaw$Suit;I)V"⟩
abbrev cX4_ownInBestTold : ByteArray := prog_6_method_13_code
def yX4_ownInBestTold : MethodName := ⟨RX4, "ownInBestTold", "(II)I"⟩
abbrev cX4_greatestSale : ByteArray := prog_6_method_14_code
def yX4_greatestSale : MethodName := ⟨RX4, "greatestSale", "(LShoesAtLaw$Suit;I)I"⟩
abbrev cX4_fairLots : ByteArray := prog_6_method_15_code
def yX4_fairLots : MethodName := ⟨RX4, "fairLots", "(LShoesAtLaw$Suit;I)I"⟩
def RX5 : String := "ShoesAtLaw$Reader"
def TX5 : u_T := fun k => match k with
  | 0 => ("ShoesAtLaw$Reader", "letters", "[I", true)
  | 1 => ("ShoesAtLaw$Reader", "length", "I", false)
  | 2 => ("ShoesAtLaw$Reader", "place", "I", false)
  | 3 => ("ShoesAtLaw$Reader", "tokenStart", "I", false)
  | 4 => ("ShoesAtLaw$Reader", "token", "I", false)
  | 5 => ("ShoesAtLaw$Reader", "number", "I", false)
  | 6 => ("ShoesAtLaw$Reader", "hopsTold", "Z", false)
  | _ => ("ShoesAtLaw$Reader", "cellsTold", "Z", false)
def tyX5 : Nat → FieldType := fun k => match k with
  | 0 => .array .int
  | 1 => .int
  | 2 => .int
  | 3 => .int
  | 4 => .int
  | 5 => .int
  | 6 => .boolean
  | _ => .boolean
abbrev wsX50 : List Cond := u_ws RX5 TX5 8
theorem nmX5 : ∀ a, a < 8 → ∀ b, b < 8 → a ≠ b → (TX5 a).2.1 ≠ (TX5 b).2.1 := by decide +kernel
theorem tyX5_ok : ∀ k, k < 8 → parseFieldDescriptor (TX5 k).2.2.1 = some (tyX5 k) := by decide +kernel
abbrev cX5_init : ByteArray := prog_7_method_1_code
def yX5_init : MethodName := ⟨RX5, "<init>", "()V"⟩
abbrev cX5_add : ByteArray := prog_7_method_2_code
def yX5_add : MethodName := ⟨RX5, "add", "(I)Z"⟩
abbrev cX5_empty : ByteArray := prog_7_method_3_code
def yX5_empty : MethodName := ⟨RX5, "empty", "()V"⟩
abbrev cX5_read : ByteArray := prog_7_method_4_code
def yX5_read : MethodName := ⟨RX5, "read", "(LShoesAtLaw$Suit;)I"⟩
abbrev cX5_readGood : ByteArray := prog_7_method_5_code
def yX5_readGood : MethodName := ⟨RX5, "readGood", "(LShoesAtLaw$Suit;)Z"⟩
abbrev cX5_readPair : ByteArray := prog_7_method_6_code
def yX5_readPair : MethodName := ⟨RX5, "readPair", "(LShoesAtLaw$Suit;)Z"⟩
abbrev cX5_readHops : ByteArray := prog_7_method_7_code
def yX5_readHops : MethodName := ⟨RX5, "readHops", "(LShoesAtLaw$Suit;)Z"⟩
abbrev cX5_readCells : ByteArray := prog_7_method_8_code
def yX5_readCells : MethodName := ⟨RX5, "readCells", "(LShoesAtLaw$Suit;)Z"⟩
abbrev cX5_nextNumber : ByteArray := prog_7_method_9_code
def yX5_nextNumber : MethodName := ⟨RX5, "nextNumber", "(II)Z"⟩
abbrev cX5_nextEnds : ByteArray := prog_7_method_10_code
def yX5_nextEnds : MethodName := ⟨RX5, "nextEnds", "()Z"⟩
abbrev cX5_letterAt : ByteArray := prog_7_method_11_code
def yX5_letterAt : MethodName := ⟨RX5, "letterAt", "(I)I"⟩
abbrev cX5_nextToken : ByteArray := prog_7_method_12_code
def yX5_nextToken : MethodName := ⟨RX5, "nextToken", "()V"⟩
abbrev cX5_takeNumber : ByteArray := prog_7_method_13_code
def yX5_takeNumber : MethodName := ⟨RX5, "takeNumber", "()V"⟩
abbrev cX5_isDigit : ByteArray := prog_7_method_14_code
def yX5_isDigit : MethodName := ⟨RX5, "isDigit", "(I)Z"⟩
def RX6 : String := "ShoesAtLaw$Suit"
def TX6 : u_T := fun k => match k with
  | 0 => ("ShoesAtLaw$Suit", "goods", "I", false)
  | 1 => ("ShoesAtLaw$Suit", "pairs", "I", false)
  | 2 => ("ShoesAtLaw$Suit", "hops", "I", false)
  | 3 => ("ShoesAtLaw$Suit", "cells", "I", false)
  | 4 => ("ShoesAtLaw$Suit", "worth", "[I", true)
  | 5 => ("ShoesAtLaw$Suit", "pairSet", "[I", true)
  | 6 => ("ShoesAtLaw$Suit", "more", "[I", true)
  | _ => ("ShoesAtLaw$Suit", "value", "[I", true)
def tyX6 : Nat → FieldType := fun k => match k with
  | 0 => .int
  | 1 => .int
  | 2 => .int
  | 3 => .int
  | 4 => .array .int
  | 5 => .array .int
  | 6 => .array .int
  | _ => .array .int
abbrev wsX60 : List Cond := u_ws RX6 TX6 8
theorem nmX6 : ∀ a, a < 8 → ∀ b, b < 8 → a ≠ b → (TX6 a).2.1 ≠ (TX6 b).2.1 := by decide +kernel
theorem tyX6_ok : ∀ k, k < 8 → parseFieldDescriptor (TX6 k).2.2.1 = some (tyX6 k) := by decide +kernel
abbrev cX6_init : ByteArray := prog_8_method_1_code
def yX6_init : MethodName := ⟨RX6, "<init>", "()V"⟩
abbrev cX6_begin : ByteArray := prog_8_method_2_code
def yX6_begin : MethodName := ⟨RX6, "begin", "()V"⟩
abbrev cX6_addGood : ByteArray := prog_8_method_3_code
def yX6_addGood : MethodName := ⟨RX6, "addGood", "(II)V"⟩
abbrev cX6_addPair : ByteArray := prog_8_method_4_code
def yX6_addPair : MethodName := ⟨RX6, "addPair", "(III)V"⟩
abbrev cX6_weigh : ByteArray := prog_8_method_5_code
def yX6_weigh : MethodName := ⟨RX6, "weigh", "()V"⟩
abbrev cX6_all : ByteArray := prog_8_method_6_code
def yX6_all : MethodName := ⟨RX6, "all", "()I"⟩
abbrev cX6_worthOf : ByteArray := prog_8_method_7_code
def yX6_worthOf : MethodName := ⟨RX6, "worthOf", "(II)I"⟩
abbrev cX6_worthAlone : ByteArray := prog_8_method_8_code
def yX6_worthAlone : MethodName := ⟨RX6, "worthAlone", "(II)I"⟩
abbrev cX6_moreOf : ByteArray := prog_8_method_9_code
def yX6_moreOf : MethodName := ⟨RX6, "moreOf", "(II)I"⟩
abbrev cX6_valueOf : ByteArray := prog_8_method_10_code
def yX6_valueOf : MethodName := ⟨RX6, "valueOf", "(II)I"⟩
abbrev cX6_ownIn : ByteArray := prog_8_method_11_code
def yX6_ownIn : MethodName := ⟨RX6, "ownIn", "(II)I"⟩
abbrev cX6_cellBehind : ByteArray := prog_8_method_12_code
def yX6_cellBehind : MethodName := ⟨RX6, "cellBehind", "(I)I"⟩
abbrev cX6_wear : ByteArray := prog_8_method_13_code
def yX6_wear : MethodName := ⟨RX6, "wear", "(II)I"⟩
def RX7 : String := "ShoesAtLaw$Third"
def TX7 : u_T := fun k => match k with
  | _ => ("", "", "", false)
def tyX7 : Nat → FieldType := fun k => match k with
  | _ => .int
abbrev wsX70 : List Cond := u_ws RX7 TX7 0
theorem nmX7 : ∀ a, a < 0 → ∀ b, b < 0 → a ≠ b → (TX7 a).2.1 ≠ (TX7 b).2.1 := by decide +kernel
theorem tyX7_ok : ∀ k, k < 0 → parseFieldDescriptor (TX7 k).2.2.1 = some (tyX7 k) := by decide +kernel
abbrev cX7_init : ByteArray := prog_9_method_1_code
def yX7_init : MethodName := ⟨RX7, "<init>", "()V"⟩
abbrev cX7_verdict : ByteArray := prog_9_method_2_code
def yX7_verdict : MethodName := ⟨RX7, "verdict", "(LShoesAtLaw;I)I"⟩
def RX8 : String := "ShoesAtLaw$Torn"
def TX8 : u_T := fun k => match k with
  | _ => ("", "", "", false)
def tyX8 : Nat → FieldType := fun k => match k with
  | _ => .int
abbrev wsX80 : List Cond := u_ws RX8 TX8 0
theorem nmX8 : ∀ a, a < 0 → ∀ b, b < 0 → a ≠ b → (TX8 a).2.1 ≠ (TX8 b).2.1 := by decide +kernel
theorem tyX8_ok : ∀ k, k < 0 → parseFieldDescriptor (TX8 k).2.2.1 = some (tyX8 k) := by decide +kernel
abbrev cX8_init : ByteArray := prog_10_method_1_code
def yX8_init : MethodName := ⟨RX8, "<init>", "()V"⟩
abbrev cX8_verdict : ByteArray := prog_10_method_2_code
def yX8_verdict : MethodName := ⟨RX8, "verdict", "(LShoesAtLaw;I)I"⟩
def RX9 : String := "ShoesAtLaw$Umbrella"
def TX9 : u_T := fun k => match k with
  | _ => ("", "", "", false)
def tyX9 : Nat → FieldType := fun k => match k with
  | _ => .int
abbrev wsX90 : List Cond := u_ws RX9 TX9 0
theorem nmX9 : ∀ a, a < 0 → ∀ b, b < 0 → a ≠ b → (TX9 a).2.1 ≠ (TX9 b).2.1 := by decide +kernel
theorem tyX9_ok : ∀ k, k < 0 → parseFieldDescriptor (TX9 k).2.2.1 = some (tyX9 k) := by decide +kernel
abbrev cX9_init : ByteArray := prog_11_method_1_code
def yX9_init : MethodName := ⟨RX9, "<init>", "()V"⟩
abbrev cX9_verdict : ByteArray := prog_11_method_2_code
def yX9_verdict : MethodName := ⟨RX9, "verdict", "(LShoesAtLaw;I)I"⟩
def RX10 : String := "ShoesAtLaw"
def TX10 : u_T := fun k => match k with
  | 0 => ("ShoesAtLaw", "text", "LShoesAtLaw$Reader;", true)
  | 1 => ("ShoesAtLaw", "told", "LShoesAtLaw$Suit;", false)
  | 2 => ("ShoesAtLaw", "draft", "LShoesAtLaw$Suit;", false)
  | 3 => ("ShoesAtLaw", "present", "LShoesAtLaw$Now;", true)
  | 4 => ("ShoesAtLaw", "firstImage", "LShoesAtLaw$Now;", true)
  | 5 => ("ShoesAtLaw", "secondImage", "LShoesAtLaw$Now;", true)
  | 6 => ("ShoesAtLaw", "partings", "LShoesAtLaw$Partings;", true)
  | 7 => ("ShoesAtLaw", "kinds", "[LShoesAtLaw$Judge;", true)
  | 8 => ("ShoesAtLaw", "deeds", "[I", true)
  | 9 => ("ShoesAtLaw", "deedCount", "I", false)
  | 10 => ("ShoesAtLaw", "seenFoot", "[I", true)
  | 11 => ("ShoesAtLaw", "seenCell", "[I", true)
  | 12 => ("ShoesAtLaw", "seenWear", "[I", true)
  | 13 => ("ShoesAtLaw", "seenCount", "I", false)
  | _ => ("ShoesAtLaw", "theTrace", "J", false)
def tyX10 : Nat → FieldType := fun k => match k with
  | 0 => .object "ShoesAtLaw$Reader"
  | 1 => .object "ShoesAtLaw$Suit"
  | 2 => .object "ShoesAtLaw$Suit"
  | 3 => .object "ShoesAtLaw$Now"
  | 4 => .object "ShoesAtLaw$Now"
  | 5 => .object "ShoesAtLaw$Now"
  | 6 => .object "ShoesAtLaw$Partings"
  | 7 => .array (.object "ShoesAtLaw$Judge")
  | 8 => .array .int
  | 9 => .int
  | 10 => .array .int
  | 11 => .array .int
  | 12 => .array .int
  | 13 => .int
  | _ => .long
abbrev wsX100 : List Cond := u_ws RX10 TX10 15
theorem nmX10 : ∀ a, a < 15 → ∀ b, b < 15 → a ≠ b → (TX10 a).2.1 ≠ (TX10 b).2.1 := by decide +kernel
theorem tyX10_ok : ∀ k, k < 15 → parseFieldDescriptor (TX10 k).2.2.1 = some (tyX10 k) := by decide +kernel
abbrev cX10_init : ByteArray := prog_1_method_1_code
def yX10_init : MethodName := ⟨RX10, "<init>", "()V"⟩
abbrev cX10_type : ByteArray := prog_1_method_2_code
def yX10_type : MethodName := ⟨RX10, "type", "(I)I"⟩
abbrev cX10_clear : ByteArray := prog_1_method_3_code
def yX10_clear : MethodName := ⟨RX10, "clear", "()I"⟩
abbrev cX10_suit : ByteArray := prog_1_method_4_code
def yX10_suit : MethodName := ⟨RX10, "suit", "()I"⟩
abbrev cX10_good : ByteArray := prog_1_method_5_code
def yX10_good : MethodName := ⟨RX10, "good", "(II)I"⟩
abbrev cX10_values : ByteArray := prog_1_method_6_code
def yX10_values : MethodName := ⟨RX10, "values", "(II)I"⟩
abbrev cX10_now : ByteArray := prog_1_method_7_code
def yX10_now : MethodName := ⟨RX10, "now", "(I)I"⟩
abbrev cX10_gives : ByteArray := prog_1_method_8_code
def yX10_gives : MethodName := ⟨RX10, "gives", "(II)I"⟩
abbrev cX10_steps : ByteArray := prog_1_method_9_code
def yX10_steps : MethodName := ⟨RX10, "steps", "(I)I"⟩
abbrev cX10_undo : ByteArray := prog_1_method_10_code
def yX10_undo : MethodName := ⟨RX10, "undo", "()I"⟩
abbrev cX10_envy : ByteArray := prog_1_method_11_code
def yX10_envy : MethodName := ⟨RX10, "envy", "(I)I"⟩
abbrev cX10_fair : ByteArray := prog_1_method_12_code
def yX10_fair : MethodName := ⟨RX10, "fair", "(I)I"⟩
abbrev cX10_cut : ByteArray := prog_1_method_13_code
def yX10_cut : MethodName := ⟨RX10, "cut", "(II)I"⟩
abbrev cX10_byTurns : ByteArray := prog_1_method_14_code
def yX10_byTurns : MethodName := ⟨RX10, "byTurns", "(II)I"⟩
abbrev cX10_lies : ByteArray := prog_1_method_15_code
def yX10_lies : MethodName := ⟨RX10, "lies", "(II)I"⟩
abbrev cX10_sell : ByteArray := prog_1_method_16_code
def yX10_sell : MethodName := ⟨RX10, "sell", "(I)I"⟩
abbrev cX10_adds : ByteArray := prog_1_method_17_code
def yX10_adds : MethodName := ⟨RX10, "adds", "(I)I"⟩
abbrev cX10_odds : ByteArray := prog_1_method_18_code
def yX10_odds : MethodName := ⟨RX10, "odds", "(II)I"⟩
abbrev cX10_foot : ByteArray := prog_1_method_19_code
def yX10_foot : MethodName := ⟨RX10, "foot", "(I)I"⟩
abbrev cX10_worn : ByteArray := prog_1_method_20_code
def yX10_worn : MethodName := ⟨RX10, "worn", "(II)I"⟩
abbrev cX10_judge : ByteArray := prog_1_method_21_code
def yX10_judge : MethodName := ⟨RX10, "judge", "(I)I"⟩
abbrev cX10_saw : ByteArray := prog_1_method_22_code
def yX10_saw : MethodName := ⟨RX10, "saw", "(III)I"⟩
abbrev cX10_forget : ByteArray := prog_1_method_23_code
def yX10_forget : MethodName := ⟨RX10, "forget", "()I"⟩
abbrev cX10_wrong : ByteArray := prog_1_method_24_code
def yX10_wrong : MethodName := ⟨RX10, "wrong", "(I)I"⟩
abbrev cX10_asTold : ByteArray := prog_1_method_25_code
def yX10_asTold : MethodName := ⟨RX10, "asTold", "()I"⟩
abbrev cX10_soonest : ByteArray := prog_1_method_26_code
def yX10_soonest : MethodName := ⟨RX10, "soonest", "(III)I"⟩
abbrev cX10_rate : ByteArray := prog_1_method_27_code
def yX10_rate : MethodName := ⟨RX10, "rate", "(II)I"⟩
abbrev cX10_keep : ByteArray := prog_1_method_28_code
def yX10_keep : MethodName := ⟨RX10, "keep", "(I)I"⟩
abbrev cX10_back : ByteArray := prog_1_method_29_code
def yX10_back : MethodName := ⟨RX10, "back", "(I)I"⟩
abbrev cX10_count : ByteArray := prog_1_method_30_code
def yX10_count : MethodName := ⟨RX10, "count", "(I)I"⟩
abbrev cX10_trace : ByteArray := prog_1_method_31_code
def yX10_trace : MethodName := ⟨RX10, "trace", "()J"⟩
abbrev cX10_beginAnew : ByteArray := prog_1_method_32_code
def yX10_beginAnew : MethodName := ⟨RX10, "beginAnew", "()V"⟩
abbrev cX10_isGood : ByteArray := prog_1_method_33_code
def yX10_isGood : MethodName := ⟨RX10, "isGood", "(I)Z"⟩
abbrev cX10_isCell : ByteArray := prog_1_method_34_code
def yX10_isCell : MethodName := ⟨RX10, "isCell", "(I)Z"⟩
abbrev cX10_isSide : ByteArray := prog_1_method_35_code
def yX10_isSide : MethodName := ⟨RX10, "isSide", "(I)Z"⟩
abbrev cX10_imageOf : ByteArray := prog_1_method_36_code
def yX10_imageOf : MethodName := ⟨RX10, "imageOf", "(I)LShoesAtLaw$Now;"⟩
abbrev cX10_remember : ByteArray := prog_1_method_37_code
def yX10_remember : MethodName := ⟨RX10, "remember", "(I)V"⟩
abbrev cX10_ownValue : ByteArray := prog_1_method_38_code
def yX10_ownValue : MethodName := ⟨RX10, "ownValue", "(I)I"⟩
abbrev cX10_envyOf : ByteArray := prog_1_method_39_code
def yX10_envyOf : MethodName := ⟨RX10, "envyOf", "(I)I"⟩
abbrev cX10_agrees : ByteArray := prog_1_method_40_code
def yX10_agrees : MethodName := ⟨RX10, "agrees", "(II)Z"⟩
abbrev cX10_canBeWalked : ByteArray := prog_1_method_41_code
def yX10_canBeWalked : MethodName := ⟨RX10, "canBeWalked", "(II)Z"⟩
abbrev cX10_power : ByteArray := prog_1_method_42_code
def yX10_power : MethodName := ⟨RX10, "power", "(II)I"⟩
abbrev cX10_greatestDivisor : ByteArray := prog_1_method_43_code
def yX10_greatestDivisor : MethodName := ⟨RX10, "greatestDivisor", "(II)I"⟩
def RX11 : String := "ShoesAtLawModel"
def TX11 : u_T := fun k => match k with
  | 0 => ("ShoesAtLawModel", "suit", "[I", true)
  | 1 => ("ShoesAtLawModel", "read", "[I", true)
  | 2 => ("ShoesAtLawModel", "now", "[I", true)
  | 3 => ("ShoesAtLawModel", "past", "[I", true)
  | 4 => ("ShoesAtLawModel", "undos", "I", false)
  | 5 => ("ShoesAtLawModel", "images", "[I", true)
  | 6 => ("ShoesAtLawModel", "kept", "[Z", true)
  | 7 => ("ShoesAtLawModel", "text", "[I", true)
  | 8 => ("ShoesAtLawModel", "size", "I", false)
  | 9 => ("ShoesAtLawModel", "seen", "[I", true)
  | 10 => ("ShoesAtLawModel", "seenMany", "I", false)
  | 11 => ("ShoesAtLawModel", "trace", "J", false)
  | 12 => ("ShoesAtLawModel", "at", "I", false)
  | 13 => ("ShoesAtLawModel", "begin", "I", false)
  | 14 => ("ShoesAtLawModel", "met", "I", false)
  | 15 => ("ShoesAtLawModel", "ends", "[I", true)
  | 16 => ("ShoesAtLawModel", "endsRight", "[I", true)
  | 17 => ("ShoesAtLawModel", "takes", "[I", true)
  | 18 => ("ShoesAtLawModel", "can", "[Z", true)
  | _ => ("ShoesAtLawModel", "then", "[Z", true)
def tyX11 : Nat → FieldType := fun k => match k with
  | 0 => .array .int
  | 1 => .array .int
  | 2 => .array .int
  | 3 => .array .int
  | 4 => .int
  | 5 => .array .int
  | 6 => .array .boolean
  | 7 => .array .int
  | 8 => .int
  | 9 => .array .int
  | 10 => .int
  | 11 => .long
  | 12 => .int
  | 13 => .int
  | 14 => .int
  | 15 => .array .int
  | 16 => .array .int
  | 17 => .array .int
  | 18 => .array .boolean
  | _ => .array .boolean
abbrev wsX110 : List Cond := u_ws RX11 TX11 20
theorem nmX11 : ∀ a, a < 20 → ∀ b, b < 20 → a ≠ b → (TX11 a).2.1 ≠ (TX11 b).2.1 := by decide +kernel
theorem tyX11_ok : ∀ k, k < 20 → parseFieldDescriptor (TX11 k).2.2.1 = some (tyX11 k) := by decide +kernel
abbrev cX11_init : ByteArray := prog_13_method_1_code
def yX11_init : MethodName := ⟨RX11, "<init>", "()V"⟩
abbrev cX11_in : ByteArray := prog_13_method_3_code
def yX11_in : MethodName := ⟨RX11, "in", "(JJJ)Z"⟩
abbrev cX11_isTwo : ByteArray := prog_13_method_4_code
def yX11_isTwo : MethodName := ⟨RX11, "isTwo", "(I)Z"⟩
abbrev cX11_has : ByteArray := prog_13_method_5_code
def yX11_has : MethodName := ⟨RX11, "has", "(II)Z"⟩
abbrev cX11_bits : ByteArray := prog_13_method_6_code
def yX11_bits : MethodName := ⟨RX11, "bits", "(I)I"⟩
abbrev cX11_clean : ByteArray := prog_13_method_7_code
def yX11_clean : MethodName := ⟨RX11, "clean", "([I)V"⟩
abbrev cX11_begins : ByteArray := prog_13_method_8_code
def yX11_begins : MethodName := ⟨RX11, "begins", "()V"⟩
abbrev cX11_type : ByteArray := prog_13_method_9_code
def yX11_type : MethodName := ⟨RX11, "type", "(I)I"⟩
abbrev cX11_clear : ByteArray := prog_13_method_10_code
def yX11_clear : MethodName := ⟨RX11, "clear", "()I"⟩
abbrev cX11_first : ByteArray := prog_13_method_11_code
def yX11_first : MethodName := ⟨RX11, "first", "()I"⟩
abbrev cX11_number : ByteArray := prog_13_method_12_code
def yX11_number : MethodName := ⟨RX11, "number", "(III)Z"⟩
abbrev cX11_ends : ByteArray := prog_13_method_13_code
def yX11_ends : MethodName := ⟨RX11, "ends", "()Z"⟩
abbrev cX11_takesGood : ByteArray := prog_13_method_14_code
def yX11_takesGood : MethodName := ⟨RX11, "takesGood", "()Z"⟩
abbrev cX11_takesPair : ByteArray := prog_13_method_15_code
def yX11_takesPair : MethodName := ⟨RX11, "takesPair", "()Z"⟩
abbrev cX11_takesOne : ByteArray := prog_13_method_16_code
def yX11_takesOne : MethodName := ⟨RX11, "takesOne", "(III)Z"⟩
abbrev cX11_takesItem : ByteArray := prog_13_method_17_code
def yX11_takesItem : MethodName := ⟨RX11, "takesItem", "(I)Z"⟩
abbrev cX11_suit : ByteArray := prog_13_method_18_code
def yX11_suit : MethodName := ⟨RX11, "suit", "()I"⟩
abbrev cX11_isGood : ByteArray := prog_13_method_19_code
def yX11_isGood : MethodName := ⟨RX11, "isGood", "(I)Z"⟩
abbrev cX11_all : ByteArray := prog_13_method_20_code
def yX11_all : MethodName := ⟨RX11, "all", "()I"⟩
abbrev cX11_valued : ByteArray := prog_13_method_21_code
def yX11_valued : MethodName := ⟨RX11, "valued", "(II)I"⟩
abbrev cX11_goodsOf : ByteArray := prog_13_method_22_code
def yX11_goodsOf : MethodName := ⟨RX11, "goodsOf", "(I)I"⟩
abbrev cX11_good : ByteArray := prog_13_method_23_code
def yX11_good : MethodName := ⟨RX11, "good", "(II)I"⟩
abbrev cX11_values : ByteArray := prog_13_method_24_code
def yX11_values : MethodName := ⟨RX11, "values", "(II)I"⟩
abbrev cX11_now : ByteArray := prog_13_method_25_code
def yX11_now : MethodName := ⟨RX11, "now", "(I)I"⟩
abbrev cX11_copies : ByteArray := prog_13_method_26_code
def yX11_copies : MethodName := ⟨RX11, "copies", "([II[II)V"⟩
abbrev cX11_remember : ByteArray := prog_13_method_27_code
def yX11_remember : MethodName := ⟨RX11, "remember", "()V"⟩
abbrev cX11_gives : ByteArray := prog_13_method_28_code
def yX11_gives : MethodName := ⟨RX11, "gives", "(II)I"⟩
abbrev cX11_footOf : ByteArray := prog_13_method_29_code
def yX11_footOf : MethodName := ⟨RX11, "footOf", "(I)I"⟩
abbrev cX11_wornBy : ByteArray := prog_13_method_30_code
def yX11_wornBy : MethodName := ⟨RX11, "wornBy", "(III)I"⟩
abbrev cX11_stepsOf : ByteArray := prog_13_method_31_code
def yX11_stepsOf : MethodName := ⟨RX11, "stepsOf", "(I)I"⟩
abbrev cX11_steps : ByteArray := prog_13_method_32_code
def yX11_steps : MethodName := ⟨RX11, "steps", "(I)I"⟩
abbrev cX11_undo : ByteArray := prog_13_method_33_code
def yX11_undo : MethodName := ⟨RX11, "undo", "()I"⟩
abbrev cX11_envyBy : ByteArray := prog_13_method_34_code
def yX11_envyBy : MethodName := ⟨RX11, "envyBy", "(III)I"⟩
abbrev cX11_envy : ByteArray := prog_13_method_35_code
def yX11_envy : MethodName := ⟨RX11, "envy", "(I)I"⟩
abbrev cX11_isFair : ByteArray := prog_13_method_36_code
def yX11_isFair : MethodName := ⟨RX11, "isFair", "(I)Z"⟩
abbrev cX11_together : ByteArray := prog_13_method_37_code
def yX11_together : MethodName := ⟨RX11, "together", "(I)I"⟩
abbrev cX11_best : ByteArray := prog_13_method_38_code
def yX11_best : MethodName := ⟨RX11, "best", "(Z)I"⟩
abbrev cX11_fair : ByteArray := prog_13_method_39_code
def yX11_fair : MethodName := ⟨RX11, "fair", "(I)I"⟩
abbrev cX11_cut : ByteArray := prog_13_method_40_code
def yX11_cut : MethodName := ⟨RX11, "cut", "(II)I"⟩
abbrev cX11_layTurns : ByteArray := prog_13_method_41_code
def yX11_layTurns : MethodName := ⟨RX11, "layTurns", "(I)V"⟩
abbrev cX11_layTake : ByteArray := prog_13_method_42_code
def yX11_layTake : MethodName := ⟨RX11, "layTake", "(III)V"⟩
abbrev cX11_byTurns : ByteArray := prog_13_method_43_code
def yX11_byTurns : MethodName := ⟨RX11, "byTurns", "(II)I"⟩
abbrev cX11_gains : ByteArray := prog_13_method_44_code
def yX11_gains : MethodName := ⟨RX11, "gains", "(III)I"⟩
abbrev cX11_lies : ByteArray := prog_13_method_45_code
def yX11_lies : MethodName := ⟨RX11, "lies", "(II)I"⟩
abbrev cX11_sell : ByteArray := prog_13_method_46_code
def yX11_sell : MethodName := ⟨RX11, "sell", "(I)I"⟩
abbrev cX11_adds : ByteArray := prog_13_method_47_code
def yX11_adds : MethodName := ⟨RX11, "adds", "(I)I"⟩
abbrev cX11_odds : ByteArray := prog_13_method_48_code
def yX11_odds : MethodName := ⟨RX11, "odds", "(II)I"⟩
abbrev cX11_foot : ByteArray := prog_13_method_49_code
def yX11_foot : MethodName := ⟨RX11, "foot", "(I)I"⟩
abbrev cX11_isCell : ByteArray := prog_13_method_50_code
def yX11_isCell : MethodName := ⟨RX11, "isCell", "(I)Z"⟩
abbrev cX11_worn : ByteArray := prog_13_method_51_code
def yX11_worn : MethodName := ⟨RX11, "worn", "(II)I"⟩
abbrev cX11_judge : ByteArray := prog_13_method_52_code
def yX11_judge : MethodName := ⟨RX11, "judge", "(I)I"⟩
abbrev cX11_saw : ByteArray := prog_13_method_53_code
def yX11_saw : MethodName := ⟨RX11, "saw", "(III)I"⟩
abbrev cX11_forget : ByteArray := prog_13_method_54_code
def yX11_forget : MethodName := ⟨RX11, "forget", "()I"⟩
abbrev cX11_isSo : ByteArray := prog_13_method_55_code
def yX11_isSo : MethodName := ⟨RX11, "isSo", "(I)Z"⟩
abbrev cX11_wrong : ByteArray := prog_13_method_56_code
def yX11_wrong : MethodName := ⟨RX11, "wrong", "(I)I"⟩
abbrev cX11_asTold : ByteArray := prog_13_method_57_code
def yX11_asTold : MethodName := ⟨RX11, "asTold", "()I"⟩
abbrev cX11_place : ByteArray := prog_13_method_58_code
def yX11_place : MethodName := ⟨RX11, "place", "(III)I"⟩
abbrev cX11_goes : ByteArray := prog_13_method_59_code
def yX11_goes : MethodName := ⟨RX11, "goes", "(II)V"⟩
abbrev cX11_anyOf : ByteArray := prog_13_method_60_code
def yX11_anyOf : MethodName := ⟨RX11, "anyOf", "(II)Z"⟩
abbrev cX11_soonest : ByteArray := prog_13_method_61_code
def yX11_soonest : MethodName := ⟨RX11, "soonest", "(III)I"⟩
abbrev cX11_rate : ByteArray := prog_13_method_62_code
def yX11_rate : MethodName := ⟨RX11, "rate", "(II)I"⟩
abbrev cX11_keep : ByteArray := prog_13_method_63_code
def yX11_keep : MethodName := ⟨RX11, "keep", "(I)I"⟩
abbrev cX11_back : ByteArray := prog_13_method_64_code
def yX11_back : MethodName := ⟨RX11, "back", "(I)I"⟩
abbrev cX11_count : ByteArray := prog_13_method_65_code
def yX11_count : MethodName := ⟨RX11, "count", "(I)I"⟩
abbrev cX11_trace : ByteArray := prog_13_method_66_code
def yX11_trace : MethodName := ⟨RX11, "trace", "()J"⟩
def RJ6 : String := "java/lang/Integer"
def TJ6 : u_T := fun k => match k with
  | _ => ("", "", "", false)
def tyJ6 : Nat → FieldType := fun k => match k with
  | _ => .int
abbrev wsJ60 : List Cond := u_ws RJ6 TJ6 0
theorem nmJ6 : ∀ a, a < 0 → ∀ b, b < 0 → a ≠ b → (TJ6 a).2.1 ≠ (TJ6 b).2.1 := by decide +kernel
theorem tyJ6_ok : ∀ k, k < 0 → parseFieldDescriptor (TJ6 k).2.2.1 = some (tyJ6 k) := by decide +kernel
abbrev cJ6_bitCount_0f7a4 : ByteArray := prog_14_method_49_code
def yJ6_bitCount_0f7a4 : MethodName := ⟨RJ6, "bitCount", "(I)I"⟩
def RJ9 : String := "java/lang/Math"
def TJ9 : u_T := fun k => match k with
  | _ => ("", "", "", false)
def tyJ9 : Nat → FieldType := fun k => match k with
  | _ => .int
abbrev wsJ90 : List Cond := u_ws RJ9 TJ9 0
theorem nmJ9 : ∀ a, a < 0 → ∀ b, b < 0 → a ≠ b → (TJ9 a).2.1 ≠ (TJ9 b).2.1 := by decide +kernel
theorem tyJ9_ok : ∀ k, k < 0 → parseFieldDescriptor (TJ9 k).2.2.1 = some (tyJ9 k) := by decide +kernel
abbrev cJ9_max_7cf53 : ByteArray := prog_15_method_65_code
def yJ9_max_7cf53 : MethodName := ⟨RJ9, "max", "(II)I"⟩
abbrev cJ9_min_7cf53 : ByteArray := prog_15_method_69_code
def yJ9_min_7cf53 : MethodName := ⟨RJ9, "min", "(II)I"⟩
def RJ10 : String := "java/lang/System"
def TJ10 : u_T := fun k => match k with
  | _ => ("", "", "", false)
def tyJ10 : Nat → FieldType := fun k => match k with
  | _ => .int
abbrev wsJ100 : List Cond := u_ws RJ10 TJ10 0
theorem nmJ10 : ∀ a, a < 0 → ∀ b, b < 0 → a ≠ b → (TJ10 a).2.1 ≠ (TJ10 b).2.1 := by decide +kernel
theorem tyJ10_ok : ∀ k, k < 0 → parseFieldDescriptor (TJ10 k).2.2.1 = some (tyJ10 k) := by decide +kernel
def RL : String := "ShoesAtLawLaw"
abbrev cL_law : ByteArray := code
def yL_law : MethodName := ⟨RL, "law", "([I)Z"⟩
abbrev vwCl : List vw_C := [(RX0, TX0, 0), (RX1, TX1, 0), (RX2, TX2, 0), (RX3, TX3, 4), (RX4, TX4, 6), (RX5, TX5, 8), (RX6, TX6, 8), (RX7, TX7, 0), (RX8, TX8, 0), (RX9, TX9, 0), (RX10, TX10, 15), (RX11, TX11, 20)]
/-- a method's card: name, code, locals, answer -/
abbrev aM : Type := MethodName × ByteArray × Nat × Option FieldType
abbrev kX0_init : aM := (yX0_init, cX0_init, 1, none)
abbrev kX0_verdict : aM := (yX0_verdict, cX0_verdict, 3, (some .int))
abbrev kX1_init : aM := (yX1_init, cX1_init, 1, none)
abbrev kX1_verdict : aM := (yX1_verdict, cX1_verdict, 3, (some .int))
abbrev kX2_init : aM := (yX2_init, cX2_init, 1, none)
abbrev kX2_verdict : aM := (yX2_verdict, cX2_verdict, 3, (some .int))
abbrev kX3_init : aM := (yX3_init, cX3_init, 1, none)
abbrev kX3_begin : aM := (yX3_begin, cX3_begin, 2, none)
abbrev kX3_become : aM := (yX3_become, cX3_become, 2, none)
abbrev kX3_whose : aM := (yX3_whose, cX3_whose, 2, (some .int))
abbrev kX3_put : aM := (yX3_put, cX3_put, 3, none)
abbrev kX3_setOf : aM := (yX3_setOf, cX3_setOf, 5, (some .int))
abbrev kX3_walk : aM := (yX3_walk, cX3_walk, 2, (some .boolean))
abbrev kX3_unwalk : aM := (yX3_unwalk, cX3_unwalk, 1, none)
abbrev kX3_footOf : aM := (yX3_footOf, cX3_footOf, 2, (some .int))
abbrev kX3_stepsOf : aM := (yX3_stepsOf, cX3_stepsOf, 4, (some .int))
abbrev kX3_firstRunOver : aM := (yX3_firstRunOver, cX3_firstRunOver, 4, (some .int))
abbrev kX3_longestRun : aM := (yX3_longestRun, cX3_longestRun, 4, (some .int))
abbrev kX3_changes : aM := (yX3_changes, cX3_changes, 3, (some .int))
abbrev kX3_changesAt : aM := (yX3_changesAt, cX3_changesAt, 2, (some .boolean))
abbrev kX4_init : aM := (yX4_init, cX4_init, 1, none)
abbrev kX4_total : aM := (yX4_total, cX4_total, 3, (some .int))
abbrev kX4_lead : aM := (yX4_lead, cX4_lead, 5, (some .int))
abbrev kX4_isFair : aM := (yX4_isFair, cX4_isFair, 3, (some .boolean))
abbrev kX4_fairCount : aM := (yX4_fairCount, cX4_fairCount, 4, (some .int))
abbrev kX4_best : aM := (yX4_best, cX4_best, 6, (some .int))
abbrev kX4_mostTotal : aM := (yX4_mostTotal, cX4_mostTotal, 4, (some .int))
abbrev kX4_leftToCutter : aM := (yX4_leftToCutter, cX4_leftToCutter, 6, (some .int))
abbrev kX4_bestCut : aM := (yX4_bestCut, cX4_bestCut, 7, (some .int))
abbrev kX4_outcome : aM := (yX4_outcome, cX4_outcome, 13, (some .int))
abbrev kX4_seekLie : aM := (yX4_seekLie, cX4_seekLie, 8, none)
abbrev kX4_listOthersFair : aM := (yX4_listOthersFair, cX4_listOthersFair, 4, none)
abbrev kX4_ownInBestTold : aM := (yX4_ownInBestTold, cX4_ownInBestTold, 9, (some .int))
abbrev kX4_greatestSale : aM := (yX4_greatestSale, cX4_greatestSale, 7, (some .int))
abbrev kX4_fairLots : aM := (yX4_fairLots, cX4_fairLots, 6, (some .int))
abbrev kX5_init : aM := (yX5_init, cX5_init, 1, none)
abbrev kX5_add : aM := (yX5_add, cX5_add, 2, (some .boolean))
abbrev kX5_empty : aM := (yX5_empty, cX5_empty, 1, none)
abbrev kX5_read : aM := (yX5_read, cX5_read, 4, (some .int))
abbrev kX5_readGood : aM := (yX5_readGood, cX5_readGood, 3, (some .boolean))
abbrev kX5_readPair : aM := (yX5_readPair, cX5_readPair, 5, (some .boolean))
abbrev kX5_readHops : aM := (yX5_readHops, cX5_readHops, 2, (some .boolean))
abbrev kX5_readCells : aM := (yX5_readCells, cX5_readCells, 2, (some .boolean))
abbrev kX5_nextNumber : aM := (yX5_nextNumber, cX5_nextNumber, 3, (some .boolean))
abbrev kX5_nextEnds : aM := (yX5_nextEnds, cX5_nextEnds, 1, (some .boolean))
abbrev kX5_letterAt : aM := (yX5_letterAt, cX5_letterAt, 2, (some .int))
abbrev kX5_nextToken : aM := (yX5_nextToken, cX5_nextToken, 1, none)
abbrev kX5_takeNumber : aM := (yX5_takeNumber, cX5_takeNumber, 2, none)
abbrev kX5_isDigit : aM := (yX5_isDigit, cX5_isDigit, 1, (some .boolean))
abbrev kX6_init : aM := (yX6_init, cX6_init, 1, none)
abbrev kX6_begin : aM := (yX6_begin, cX6_begin, 1, none)
abbrev kX6_addGood : aM := (yX6_addGood, cX6_addGood, 3, none)
abbrev kX6_addPair : aM := (yX6_addPair, cX6_addPair, 4, none)
abbrev kX6_weigh : aM := (yX6_weigh, cX6_weigh, 3, none)
abbrev kX6_all : aM := (yX6_all, cX6_all, 1, (some .int))
abbrev kX6_worthOf : aM := (yX6_worthOf, cX6_worthOf, 3, (some .int))
abbrev kX6_worthAlone : aM := (yX6_worthAlone, cX6_worthAlone, 5, (some .int))
abbrev kX6_moreOf : aM := (yX6_moreOf, cX6_moreOf, 5, (some .int))
abbrev kX6_valueOf : aM := (yX6_valueOf, cX6_valueOf, 3, (some .int))
abbrev kX6_ownIn : aM := (yX6_ownIn, cX6_ownIn, 3, (some .int))
abbrev kX6_cellBehind : aM := (yX6_cellBehind, cX6_cellBehind, 2, (some .int))
abbrev kX6_wear : aM := (yX6_wear, cX6_wear, 3, (some .int))
abbrev kX7_init : aM := (yX7_init, cX7_init, 1, none)
abbrev kX7_verdict : aM := (yX7_verdict, cX7_verdict, 3, (some .int))
abbrev kX8_init : aM := (yX8_init, cX8_init, 1, none)
abbrev kX8_verdict : aM := (yX8_verdict, cX8_verdict, 3, (some .int))
abbrev kX9_init : aM := (yX9_init, cX9_init, 1, none)
abbrev kX9_verdict : aM := (yX9_verdict, cX9_verdict, 3, (some .int))
abbrev kX10_init : aM := (yX10_init, cX10_init, 1, none)
abbrev kX10_type : aM := (yX10_type, cX10_type, 2, (some .int))
abbrev kX10_clear : aM := (yX10_clear, cX10_clear, 2, (some .int))
abbrev kX10_suit : aM := (yX10_suit, cX10_suit, 3, (some .int))
abbrev kX10_good : aM := (yX10_good, cX10_good, 3, (some .int))
abbrev kX10_values : aM := (yX10_values, cX10_values, 3, (some .int))
abbrev kX10_now : aM := (yX10_now, cX10_now, 2, (some .int))
abbrev kX10_gives : aM := (yX10_gives, cX10_gives, 4, (some .int))
abbrev kX10_steps : aM := (yX10_steps, cX10_steps, 3, (some .int))
abbrev kX10_undo : aM := (yX10_undo, cX10_undo, 2, (some .int))
abbrev kX10_envy : aM := (yX10_envy, cX10_envy, 2, (some .int))
abbrev kX10_fair : aM := (yX10_fair, cX10_fair, 4, (some .int))
abbrev kX10_cut : aM := (yX10_cut, cX10_cut, 4, (some .int))
abbrev kX10_byTurns : aM := (yX10_byTurns, cX10_byTurns, 5, (some .int))
abbrev kX10_lies : aM := (yX10_lies, cX10_lies, 3, (some .int))
abbrev kX10_sell : aM := (yX10_sell, cX10_sell, 2, (some .int))
abbrev kX10_adds : aM := (yX10_adds, cX10_adds, 2, (some .int))
abbrev kX10_odds : aM := (yX10_odds, cX10_odds, 6, (some .int))
abbrev kX10_foot : aM := (yX10_foot, cX10_foot, 2, (some .int))
abbrev kX10_worn : aM := (yX10_worn, cX10_worn, 3, (some .int))
abbrev kX10_judge : aM := (yX10_judge, cX10_judge, 2, (some .int))
abbrev kX10_saw : aM := (yX10_saw, cX10_saw, 4, (some .int))
abbrev kX10_forget : aM := (yX10_forget, cX10_forget, 2, (some .int))
abbrev kX10_wrong : aM := (yX10_wrong, cX10_wrong, 9, (some .int))
abbrev kX10_asTold : aM := (yX10_asTold, cX10_asTold, 1, (some .int))
abbrev kX10_soonest : aM := (yX10_soonest, cX10_soonest, 9, (some .int))
abbrev kX10_rate : aM := (yX10_rate, cX10_rate, 4, (some .int))
abbrev kX10_keep : aM := (yX10_keep, cX10_keep, 3, (some .int))
abbrev kX10_back : aM := (yX10_back, cX10_back, 3, (some .int))
abbrev kX10_count : aM := (yX10_count, cX10_count, 2, (some .int))
abbrev kX10_trace : aM := (yX10_trace, cX10_trace, 1, (some .long))
abbrev kX10_beginAnew : aM := (yX10_beginAnew, cX10_beginAnew, 1, none)
abbrev kX10_isGood : aM := (yX10_isGood, cX10_isGood, 2, (some .boolean))
abbrev kX10_isCell : aM := (yX10_isCell, cX10_isCell, 2, (some .boolean))
abbrev kX10_isSide : aM := (yX10_isSide, cX10_isSide, 1, (some .boolean))
abbrev kX10_imageOf : aM := (yX10_imageOf, cX10_imageOf, 2, (some (.object "ShoesAtLaw$Now")))
abbrev kX10_remember : aM := (yX10_remember, cX10_remember, 2, none)
abbrev kX10_ownValue : aM := (yX10_ownValue, cX10_ownValue, 2, (some .int))
abbrev kX10_envyOf : aM := (yX10_envyOf, cX10_envyOf, 3, (some .int))
abbrev kX10_agrees : aM := (yX10_agrees, cX10_agrees, 5, (some .boolean))
abbrev kX10_canBeWalked : aM := (yX10_canBeWalked, cX10_canBeWalked, 4, (some .boolean))
abbrev kX10_power : aM := (yX10_power, cX10_power, 4, (some .int))
abbrev kX10_greatestDivisor : aM := (yX10_greatestDivisor, cX10_greatestDivisor, 6, (some .int))
abbrev kX11_init : aM := (yX11_init, cX11_init, 1, none)
abbrev kX11_in : aM := (yX11_in, cX11_in, 6, (some .boolean))
abbrev kX11_isTwo : aM := (yX11_isTwo, cX11_isTwo, 1, (some .boolean))
abbrev kX11_has : aM := (yX11_has, cX11_has, 2, (some .boolean))
abbrev kX11_bits : aM := (yX11_bits, cX11_bits, 3, (some .int))
abbrev kX11_clean : aM := (yX11_clean, cX11_clean, 2, none)
abbrev kX11_begins : aM := (yX11_begins, cX11_begins, 2, none)
abbrev kX11_type : aM := (yX11_type, cX11_type, 2, (some .int))
abbrev kX11_clear : aM := (yX11_clear, cX11_clear, 2, (some .int))
abbrev kX11_first : aM := (yX11_first, cX11_first, 1, (some .int))
abbrev kX11_number : aM := (yX11_number, cX11_number, 6, (some .boolean))
abbrev kX11_ends : aM := (yX11_ends, cX11_ends, 1, (some .boolean))
abbrev kX11_takesGood : aM := (yX11_takesGood, cX11_takesGood, 2, (some .boolean))
abbrev kX11_takesPair : aM := (yX11_takesPair, cX11_takesPair, 3, (some .boolean))
abbrev kX11_takesOne : aM := (yX11_takesOne, cX11_takesOne, 4, (some .boolean))
abbrev kX11_takesItem : aM := (yX11_takesItem, cX11_takesItem, 2, (some .boolean))
abbrev kX11_suit : aM := (yX11_suit, cX11_suit, 4, (some .int))
abbrev kX11_isGood : aM := (yX11_isGood, cX11_isGood, 2, (some .boolean))
abbrev kX11_all : aM := (yX11_all, cX11_all, 1, (some .int))
abbrev kX11_valued : aM := (yX11_valued, cX11_valued, 5, (some .int))
abbrev kX11_goodsOf : aM := (yX11_goodsOf, cX11_goodsOf, 4, (some .int))
abbrev kX11_good : aM := (yX11_good, cX11_good, 3, (some .int))
abbrev kX11_values : aM := (yX11_values, cX11_values, 3, (some .int))
abbrev kX11_now : aM := (yX11_now, cX11_now, 2, (some .int))
abbrev kX11_copies : aM := (yX11_copies, cX11_copies, 5, none)
abbrev kX11_remember : aM := (yX11_remember, cX11_remember, 2, none)
abbrev kX11_gives : aM := (yX11_gives, cX11_gives, 4, (some .int))
abbrev kX11_footOf : aM := (yX11_footOf, cX11_footOf, 2, (some .int))
abbrev kX11_wornBy : aM := (yX11_wornBy, cX11_wornBy, 8, (some .int))
abbrev kX11_stepsOf : aM := (yX11_stepsOf, cX11_stepsOf, 4, (some .int))
abbrev kX11_steps : aM := (yX11_steps, cX11_steps, 4, (some .int))
abbrev kX11_undo : aM := (yX11_undo, cX11_undo, 1, (some .int))
abbrev kX11_envyBy : aM := (yX11_envyBy, cX11_envyBy, 5, (some .int))
abbrev kX11_envy : aM := (yX11_envy, cX11_envy, 2, (some .int))
abbrev kX11_isFair : aM := (yX11_isFair, cX11_isFair, 3, (some .boolean))
abbrev kX11_together : aM := (yX11_together, cX11_together, 2, (some .int))
abbrev kX11_best : aM := (yX11_best, cX11_best, 5, (some .int))
abbrev kX11_fair : aM := (yX11_fair, cX11_fair, 4, (some .int))
abbrev kX11_cut : aM := (yX11_cut, cX11_cut, 9, (some .int))
abbrev kX11_layTurns : aM := (yX11_layTurns, cX11_layTurns, 10, none)
abbrev kX11_layTake : aM := (yX11_layTake, cX11_layTake, 7, none)
abbrev kX11_byTurns : aM := (yX11_byTurns, cX11_byTurns, 3, (some .int))
abbrev kX11_gains : aM := (yX11_gains, cX11_gains, 7, (some .int))
abbrev kX11_lies : aM := (yX11_lies, cX11_lies, 9, (some .int))
abbrev kX11_sell : aM := (yX11_sell, cX11_sell, 6, (some .int))
abbrev kX11_adds : aM := (yX11_adds, cX11_adds, 4, (some .int))
abbrev kX11_odds : aM := (yX11_odds, cX11_odds, 8, (some .int))
abbrev kX11_foot : aM := (yX11_foot, cX11_foot, 2, (some .int))
abbrev kX11_isCell : aM := (yX11_isCell, cX11_isCell, 2, (some .boolean))
abbrev kX11_worn : aM := (yX11_worn, cX11_worn, 3, (some .int))
abbrev kX11_judge : aM := (yX11_judge, cX11_judge, 8, (some .int))
abbrev kX11_saw : aM := (yX11_saw, cX11_saw, 4, (some .int))
abbrev kX11_forget : aM := (yX11_forget, cX11_forget, 2, (some .int))
abbrev kX11_isSo : aM := (yX11_isSo, cX11_isSo, 4, (some .boolean))
abbrev kX11_wrong : aM := (yX11_wrong, cX11_wrong, 5, (some .int))
abbrev kX11_asTold : aM := (yX11_asTold, cX11_asTold, 1, (some .int))
abbrev kX11_place : aM := (yX11_place, cX11_place, 3, (some .int))
abbrev kX11_goes : aM := (yX11_goes, cX11_goes, 7, none)
abbrev kX11_anyOf : aM := (yX11_anyOf, cX11_anyOf, 5, (some .boolean))
abbrev kX11_soonest : aM := (yX11_soonest, cX11_soonest, 6, (some .int))
abbrev kX11_rate : aM := (yX11_rate, cX11_rate, 4, (some .int))
abbrev kX11_keep : aM := (yX11_keep, cX11_keep, 2, (some .int))
abbrev kX11_back : aM := (yX11_back, cX11_back, 2, (some .int))
abbrev kX11_count : aM := (yX11_count, cX11_count, 2, (some .int))
abbrev kX11_trace : aM := (yX11_trace, cX11_trace, 1, (some .long))
abbrev kJ6_bitCount_0f7a4 : aM := (yJ6_bitCount_0f7a4, cJ6_bitCount_0f7a4, 1, (some .int))
abbrev kJ9_max_7cf53 : aM := (yJ9_max_7cf53, cJ9_max_7cf53, 2, (some .int))
abbrev kJ9_min_7cf53 : aM := (yJ9_min_7cf53, cJ9_min_7cf53, 2, (some .int))
end
section
theorem dX0_init_0 : decode cX0_init 0 = .ok (.aload_n 0, 1) := by decide +kernel
theorem dX0_init_1 : decode cX0_init 1 = .ok (.invokespecial 1, 3) := by decide +kernel
theorem dX0_init_4 : decode cX0_init 4 = .ok (.return_, 1) := by decide +kernel
theorem dX0_verdict_0 : decode cX0_verdict 0 = .ok (.aload_n 1, 1) := by decide +kernel
theorem dX0_verdict_1 : decode cX0_verdict 1 = .ok (.dup, 1) := by decide +kernel
theorem dX0_verdict_2 : decode cX0_verdict 2 = .ok (.getfield 7, 3) := by decide +kernel
theorem dX0_verdict_5 : decode cX0_verdict 5 = .ok (.ldc2_w 13, 3) := by decide +kernel
theorem dX0_verdict_8 : decode cX0_verdict 8 = .ok (.ladd, 1) := by decide +kernel
theorem dX0_verdict_9 : decode cX0_verdict 9 = .ok (.putfield 7, 3) := by decide +kernel
theorem dX0_verdict_12 : decode cX0_verdict 12 = .ok (.aload_n 0, 1) := by decide +kernel
theorem dX0_verdict_13 : decode cX0_verdict 13 = .ok (.aload_n 1, 1) := by decide +kernel
theorem dX0_verdict_14 : decode cX0_verdict 14 = .ok (.iload_n 2, 1) := by decide +kernel
theorem dX0_verdict_15 : decode cX0_verdict 15 = .ok (.invokespecial 15, 3) := by decide +kernel
theorem dX0_verdict_18 : decode cX0_verdict 18 = .ok (.aload_n 1, 1) := by decide +kernel
theorem dX0_verdict_19 : decode cX0_verdict 19 = .ok (.getfield 19, 3) := by decide +kernel
theorem dX0_verdict_22 : decode cX0_verdict 22 = .ok (.iload_n 2, 1) := by decide +kernel
theorem dX0_verdict_23 : decode cX0_verdict 23 = .ok (.invokevirtual 23, 3) := by decide +kernel
theorem dX0_verdict_26 : decode cX0_verdict 26 = .ok (.iadd, 1) := by decide +kernel
theorem dX0_verdict_27 : decode cX0_verdict 27 = .ok (.ireturn, 1) := by decide +kernel
theorem dX1_init_0 : decode cX1_init 0 = .ok (.aload_n 0, 1) := by decide +kernel
theorem dX1_init_1 : decode cX1_init 1 = .ok (.invokespecial 1, 3) := by decide +kernel
theorem dX1_init_4 : decode cX1_init 4 = .ok (.return_, 1) := by decide +kernel
theorem dX1_verdict_0 : decode cX1_verdict 0 = .ok (.aload_n 1, 1) := by decide +kernel
theorem dX1_verdict_1 : decode cX1_verdict 1 = .ok (.dup, 1) := by decide +kernel
theorem dX1_verdict_2 : decode cX1_verdict 2 = .ok (.getfield 7, 3) := by decide +kernel
theorem dX1_verdict_5 : decode cX1_verdict 5 = .ok (.lconst 1, 1) := by decide +kernel
theorem dX1_verdict_6 : decode cX1_verdict 6 = .ok (.ladd, 1) := by decide +kernel
theorem dX1_verdict_7 : decode cX1_verdict 7 = .ok (.putfield 7, 3) := by decide +kernel
theorem dX1_verdict_10 : decode cX1_verdict 10 = .ok (.aload_n 1, 1) := by decide +kernel
theorem dX1_verdict_11 : decode cX1_verdict 11 = .ok (.iload_n 2, 1) := by decide +kernel
theorem dX1_verdict_12 : decode cX1_verdict 12 = .ok (.invokevirtual 13, 3) := by decide +kernel
theorem dX1_verdict_15 : decode cX1_verdict 15 = .ok (.ireturn, 1) := by decide +kernel
theorem dX2_init_0 : decode cX2_init 0 = .ok (.aload_n 0, 1) := by decide +kernel
theorem dX2_init_1 : decode cX2_init 1 = .ok (.invokespecial 1, 3) := by decide +kernel
theorem dX2_init_4 : decode cX2_init 4 = .ok (.return_, 1) := by decide +kernel
theorem dX2_verdict_0 : decode cX2_verdict 0 = .ok (.aload_n 1, 1) := by decide +kernel
theorem dX2_verdict_1 : decode cX2_verdict 1 = .ok (.dup, 1) := by decide +kernel
theorem dX2_verdict_2 : decode cX2_verdict 2 = .ok (.getfield 7, 3) := by decide +kernel
theorem dX2_verdict_5 : decode cX2_verdict 5 = .ok (.ldc2_w 13, 3) := by decide +kernel
theorem dX2_verdict_8 : decode cX2_verdict 8 = .ok (.ladd, 1) := by decide +kernel
theorem dX2_verdict_9 : decode cX2_verdict 9 = .ok (.putfield 7, 3) := by decide +kernel
theorem dX2_verdict_12 : decode cX2_verdict 12 = .ok (.iconst 2, 1) := by decide +kernel
theorem dX2_verdict_13 : decode cX2_verdict 13 = .ok (.aload_n 0, 1) := by decide +kernel
theorem dX2_verdict_14 : decode cX2_verdict 14 = .ok (.aload_n 1, 1) := by decide +kernel
theorem dX2_verdict_15 : decode cX2_verdict 15 = .ok (.iload_n 2, 1) := by decide +kernel
theorem dX2_verdict_16 : decode cX2_verdict 16 = .ok (.invokespecial 15, 3) := by decide +kernel
theorem dX2_verdict_19 : decode cX2_verdict 19 = .ok (.imul, 1) := by decide +kernel
theorem dX2_verdict_20 : decode cX2_verdict 20 = .ok (.ireturn, 1) := by decide +kernel
theorem dX3_init_0 : decode cX3_init 0 = .ok (.aload_n 0, 1) := by decide +kernel
theorem dX3_init_1 : decode cX3_init 1 = .ok (.invokespecial 3, 3) := by decide +kernel
theorem dX3_init_4 : decode cX3_init 4 = .ok (.aload_n 0, 1) := by decide +kernel
theorem dX3_init_5 : decode cX3_init 5 = .ok (.bipush 6, 2) := by decide +kernel
theorem dX3_init_7 : decode cX3_init 7 = .ok (.newarray .int, 2) := by decide +kernel
theorem dX3_init_9 : decode cX3_init 9 = .ok (.putfield 9, 3) := by decide +kernel
theorem dX3_init_12 : decode cX3_init 12 = .ok (.aload_n 0, 1) := by decide +kernel
theorem dX3_init_13 : decode cX3_init 13 = .ok (.bipush 60, 2) := by decide +kernel
theorem dX3_init_15 : decode cX3_init 15 = .ok (.newarray .int, 2) := by decide +kernel
theorem dX3_init_17 : decode cX3_init 17 = .ok (.putfield 15, 3) := by decide +kernel
theorem dX3_init_20 : decode cX3_init 20 = .ok (.return_, 1) := by decide +kernel
theorem dX3_begin_0 : decode cX3_begin 0 = .ok (.iconst 0, 1) := by decide +kernel
theorem dX3_begin_1 : decode cX3_begin 1 = .ok (.istore_n 1, 1) := by decide +kernel
theorem dX3_begin_2 : decode cX3_begin 2 = .ok (.iload_n 1, 1) := by decide +kernel
theorem dX3_begin_3 : decode cX3_begin 3 = .ok (.bipush 6, 2) := by decide +kernel
theorem dX3_begin_5 : decode cX3_begin 5 = .ok (.if_icmp .ge 16, 3) := by decide +kernel
theorem dX3_begin_8 : decode cX3_begin 8 = .ok (.aload_n 0, 1) := by decide +kernel
theorem dX3_begin_9 : decode cX3_begin 9 = .ok (.getfield 9, 3) := by decide +kernel
theorem dX3_begin_12 : decode cX3_begin 12 = .ok (.iload_n 1, 1) := by decide +kernel
theorem dX3_begin_13 : decode cX3_begin 13 = .ok (.iconst 2, 1) := by decide +kernel
theorem dX3_begin_14 : decode cX3_begin 14 = .ok (.iastore, 1) := by decide +kernel
theorem dX3_begin_15 : decode cX3_begin 15 = .ok (.iinc 1 1, 3) := by decide +kernel
theorem dX3_begin_18 : decode cX3_begin 18 = .ok (.goto (-16), 3) := by decide +kernel
theorem dX3_begin_21 : decode cX3_begin 21 = .ok (.aload_n 0, 1) := by decide +kernel
theorem dX3_begin_22 : decode cX3_begin 22 = .ok (.iconst 0, 1) := by decide +kernel
theorem dX3_begin_23 : decode cX3_begin 23 = .ok (.putfield 18, 3) := by decide +kernel
theorem dX3_begin_26 : decode cX3_begin 26 = .ok (.return_, 1) := by decide +kernel
theorem dX3_become_0 : decode cX3_become 0 = .ok (.aload_n 1, 1) := by decide +kernel
theorem dX3_become_1 : decode cX3_become 1 = .ok (.getfield 9, 3) := by decide +kernel
theorem dX3_become_4 : decode cX3_become 4 = .ok (.iconst 0, 1) := by decide +kernel
theorem dX3_become_5 : decode cX3_become 5 = .ok (.aload_n 0, 1) := by decide +kernel
theorem dX3_become_6 : decode cX3_become 6 = .ok (.getfield 9, 3) := by decide +kernel
theorem dX3_become_9 : decode cX3_become 9 = .ok (.iconst 0, 1) := by decide +kernel
theorem dX3_become_10 : decode cX3_become 10 = .ok (.bipush 6, 2) := by decide +kernel
theorem dX3_become_12 : decode cX3_become 12 = .ok (.invokestatic 22, 3) := by decide +kernel
theorem dX3_become_15 : decode cX3_become 15 = .ok (.aload_n 1, 1) := by decide +kernel
theorem dX3_become_16 : decode cX3_become 16 = .ok (.getfield 15, 3) := by decide +kernel
theorem dX3_become_19 : decode cX3_become 19 = .ok (.iconst 0, 1) := by decide +kernel
theorem dX3_become_20 : decode cX3_become 20 = .ok (.aload_n 0, 1) := by decide +kernel
theorem dX3_become_21 : decode cX3_become 21 = .ok (.getfield 15, 3) := by decide +kernel
theorem dX3_become_24 : decode cX3_become 24 = .ok (.iconst 0, 1) := by decide +kernel
theorem dX3_become_25 : decode cX3_become 25 = .ok (.bipush 60, 2) := by decide +kernel
theorem dX3_become_27 : decode cX3_become 27 = .ok (.invokestatic 22, 3) := by decide +kernel
theorem dX3_become_30 : decode cX3_become 30 = .ok (.aload_n 0, 1) := by decide +kernel
theorem dX3_become_31 : decode cX3_become 31 = .ok (.aload_n 1, 1) := by decide +kernel
theorem dX3_become_32 : decode cX3_become 32 = .ok (.getfield 18, 3) := by decide +kernel
theorem dX3_become_35 : decode cX3_become 35 = .ok (.putfield 18, 3) := by decide +kernel
theorem dX3_become_38 : decode cX3_become 38 = .ok (.return_, 1) := by decide +kernel
theorem dX3_whose_0 : decode cX3_whose 0 = .ok (.iload_n 1, 1) := by decide +kernel
theorem dX3_whose_1 : decode cX3_whose 1 = .ok (.ifCond .lt 18, 3) := by decide +kernel
theorem dX3_whose_4 : decode cX3_whose 4 = .ok (.iload_n 1, 1) := by decide +kernel
theorem dX3_whose_5 : decode cX3_whose 5 = .ok (.bipush 6, 2) := by decide +kernel
theorem dX3_whose_7 : decode cX3_whose 7 = .ok (.if_icmp .ge 12, 3) := by decide +kernel
theorem dX3_whose_10 : decode cX3_whose 10 = .ok (.aload_n 0, 1) := by decide +kernel
theorem dX3_whose_11 : decode cX3_whose 11 = .ok (.getfield 9, 3) := by decide +kernel
theorem dX3_whose_14 : decode cX3_whose 14 = .ok (.iload_n 1, 1) := by decide +kernel
theorem dX3_whose_15 : decode cX3_whose 15 = .ok (.iaload, 1) := by decide +kernel
theorem dX3_whose_16 : decode cX3_whose 16 = .ok (.goto 4, 3) := by decide +kernel
theorem dX3_whose_19 : decode cX3_whose 19 = .ok (.iconst 2, 1) := by decide +kernel
theorem dX3_whose_20 : decode cX3_whose 20 = .ok (.ireturn, 1) := by decide +kernel
theorem dX3_put_0 : decode cX3_put 0 = .ok (.iload_n 1, 1) := by decide +kernel
theorem dX3_put_1 : decode cX3_put 1 = .ok (.ifCond .lt 16, 3) := by decide +kernel
theorem dX3_put_4 : decode cX3_put 4 = .ok (.iload_n 1, 1) := by decide +kernel
theorem dX3_put_5 : decode cX3_put 5 = .ok (.bipush 6, 2) := by decide +kernel
theorem dX3_put_7 : decode cX3_put 7 = .ok (.if_icmp .ge 10, 3) := by decide +kernel
theorem dX3_put_10 : decode cX3_put 10 = .ok (.aload_n 0, 1) := by decide +kernel
theorem dX3_put_11 : decode cX3_put 11 = .ok (.getfield 9, 3) := by decide +kernel
theorem dX3_put_14 : decode cX3_put 14 = .ok (.iload_n 1, 1) := by decide +kernel
theorem dX3_put_15 : decode cX3_put 15 = .ok (.iload_n 2, 1) := by decide +kernel
theorem dX3_put_16 : decode cX3_put 16 = .ok (.iastore, 1) := by decide +kernel
theorem dX3_put_17 : decode cX3_put 17 = .ok (.return_, 1) := by decide +kernel
theorem dX3_setOf_0 : decode cX3_setOf 0 = .ok (.iconst 0, 1) := by decide +kernel
theorem dX3_setOf_1 : decode cX3_setOf 1 = .ok (.istore_n 3, 1) := by decide +kernel
theorem dX3_setOf_2 : decode cX3_setOf 2 = .ok (.iconst 0, 1) := by decide +kernel
theorem dX3_setOf_3 : decode cX3_setOf 3 = .ok (.istore 4, 2) := by decide +kernel
theorem dX3_setOf_5 : decode cX3_setOf 5 = .ok (.iload 4, 2) := by decide +kernel
theorem dX3_setOf_7 : decode cX3_setOf 7 = .ok (.iload_n 2, 1) := by decide +kernel
theorem dX3_setOf_8 : decode cX3_setOf 8 = .ok (.if_icmp .ge 34, 3) := by decide +kernel
theorem dX3_setOf_11 : decode cX3_setOf 11 = .ok (.iload 4, 2) := by decide +kernel
theorem dX3_setOf_13 : decode cX3_setOf 13 = .ok (.bipush 6, 2) := by decide +kernel
theorem dX3_setOf_15 : decode cX3_setOf 15 = .ok (.if_icmp .ge 27, 3) := by decide +kernel
theorem dX3_setOf_18 : decode cX3_setOf 18 = .ok (.aload_n 0, 1) := by decide +kernel
theorem dX3_setOf_19 : decode cX3_setOf 19 = .ok (.getfield 9, 3) := by decide +kernel
theorem dX3_setOf_22 : decode cX3_setOf 22 = .ok (.iload 4, 2) := by decide +kernel
theorem dX3_setOf_24 : decode cX3_setOf 24 = .ok (.iaload, 1) := by decide +kernel
theorem dX3_setOf_25 : decode cX3_setOf 25 = .ok (.iload_n 1, 1) := by decide +kernel
theorem dX3_setOf_26 : decode cX3_setOf 26 = .ok (.if_icmp .ne 10, 3) := by decide +kernel
theorem dX3_setOf_29 : decode cX3_setOf 29 = .ok (.iload_n 3, 1) := by decide +kernel
theorem dX3_setOf_30 : decode cX3_setOf 30 = .ok (.iconst 1, 1) := by decide +kernel
theorem dX3_setOf_31 : decode cX3_setOf 31 = .ok (.iload 4, 2) := by decide +kernel
theorem dX3_setOf_33 : decode cX3_setOf 33 = .ok (.ishl, 1) := by decide +kernel
theorem dX3_setOf_34 : decode cX3_setOf 34 = .ok (.ior, 1) := by decide +kernel
theorem dX3_setOf_35 : decode cX3_setOf 35 = .ok (.istore_n 3, 1) := by decide +kernel
theorem dX3_setOf_36 : decode cX3_setOf 36 = .ok (.iinc 4 1, 3) := by decide +kernel
theorem dX3_setOf_39 : decode cX3_setOf 39 = .ok (.goto (-34), 3) := by decide +kernel
theorem dX3_setOf_42 : decode cX3_setOf 42 = .ok (.iload_n 3, 1) := by decide +kernel
theorem dX3_setOf_43 : decode cX3_setOf 43 = .ok (.ireturn, 1) := by decide +kernel
theorem dX3_walk_0 : decode cX3_walk 0 = .ok (.aload_n 0, 1) := by decide +kernel
theorem dX3_walk_1 : decode cX3_walk 1 = .ok (.getfield 18, 3) := by decide +kernel
theorem dX3_walk_4 : decode cX3_walk 4 = .ok (.ifCond .lt 12, 3) := by decide +kernel
theorem dX3_walk_7 : decode cX3_walk 7 = .ok (.aload_n 0, 1) := by decide +kernel
theorem dX3_walk_8 : decode cX3_walk 8 = .ok (.getfield 18, 3) := by decide +kernel
theorem dX3_walk_11 : decode cX3_walk 11 = .ok (.bipush 60, 2) := by decide +kernel
theorem dX3_walk_13 : decode cX3_walk 13 = .ok (.if_icmp .lt 5, 3) := by decide +kernel
theorem dX3_walk_16 : decode cX3_walk 16 = .ok (.iconst 0, 1) := by decide +kernel
theorem dX3_walk_17 : decode cX3_walk 17 = .ok (.ireturn, 1) := by decide +kernel
theorem dX3_walk_18 : decode cX3_walk 18 = .ok (.aload_n 0, 1) := by decide +kernel
theorem dX3_walk_19 : decode cX3_walk 19 = .ok (.getfield 15, 3) := by decide +kernel
theorem dX3_walk_22 : decode cX3_walk 22 = .ok (.aload_n 0, 1) := by decide +kernel
theorem dX3_walk_23 : decode cX3_walk 23 = .ok (.getfield 18, 3) := by decide +kernel
theorem dX3_walk_26 : decode cX3_walk 26 = .ok (.iload_n 1, 1) := by decide +kernel
theorem dX3_walk_27 : decode cX3_walk 27 = .ok (.iastore, 1) := by decide +kernel
theorem dX3_walk_28 : decode cX3_walk 28 = .ok (.aload_n 0, 1) := by decide +kernel
theorem dX3_walk_29 : decode cX3_walk 29 = .ok (.dup, 1) := by decide +kernel
theorem dX3_walk_30 : decode cX3_walk 30 = .ok (.getfield 18, 3) := by decide +kernel
theorem dX3_walk_33 : decode cX3_walk 33 = .ok (.iconst 1, 1) := by decide +kernel
theorem dX3_walk_34 : decode cX3_walk 34 = .ok (.iadd, 1) := by decide +kernel
theorem dX3_walk_35 : decode cX3_walk 35 = .ok (.putfield 18, 3) := by decide +kernel
theorem dX3_walk_38 : decode cX3_walk 38 = .ok (.iconst 1, 1) := by decide +kernel
theorem dX3_walk_39 : decode cX3_walk 39 = .ok (.ireturn, 1) := by decide +kernel
theorem dX3_unwalk_0 : decode cX3_unwalk 0 = .ok (.aload_n 0, 1) := by decide +kernel
theorem dX3_unwalk_1 : decode cX3_unwalk 1 = .ok (.getfield 18, 3) := by decide +kernel
theorem dX3_unwalk_4 : decode cX3_unwalk 4 = .ok (.ifCond .le 13, 3) := by decide +kernel
theorem dX3_unwalk_7 : decode cX3_unwalk 7 = .ok (.aload_n 0, 1) := by decide +kernel
theorem dX3_unwalk_8 : decode cX3_unwalk 8 = .ok (.dup, 1) := by decide +kernel
theorem dX3_unwalk_9 : decode cX3_unwalk 9 = .ok (.getfield 18, 3) := by decide +kernel
theorem dX3_unwalk_12 : decode cX3_unwalk 12 = .ok (.iconst 1, 1) := by decide +kernel
theorem dX3_unwalk_13 : decode cX3_unwalk 13 = .ok (.isub, 1) := by decide +kernel
theorem dX3_unwalk_14 : decode cX3_unwalk 14 = .ok (.putfield 18, 3) := by decide +kernel
theorem dX3_unwalk_17 : decode cX3_unwalk 17 = .ok (.return_, 1) := by decide +kernel
theorem dX3_footOf_0 : decode cX3_footOf 0 = .ok (.iload_n 1, 1) := by decide +kernel
theorem dX3_footOf_1 : decode cX3_footOf 1 = .ok (.ifCond .lt 18, 3) := by decide +kernel
theorem dX3_footOf_4 : decode cX3_footOf 4 = .ok (.iload_n 1, 1) := by decide +kernel
theorem dX3_footOf_5 : decode cX3_footOf 5 = .ok (.bipush 60, 2) := by decide +kernel
theorem dX3_footOf_7 : decode cX3_footOf 7 = .ok (.if_icmp .ge 12, 3) := by decide +kernel
theorem dX3_footOf_10 : decode cX3_footOf 10 = .ok (.aload_n 0, 1) := by decide +kernel
theorem dX3_footOf_11 : decode cX3_footOf 11 = .ok (.getfield 15, 3) := by decide +kernel
theorem dX3_footOf_14 : decode cX3_footOf 14 = .ok (.iload_n 1, 1) := by decide +kernel
theorem dX3_footOf_15 : decode cX3_footOf 15 = .ok (.iaload, 1) := by decide +kernel
theorem dX3_footOf_16 : decode cX3_footOf 16 = .ok (.goto 5, 3) := by decide +kernel
theorem dX3_footOf_19 : decode cX3_footOf 19 = .ok (.bipush (-9), 2) := by decide +kernel
theorem dX3_footOf_21 : decode cX3_footOf 21 = .ok (.ireturn, 1) := by decide +kernel
theorem dX3_stepsOf_0 : decode cX3_stepsOf 0 = .ok (.iconst 0, 1) := by decide +kernel
theorem dX3_stepsOf_1 : decode cX3_stepsOf 1 = .ok (.istore_n 2, 1) := by decide +kernel
theorem dX3_stepsOf_2 : decode cX3_stepsOf 2 = .ok (.iconst 0, 1) := by decide +kernel
theorem dX3_stepsOf_3 : decode cX3_stepsOf 3 = .ok (.istore_n 3, 1) := by decide +kernel
theorem dX3_stepsOf_4 : decode cX3_stepsOf 4 = .ok (.iload_n 3, 1) := by decide +kernel
theorem dX3_stepsOf_5 : decode cX3_stepsOf 5 = .ok (.aload_n 0, 1) := by decide +kernel
theorem dX3_stepsOf_6 : decode cX3_stepsOf 6 = .ok (.getfield 18, 3) := by decide +kernel
theorem dX3_stepsOf_9 : decode cX3_stepsOf 9 = .ok (.if_icmp .ge 21, 3) := by decide +kernel
theorem dX3_stepsOf_12 : decode cX3_stepsOf 12 = .ok (.aload_n 0, 1) := by decide +kernel
theorem dX3_stepsOf_13 : decode cX3_stepsOf 13 = .ok (.iload_n 3, 1) := by decide +kernel
theorem dX3_stepsOf_14 : decode cX3_stepsOf 14 = .ok (.invokevirtual 28, 3) := by decide +kernel
theorem dX3_stepsOf_17 : decode cX3_stepsOf 17 = .ok (.iload_n 1, 1) := by decide +kernel
theorem dX3_stepsOf_18 : decode cX3_stepsOf 18 = .ok (.if_icmp .ne 6, 3) := by decide +kernel
theorem dX3_stepsOf_21 : decode cX3_stepsOf 21 = .ok (.iinc 2 1, 3) := by decide +kernel
theorem dX3_stepsOf_24 : decode cX3_stepsOf 24 = .ok (.iinc 3 1, 3) := by decide +kernel
theorem dX3_stepsOf_27 : decode cX3_stepsOf 27 = .ok (.goto (-23), 3) := by decide +kernel
theorem dX3_stepsOf_30 : decode cX3_stepsOf 30 = .ok (.iload_n 2, 1) := by decide +kernel
theorem dX3_stepsOf_31 : decode cX3_stepsOf 31 = .ok (.ireturn, 1) := by decide +kernel
theorem dX3_firstRunOver_0 : decode cX3_firstRunOver 0 = .ok (.iconst 0, 1) := by decide +kernel
theorem dX3_firstRunOver_1 : decode cX3_firstRunOver 1 = .ok (.istore_n 2, 1) := by decide +kernel
theorem dX3_firstRunOver_2 : decode cX3_firstRunOver 2 = .ok (.iconst 0, 1) := by decide +kernel
theorem dX3_firstRunOver_3 : decode cX3_firstRunOver 3 = .ok (.istore_n 3, 1) := by decide +kernel
theorem dX3_firstRunOver_4 : decode cX3_firstRunOver 4 = .ok (.iload_n 3, 1) := by decide +kernel
theorem dX3_firstRunOver_5 : decode cX3_firstRunOver 5 = .ok (.aload_n 0, 1) := by decide +kernel
theorem dX3_firstRunOver_6 : decode cX3_firstRunOver 6 = .ok (.getfield 18, 3) := by decide +kernel
theorem dX3_firstRunOver_9 : decode cX3_firstRunOver 9 = .ok (.if_icmp .ge 32, 3) := by decide +kernel
theorem dX3_firstRunOver_12 : decode cX3_firstRunOver 12 = .ok (.aload_n 0, 1) := by decide +kernel
theorem dX3_firstRunOver_13 : decode cX3_firstRunOver 13 = .ok (.iload_n 3, 1) := by decide +kernel
theorem dX3_firstRunOver_14 : decode cX3_firstRunOver 14 = .ok (.invokevirtual 32, 3) := by decide +kernel
theorem dX3_firstRunOver_17 : decode cX3_firstRunOver 17 = .ok (.ifCond .eq 7, 3) := by decide +kernel
theorem dX3_firstRunOver_20 : decode cX3_firstRunOver 20 = .ok (.iconst 1, 1) := by decide +kernel
theorem dX3_firstRunOver_21 : decode cX3_firstRunOver 21 = .ok (.goto 6, 3) := by decide +kernel
theorem dX3_firstRunOver_24 : decode cX3_firstRunOver 24 = .ok (.iload_n 2, 1) := by decide +kernel
theorem dX3_firstRunOver_25 : decode cX3_firstRunOver 25 = .ok (.iconst 1, 1) := by decide +kernel
theorem dX3_firstRunOver_26 : decode cX3_firstRunOver 26 = .ok (.iadd, 1) := by decide +kernel
theorem dX3_firstRunOver_27 : decode cX3_firstRunOver 27 = .ok (.istore_n 2, 1) := by decide +kernel
theorem dX3_firstRunOver_28 : decode cX3_firstRunOver 28 = .ok (.iload_n 2, 1) := by decide +kernel
theorem dX3_firstRunOver_29 : decode cX3_firstRunOver 29 = .ok (.iload_n 1, 1) := by decide +kernel
theorem dX3_firstRunOver_30 : decode cX3_firstRunOver 30 = .ok (.if_icmp .le 5, 3) := by decide +kernel
theorem dX3_firstRunOver_33 : decode cX3_firstRunOver 33 = .ok (.iload_n 3, 1) := by decide +kernel
theorem dX3_firstRunOver_34 : decode cX3_firstRunOver 34 = .ok (.ireturn, 1) := by decide +kernel
theorem dX3_firstRunOver_35 : decode cX3_firstRunOver 35 = .ok (.iinc 3 1, 3) := by decide +kernel
theorem dX3_firstRunOver_38 : decode cX3_firstRunOver 38 = .ok (.goto (-34), 3) := by decide +kernel
theorem dX3_firstRunOver_41 : decode cX3_firstRunOver 41 = .ok (.bipush (-9), 2) := by decide +kernel
theorem dX3_firstRunOver_43 : decode cX3_firstRunOver 43 = .ok (.ireturn, 1) := by decide +kernel
theorem dX3_longestRun_0 : decode cX3_longestRun 0 = .ok (.iconst 0, 1) := by decide +kernel
theorem dX3_longestRun_1 : decode cX3_longestRun 1 = .ok (.istore_n 1, 1) := by decide +kernel
theorem dX3_longestRun_2 : decode cX3_longestRun 2 = .ok (.iconst 0, 1) := by decide +kernel
theorem dX3_longestRun_3 : decode cX3_longestRun 3 = .ok (.istore_n 2, 1) := by decide +kernel
theorem dX3_longestRun_4 : decode cX3_longestRun 4 = .ok (.iconst 0, 1) := by decide +kernel
theorem dX3_longestRun_5 : decode cX3_longestRun 5 = .ok (.istore_n 3, 1) := by decide +kernel
theorem dX3_longestRun_6 : decode cX3_longestRun 6 = .ok (.iload_n 3, 1) := by decide +kernel
theorem dX3_longestRun_7 : decode cX3_longestRun 7 = .ok (.aload_n 0, 1) := by decide +kernel
theorem dX3_longestRun_8 : decode cX3_longestRun 8 = .ok (.getfield 18, 3) := by decide +kernel
theorem dX3_longestRun_11 : decode cX3_longestRun 11 = .ok (.if_icmp .ge 31, 3) := by decide +kernel
theorem dX3_longestRun_14 : decode cX3_longestRun 14 = .ok (.aload_n 0, 1) := by decide +kernel
theorem dX3_longestRun_15 : decode cX3_longestRun 15 = .ok (.iload_n 3, 1) := by decide +kernel
theorem dX3_longestRun_16 : decode cX3_longestRun 16 = .ok (.invokevirtual 32, 3) := by decide +kernel
theorem dX3_longestRun_19 : decode cX3_longestRun 19 = .ok (.ifCond .eq 7, 3) := by decide +kernel
theorem dX3_longestRun_22 : decode cX3_longestRun 22 = .ok (.iconst 1, 1) := by decide +kernel
theorem dX3_longestRun_23 : decode cX3_longestRun 23 = .ok (.goto 6, 3) := by decide +kernel
theorem dX3_longestRun_26 : decode cX3_longestRun 26 = .ok (.iload_n 1, 1) := by decide +kernel
theorem dX3_longestRun_27 : decode cX3_longestRun 27 = .ok (.iconst 1, 1) := by decide +kernel
theorem dX3_longestRun_28 : decode cX3_longestRun 28 = .ok (.iadd, 1) := by decide +kernel
theorem dX3_longestRun_29 : decode cX3_longestRun 29 = .ok (.istore_n 1, 1) := by decide +kernel
theorem dX3_longestRun_30 : decode cX3_longestRun 30 = .ok (.iload_n 2, 1) := by decide +kernel
theorem dX3_longestRun_31 : decode cX3_longestRun 31 = .ok (.iload_n 1, 1) := by decide +kernel
theorem dX3_longestRun_32 : decode cX3_longestRun 32 = .ok (.invokestatic 36, 3) := by decide +kernel
theorem dX3_longestRun_35 : decode cX3_longestRun 35 = .ok (.istore_n 2, 1) := by decide +kernel
theorem dX3_longestRun_36 : decode cX3_longestRun 36 = .ok (.iinc 3 1, 3) := by decide +kernel
theorem dX3_longestRun_39 : decode cX3_longestRun 39 = .ok (.goto (-33), 3) := by decide +kernel
theorem dX3_longestRun_42 : decode cX3_longestRun 42 = .ok (.iload_n 2, 1) := by decide +kernel
theorem dX3_longestRun_43 : decode cX3_longestRun 43 = .ok (.ireturn, 1) := by decide +kernel
theorem dX3_changes_0 : decode cX3_changes 0 = .ok (.iconst 0, 1) := by decide +kernel
theorem dX3_changes_1 : decode cX3_changes 1 = .ok (.istore_n 1, 1) := by decide +kernel
theorem dX3_changes_2 : decode cX3_changes 2 = .ok (.iconst 0, 1) := by decide +kernel
theorem dX3_changes_3 : decode cX3_changes 3 = .ok (.istore_n 2, 1) := by decide +kernel
theorem dX3_changes_4 : decode cX3_changes 4 = .ok (.iload_n 2, 1) := by decide +kernel
theorem dX3_changes_5 : decode cX3_changes 5 = .ok (.aload_n 0, 1) := by decide +kernel
theorem dX3_changes_6 : decode cX3_changes 6 = .ok (.getfield 18, 3) := by decide +kernel
theorem dX3_changes_9 : decode cX3_changes 9 = .ok (.if_icmp .ge 20, 3) := by decide +kernel
theorem dX3_changes_12 : decode cX3_changes 12 = .ok (.aload_n 0, 1) := by decide +kernel
theorem dX3_changes_13 : decode cX3_changes 13 = .ok (.iload_n 2, 1) := by decide +kernel
theorem dX3_changes_14 : decode cX3_changes 14 = .ok (.invokevirtual 32, 3) := by decide +kernel
theorem dX3_changes_17 : decode cX3_changes 17 = .ok (.ifCond .eq 6, 3) := by decide +kernel
theorem dX3_changes_20 : decode cX3_changes 20 = .ok (.iinc 1 1, 3) := by decide +kernel
theorem dX3_changes_23 : decode cX3_changes 23 = .ok (.iinc 2 1, 3) := by decide +kernel
theorem dX3_changes_26 : decode cX3_changes 26 = .ok (.goto (-22), 3) := by decide +kernel
theorem dX3_changes_29 : decode cX3_changes 29 = .ok (.iload_n 1, 1) := by decide +kernel
theorem dX3_changes_30 : decode cX3_changes 30 = .ok (.ireturn, 1) := by decide +kernel
theorem dX3_changesAt_0 : decode cX3_changesAt 0 = .ok (.iload_n 1, 1) := by decide +kernel
theorem dX3_changesAt_1 : decode cX3_changesAt 1 = .ok (.ifCond .le 22, 3) := by decide +kernel
theorem dX3_changesAt_4 : decode cX3_changesAt 4 = .ok (.aload_n 0, 1) := by decide +kernel
theorem dX3_changesAt_5 : decode cX3_changesAt 5 = .ok (.iload_n 1, 1) := by decide +kernel
theorem dX3_changesAt_6 : decode cX3_changesAt 6 = .ok (.invokevirtual 28, 3) := by decide +kernel
theorem dX3_changesAt_9 : decode cX3_changesAt 9 = .ok (.aload_n 0, 1) := by decide +kernel
theorem dX3_changesAt_10 : decode cX3_changesAt 10 = .ok (.iload_n 1, 1) := by decide +kernel
theorem dX3_changesAt_11 : decode cX3_changesAt 11 = .ok (.iconst 1, 1) := by decide +kernel
theorem dX3_changesAt_12 : decode cX3_changesAt 12 = .ok (.isub, 1) := by decide +kernel
theorem dX3_changesAt_13 : decode cX3_changesAt 13 = .ok (.invokevirtual 28, 3) := by decide +kernel
theorem dX3_changesAt_16 : decode cX3_changesAt 16 = .ok (.if_icmp .eq 7, 3) := by decide +kernel
theorem dX3_changesAt_19 : decode cX3_changesAt 19 = .ok (.iconst 1, 1) := by decide +kernel
theorem dX3_changesAt_20 : decode cX3_changesAt 20 = .ok (.goto 4, 3) := by decide +kernel
theorem dX3_changesAt_23 : decode cX3_changesAt 23 = .ok (.iconst 0, 1) := by decide +kernel
theorem dX3_changesAt_24 : decode cX3_changesAt 24 = .ok (.ireturn, 1) := by decide +kernel
theorem dX4_init_0 : decode cX4_init 0 = .ok (.aload_n 0, 1) := by decide +kernel
theorem dX4_init_1 : decode cX4_init 1 = .ok (.invokespecial 3, 3) := by decide +kernel
theorem dX4_init_4 : decode cX4_init 4 = .ok (.aload_n 0, 1) := by decide +kernel
theorem dX4_init_5 : decode cX4_init 5 = .ok (.bipush 64, 2) := by decide +kernel
theorem dX4_init_7 : decode cX4_init 7 = .ok (.newarray .int, 2) := by decide +kernel
theorem dX4_init_9 : decode cX4_init 9 = .ok (.putfield 9, 3) := by decide +kernel
theorem dX4_init_12 : decode cX4_init 12 = .ok (.aload_n 0, 1) := by decide +kernel
theorem dX4_init_13 : decode cX4_init 13 = .ok (.bipush 64, 2) := by decide +kernel
theorem dX4_init_15 : decode cX4_init 15 = .ok (.newarray .int, 2) := by decide +kernel
theorem dX4_init_17 : decode cX4_init 17 = .ok (.putfield 15, 3) := by decide +kernel
theorem dX4_init_20 : decode cX4_init 20 = .ok (.aload_n 0, 1) := by decide +kernel
theorem dX4_init_21 : decode cX4_init 21 = .ok (.bipush 64, 2) := by decide +kernel
theorem dX4_init_23 : decode cX4_init 23 = .ok (.newarray .int, 2) := by decide +kernel
theorem dX4_init_25 : decode cX4_init 25 = .ok (.putfield 18, 3) := by decide +kernel
theorem dX4_init_28 : decode cX4_init 28 = .ok (.return_, 1) := by decide +kernel
theorem dX4_total_0 : decode cX4_total 0 = .ok (.aload_n 1, 1) := by decide +kernel
theorem dX4_total_1 : decode cX4_total 1 = .ok (.iconst 0, 1) := by decide +kernel
theorem dX4_total_2 : decode cX4_total 2 = .ok (.aload_n 1, 1) := by decide +kernel
theorem dX4_total_3 : decode cX4_total 3 = .ok (.iconst 0, 1) := by decide +kernel
theorem dX4_total_4 : decode cX4_total 4 = .ok (.iload_n 2, 1) := by decide +kernel
theorem dX4_total_5 : decode cX4_total 5 = .ok (.invokevirtual 21, 3) := by decide +kernel
theorem dX4_total_8 : decode cX4_total 8 = .ok (.invokevirtual 27, 3) := by decide +kernel
theorem dX4_total_11 : decode cX4_total 11 = .ok (.aload_n 1, 1) := by decide +kernel
theorem dX4_total_12 : decode cX4_total 12 = .ok (.iconst 1, 1) := by decide +kernel
theorem dX4_total_13 : decode cX4_total 13 = .ok (.iload_n 2, 1) := by decide +kernel
theorem dX4_total_14 : decode cX4_total 14 = .ok (.invokevirtual 27, 3) := by decide +kernel
theorem dX4_total_17 : decode cX4_total 17 = .ok (.iadd, 1) := by decide +kernel
theorem dX4_total_18 : decode cX4_total 18 = .ok (.ireturn, 1) := by decide +kernel
theorem dX4_lead_0 : decode cX4_lead 0 = .ok (.aload_n 1, 1) := by decide +kernel
theorem dX4_lead_1 : decode cX4_lead 1 = .ok (.iload_n 2, 1) := by decide +kernel
theorem dX4_lead_2 : decode cX4_lead 2 = .ok (.iload_n 3, 1) := by decide +kernel
theorem dX4_lead_3 : decode cX4_lead 3 = .ok (.invokevirtual 21, 3) := by decide +kernel
theorem dX4_lead_6 : decode cX4_lead 6 = .ok (.istore 4, 2) := by decide +kernel
theorem dX4_lead_8 : decode cX4_lead 8 = .ok (.aload_n 1, 1) := by decide +kernel
theorem dX4_lead_9 : decode cX4_lead 9 = .ok (.iload_n 2, 1) := by decide +kernel
theorem dX4_lead_10 : decode cX4_lead 10 = .ok (.iload 4, 2) := by decide +kernel
theorem dX4_lead_12 : decode cX4_lead 12 = .ok (.invokevirtual 27, 3) := by decide +kernel
theorem dX4_lead_15 : decode cX4_lead 15 = .ok (.aload_n 1, 1) := by decide +kernel
theorem dX4_lead_16 : decode cX4_lead 16 = .ok (.iload_n 2, 1) := by decide +kernel
theorem dX4_lead_17 : decode cX4_lead 17 = .ok (.aload_n 1, 1) := by decide +kernel
theorem dX4_lead_18 : decode cX4_lead 18 = .ok (.invokevirtual 30, 3) := by decide +kernel
theorem dX4_lead_21 : decode cX4_lead 21 = .ok (.iload 4, 2) := by decide +kernel
theorem dX4_lead_23 : decode cX4_lead 23 = .ok (.ixor, 1) := by decide +kernel
theorem dX4_lead_24 : decode cX4_lead 24 = .ok (.invokevirtual 27, 3) := by decide +kernel
theorem dX4_lead_27 : decode cX4_lead 27 = .ok (.isub, 1) := by decide +kernel
theorem dX4_lead_28 : decode cX4_lead 28 = .ok (.ireturn, 1) := by decide +kernel
theorem dX4_isFair_0 : decode cX4_isFair 0 = .ok (.aload_n 0, 1) := by decide +kernel
theorem dX4_isFair_1 : decode cX4_isFair 1 = .ok (.aload_n 1, 1) := by decide +kernel
theorem dX4_isFair_2 : decode cX4_isFair 2 = .ok (.iconst 0, 1) := by decide +kernel
theorem dX4_isFair_3 : decode cX4_isFair 3 = .ok (.iload_n 2, 1) := by decide +kernel
theorem dX4_isFair_4 : decode cX4_isFair 4 = .ok (.invokevirtual 34, 3) := by decide +kernel
theorem dX4_isFair_7 : decode cX4_isFair 7 = .ok (.ifCond .lt 17, 3) := by decide +kernel
theorem dX4_isFair_10 : decode cX4_isFair 10 = .ok (.aload_n 0, 1) := by decide +kernel
theorem dX4_isFair_11 : decode cX4_isFair 11 = .ok (.aload_n 1, 1) := by decide +kernel
theorem dX4_isFair_12 : decode cX4_isFair 12 = .ok (.iconst 1, 1) := by decide +kernel
theorem dX4_isFair_13 : decode cX4_isFair 13 = .ok (.iload_n 2, 1) := by decide +kernel
theorem dX4_isFair_14 : decode cX4_isFair 14 = .ok (.invokevirtual 34, 3) := by decide +kernel
theorem dX4_isFair_17 : decode cX4_isFair 17 = .ok (.ifCond .lt 7, 3) := by decide +kernel
theorem dX4_isFair_20 : decode cX4_isFair 20 = .ok (.iconst 1, 1) := by decide +kernel
theorem dX4_isFair_21 : decode cX4_isFair 21 = .ok (.goto 4, 3) := by decide +kernel
theorem dX4_isFair_24 : decode cX4_isFair 24 = .ok (.iconst 0, 1) := by decide +kernel
theorem dX4_isFair_25 : decode cX4_isFair 25 = .ok (.ireturn, 1) := by decide +kernel
theorem dX4_fairCount_0 : decode cX4_fairCount 0 = .ok (.iconst 0, 1) := by decide +kernel
theorem dX4_fairCount_1 : decode cX4_fairCount 1 = .ok (.istore_n 2, 1) := by decide +kernel
theorem dX4_fairCount_2 : decode cX4_fairCount 2 = .ok (.iconst 0, 1) := by decide +kernel
theorem dX4_fairCount_3 : decode cX4_fairCount 3 = .ok (.istore_n 3, 1) := by decide +kernel
theorem dX4_fairCount_4 : decode cX4_fairCount 4 = .ok (.iload_n 3, 1) := by decide +kernel
theorem dX4_fairCount_5 : decode cX4_fairCount 5 = .ok (.aload_n 1, 1) := by decide +kernel
theorem dX4_fairCount_6 : decode cX4_fairCount 6 = .ok (.invokevirtual 30, 3) := by decide +kernel
theorem dX4_fairCount_9 : decode cX4_fairCount 9 = .ok (.if_icmp .gt 21, 3) := by decide +kernel
theorem dX4_fairCount_12 : decode cX4_fairCount 12 = .ok (.aload_n 0, 1) := by decide +kernel
theorem dX4_fairCount_13 : decode cX4_fairCount 13 = .ok (.aload_n 1, 1) := by decide +kernel
theorem dX4_fairCount_14 : decode cX4_fairCount 14 = .ok (.iload_n 3, 1) := by decide +kernel
theorem dX4_fairCount_15 : decode cX4_fairCount 15 = .ok (.invokevirtual 38, 3) := by decide +kernel
theorem dX4_fairCount_18 : decode cX4_fairCount 18 = .ok (.ifCond .eq 6, 3) := by decide +kernel
theorem dX4_fairCount_21 : decode cX4_fairCount 21 = .ok (.iinc 2 1, 3) := by decide +kernel
theorem dX4_fairCount_24 : decode cX4_fairCount 24 = .ok (.iinc 3 1, 3) := by decide +kernel
theorem dX4_fairCount_27 : decode cX4_fairCount 27 = .ok (.goto (-23), 3) := by decide +kernel
theorem dX4_fairCount_30 : decode cX4_fairCount 30 = .ok (.iload_n 2, 1) := by decide +kernel
theorem dX4_fairCount_31 : decode cX4_fairCount 31 = .ok (.ireturn, 1) := by decide +kernel
theorem dX4_best_0 : decode cX4_best 0 = .ok (.bipush (-9), 2) := by decide +kernel
theorem dX4_best_2 : decode cX4_best 2 = .ok (.istore_n 2, 1) := by decide +kernel
theorem dX4_best_3 : decode cX4_best 3 = .ok (.iconst (-1), 1) := by decide +kernel
theorem dX4_best_4 : decode cX4_best 4 = .ok (.istore_n 3, 1) := by decide +kernel
theorem dX4_best_5 : decode cX4_best 5 = .ok (.iconst 0, 1) := by decide +kernel
theorem dX4_best_6 : decode cX4_best 6 = .ok (.istore 4, 2) := by decide +kernel
theorem dX4_best_8 : decode cX4_best 8 = .ok (.iload 4, 2) := by decide +kernel
theorem dX4_best_10 : decode cX4_best 10 = .ok (.aload_n 1, 1) := by decide +kernel
theorem dX4_best_11 : decode cX4_best 11 = .ok (.invokevirtual 30, 3) := by decide +kernel
theorem dX4_best_14 : decode cX4_best 14 = .ok (.if_icmp .gt 40, 3) := by decide +kernel
theorem dX4_best_17 : decode cX4_best 17 = .ok (.aload_n 0, 1) := by decide +kernel
theorem dX4_best_18 : decode cX4_best 18 = .ok (.aload_n 1, 1) := by decide +kernel
theorem dX4_best_19 : decode cX4_best 19 = .ok (.iload 4, 2) := by decide +kernel
theorem dX4_best_21 : decode cX4_best 21 = .ok (.invokevirtual 42, 3) := by decide +kernel
theorem dX4_best_24 : decode cX4_best 24 = .ok (.istore 5, 2) := by decide +kernel
theorem dX4_best_26 : decode cX4_best 26 = .ok (.iload 5, 2) := by decide +kernel
theorem dX4_best_28 : decode cX4_best 28 = .ok (.iload_n 3, 1) := by decide +kernel
theorem dX4_best_29 : decode cX4_best 29 = .ok (.if_icmp .le 19, 3) := by decide +kernel
theorem dX4_best_32 : decode cX4_best 32 = .ok (.aload_n 0, 1) := by decide +kernel
theorem dX4_best_33 : decode cX4_best 33 = .ok (.aload_n 1, 1) := by decide +kernel
theorem dX4_best_34 : decode cX4_best 34 = .ok (.iload 4, 2) := by decide +kernel
theorem dX4_best_36 : decode cX4_best 36 = .ok (.invokevirtual 38, 3) := by decide +kernel
theorem dX4_best_39 : decode cX4_best 39 = .ok (.ifCond .eq 9, 3) := by decide +kernel
theorem dX4_best_42 : decode cX4_best 42 = .ok (.iload 5, 2) := by decide +kernel
theorem dX4_best_44 : decode cX4_best 44 = .ok (.istore_n 3, 1) := by decide +kernel
theorem dX4_best_45 : decode cX4_best 45 = .ok (.iload 4, 2) := by decide +kernel
theorem dX4_best_47 : decode cX4_best 47 = .ok (.istore_n 2, 1) := by decide +kernel
theorem dX4_best_48 : decode cX4_best 48 = .ok (.iinc 4 1, 3) := by decide +kernel
theorem dX4_best_51 : decode cX4_best 51 = .ok (.goto (-43), 3) := by decide +kernel
theorem dX4_best_54 : decode cX4_best 54 = .ok (.iload_n 2, 1) := by decide +kernel
theorem dX4_best_55 : decode cX4_best 55 = .ok (.ireturn, 1) := by decide +kernel
theorem dX4_mostTotal_0 : decode cX4_mostTotal 0 = .ok (.iconst 0, 1) := by decide +kernel
theorem dX4_mostTotal_1 : decode cX4_mostTotal 1 = .ok (.istore_n 2, 1) := by decide +kernel
theorem dX4_mostTotal_2 : decode cX4_mostTotal 2 = .ok (.iconst 0, 1) := by decide +kernel
theorem dX4_mostTotal_3 : decode cX4_mostTotal 3 = .ok (.istore_n 3, 1) := by decide +kernel
theorem dX4_mostTotal_4 : decode cX4_mostTotal 4 = .ok (.iload_n 3, 1) := by decide +kernel
theorem dX4_mostTotal_5 : decode cX4_mostTotal 5 = .ok (.aload_n 1, 1) := by decide +kernel
theorem dX4_mostTotal_6 : decode cX4_mostTotal 6 = .ok (.invokevirtual 30, 3) := by decide +kernel
theorem dX4_mostTotal_9 : decode cX4_mostTotal 9 = .ok (.if_icmp .gt 20, 3) := by decide +kernel
theorem dX4_mostTotal_12 : decode cX4_mostTotal 12 = .ok (.iload_n 2, 1) := by decide +kernel
theorem dX4_mostTotal_13 : decode cX4_mostTotal 13 = .ok (.aload_n 0, 1) := by decide +kernel
theorem dX4_mostTotal_14 : decode cX4_mostTotal 14 = .ok (.aload_n 1, 1) := by decide +kernel
theorem dX4_mostTotal_15 : decode cX4_mostTotal 15 = .ok (.iload_n 3, 1) := by decide +kernel
theorem dX4_mostTotal_16 : decode cX4_mostTotal 16 = .ok (.invokevirtual 42, 3) := by decide +kernel
theorem dX4_mostTotal_19 : decode cX4_mostTotal 19 = .ok (.invokestatic 46, 3) := by decide +kernel
theorem dX4_mostTotal_22 : decode cX4_mostTotal 22 = .ok (.istore_n 2, 1) := by decide +kernel
theorem dX4_mostTotal_23 : decode cX4_mostTotal 23 = .ok (.iinc 3 1, 3) := by decide +kernel
theorem dX4_mostTotal_26 : decode cX4_mostTotal 26 = .ok (.goto (-22), 3) := by decide +kernel
theorem dX4_mostTotal_29 : decode cX4_mostTotal 29 = .ok (.iload_n 2, 1) := by decide +kernel
theorem dX4_mostTotal_30 : decode cX4_mostTotal 30 = .ok (.ireturn, 1) := by decide +kernel
theorem dX4_leftToCutter_0 : decode cX4_leftToCutter 0 = .ok (.aload_n 1, 1) := by decide +kernel
theorem dX4_leftToCutter_1 : decode cX4_leftToCutter 1 = .ok (.invokevirtual 30, 3) := by decide +kernel
theorem dX4_leftToCutter_4 : decode cX4_leftToCutter 4 = .ok (.iload_n 3, 1) := by decide +kernel
theorem dX4_leftToCutter_5 : decode cX4_leftToCutter 5 = .ok (.ixor, 1) := by decide +kernel
theorem dX4_leftToCutter_6 : decode cX4_leftToCutter 6 = .ok (.istore 4, 2) := by decide +kernel
theorem dX4_leftToCutter_8 : decode cX4_leftToCutter 8 = .ok (.aload_n 1, 1) := by decide +kernel
theorem dX4_leftToCutter_9 : decode cX4_leftToCutter 9 = .ok (.iconst 1, 1) := by decide +kernel
theorem dX4_leftToCutter_10 : decode cX4_leftToCutter 10 = .ok (.iload_n 2, 1) := by decide +kernel
theorem dX4_leftToCutter_11 : decode cX4_leftToCutter 11 = .ok (.isub, 1) := by decide +kernel
theorem dX4_leftToCutter_12 : decode cX4_leftToCutter 12 = .ok (.iload_n 3, 1) := by decide +kernel
theorem dX4_leftToCutter_13 : decode cX4_leftToCutter 13 = .ok (.invokevirtual 27, 3) := by decide +kernel
theorem dX4_leftToCutter_16 : decode cX4_leftToCutter 16 = .ok (.aload_n 1, 1) := by decide +kernel
theorem dX4_leftToCutter_17 : decode cX4_leftToCutter 17 = .ok (.iconst 1, 1) := by decide +kernel
theorem dX4_leftToCutter_18 : decode cX4_leftToCutter 18 = .ok (.iload_n 2, 1) := by decide +kernel
theorem dX4_leftToCutter_19 : decode cX4_leftToCutter 19 = .ok (.isub, 1) := by decide +kernel
theorem dX4_leftToCutter_20 : decode cX4_leftToCutter 20 = .ok (.iload 4, 2) := by decide +kernel
theorem dX4_leftToCutter_22 : decode cX4_leftToCutter 22 = .ok (.invokevirtual 27, 3) := by decide +kernel
theorem dX4_leftToCutter_25 : decode cX4_leftToCutter 25 = .ok (.if_icmp .le 7, 3) := by decide +kernel
theorem dX4_leftToCutter_28 : decode cX4_leftToCutter 28 = .ok (.iconst 1, 1) := by decide +kernel
theorem dX4_leftToCutter_29 : decode cX4_leftToCutter 29 = .ok (.goto 4, 3) := by decide +kernel
theorem dX4_leftToCutter_32 : decode cX4_leftToCutter 32 = .ok (.iconst 0, 1) := by decide +kernel
theorem dX4_leftToCutter_33 : decode cX4_leftToCutter 33 = .ok (.istore 5, 2) := by decide +kernel
theorem dX4_leftToCutter_35 : decode cX4_leftToCutter 35 = .ok (.aload_n 1, 1) := by decide +kernel
theorem dX4_leftToCutter_36 : decode cX4_leftToCutter 36 = .ok (.iload_n 2, 1) := by decide +kernel
theorem dX4_leftToCutter_37 : decode cX4_leftToCutter 37 = .ok (.iload 5, 2) := by decide +kernel
theorem dX4_leftToCutter_39 : decode cX4_leftToCutter 39 = .ok (.ifCond .eq 8, 3) := by decide +kernel
theorem dX4_leftToCutter_42 : decode cX4_leftToCutter 42 = .ok (.iload 4, 2) := by decide +kernel
theorem dX4_leftToCutter_44 : decode cX4_leftToCutter 44 = .ok (.goto 4, 3) := by decide +kernel
theorem dX4_leftToCutter_47 : decode cX4_leftToCutter 47 = .ok (.iload_n 3, 1) := by decide +kernel
theorem dX4_leftToCutter_48 : decode cX4_leftToCutter 48 = .ok (.invokevirtual 27, 3) := by decide +kernel
theorem dX4_leftToCutter_51 : decode cX4_leftToCutter 51 = .ok (.ireturn, 1) := by decide +kernel
theorem dX4_bestCut_0 : decode cX4_bestCut 0 = .ok (.iconst 0, 1) := by decide +kernel
theorem dX4_bestCut_1 : decode cX4_bestCut 1 = .ok (.istore_n 3, 1) := by decide +kernel
theorem dX4_bestCut_2 : decode cX4_bestCut 2 = .ok (.iconst (-1), 1) := by decide +kernel
theorem dX4_bestCut_3 : decode cX4_bestCut 3 = .ok (.istore 4, 2) := by decide +kernel
theorem dX4_bestCut_5 : decode cX4_bestCut 5 = .ok (.iconst 0, 1) := by decide +kernel
theorem dX4_bestCut_6 : decode cX4_bestCut 6 = .ok (.istore 5, 2) := by decide +kernel
theorem dX4_bestCut_8 : decode cX4_bestCut 8 = .ok (.iload 5, 2) := by decide +kernel
theorem dX4_bestCut_10 : decode cX4_bestCut 10 = .ok (.aload_n 1, 1) := by decide +kernel
theorem dX4_bestCut_11 : decode cX4_bestCut 11 = .ok (.invokevirtual 30, 3) := by decide +kernel
theorem dX4_bestCut_14 : decode cX4_bestCut 14 = .ok (.if_icmp .gt 33, 3) := by decide +kernel
theorem dX4_bestCut_17 : decode cX4_bestCut 17 = .ok (.aload_n 0, 1) := by decide +kernel
theorem dX4_bestCut_18 : decode cX4_bestCut 18 = .ok (.aload_n 1, 1) := by decide +kernel
theorem dX4_bestCut_19 : decode cX4_bestCut 19 = .ok (.iload_n 2, 1) := by decide +kernel
theorem dX4_bestCut_20 : decode cX4_bestCut 20 = .ok (.iload 5, 2) := by decide +kernel
theorem dX4_bestCut_22 : decode cX4_bestCut 22 = .ok (.invokevirtual 51, 3) := by decide +kernel
theorem dX4_bestCut_25 : decode cX4_bestCut 25 = .ok (.istore 6, 2) := by decide +kernel
theorem dX4_bestCut_27 : decode cX4_bestCut 27 = .ok (.iload 6, 2) := by decide +kernel
theorem dX4_bestCut_29 : decode cX4_bestCut 29 = .ok (.iload 4, 2) := by decide +kernel
theorem dX4_bestCut_31 : decode cX4_bestCut 31 = .ok (.if_icmp .le 10, 3) := by decide +kernel
theorem dX4_bestCut_34 : decode cX4_bestCut 34 = .ok (.iload 6, 2) := by decide +kernel
theorem dX4_bestCut_36 : decode cX4_bestCut 36 = .ok (.istore 4, 2) := by decide +kernel
theorem dX4_bestCut_38 : decode cX4_bestCut 38 = .ok (.iload 5, 2) := by decide +kernel
theorem dX4_bestCut_40 : decode cX4_bestCut 40 = .ok (.istore_n 3, 1) := by decide +kernel
theorem dX4_bestCut_41 : decode cX4_bestCut 41 = .ok (.iinc 5 1, 3) := by decide +kernel
theorem dX4_bestCut_44 : decode cX4_bestCut 44 = .ok (.goto (-36), 3) := by decide +kernel
theorem dX4_bestCut_47 : decode cX4_bestCut 47 = .ok (.iload_n 3, 1) := by decide +kernel
theorem dX4_bestCut_48 : decode cX4_bestCut 48 = .ok (.ireturn, 1) := by decide +kernel
theorem dX4_outcome_0 : decode cX4_outcome 0 = .ok (.iload_n 3, 1) := by decide +kernel
theorem dX4_outcome_1 : decode cX4_outcome 1 = .ok (.ifCond .eq 10, 3) := by decide +kernel
theorem dX4_outcome_4 : decode cX4_outcome 4 = .ok (.iload 5, 2) := by decide +kernel
theorem dX4_outcome_6 : decode cX4_outcome 6 = .ok (.bipush 6, 2) := by decide +kernel
theorem dX4_outcome_8 : decode cX4_outcome 8 = .ok (.if_icmp .lt 5, 3) := by decide +kernel
theorem dX4_outcome_11 : decode cX4_outcome 11 = .ok (.iload_n 2, 1) := by decide +kernel
theorem dX4_outcome_12 : decode cX4_outcome 12 = .ok (.ireturn, 1) := by decide +kernel
theorem dX4_outcome_13 : decode cX4_outcome 13 = .ok (.iload_n 2, 1) := by decide +kernel
theorem dX4_outcome_14 : decode cX4_outcome 14 = .ok (.istore 6, 2) := by decide +kernel
theorem dX4_outcome_16 : decode cX4_outcome 16 = .ok (.iconst (-1), 1) := by decide +kernel
theorem dX4_outcome_17 : decode cX4_outcome 17 = .ok (.istore 7, 2) := by decide +kernel
theorem dX4_outcome_19 : decode cX4_outcome 19 = .ok (.iconst 0, 1) := by decide +kernel
theorem dX4_outcome_20 : decode cX4_outcome 20 = .ok (.istore 8, 2) := by decide +kernel
theorem dX4_outcome_22 : decode cX4_outcome 22 = .ok (.iload 8, 2) := by decide +kernel
theorem dX4_outcome_24 : decode cX4_outcome 24 = .ok (.aload_n 1, 1) := by decide +kernel
theorem dX4_outcome_25 : decode cX4_outcome 25 = .ok (.getfield 54, 3) := by decide +kernel
theorem dX4_outcome_28 : decode cX4_outcome 28 = .ok (.if_icmp .ge 101, 3) := by decide +kernel
theorem dX4_outcome_31 : decode cX4_outcome 31 = .ok (.iconst 1, 1) := by decide +kernel
theorem dX4_outcome_32 : decode cX4_outcome 32 = .ok (.iload 8, 2) := by decide +kernel
theorem dX4_outcome_34 : decode cX4_outcome 34 = .ok (.ishl, 1) := by decide +kernel
theorem dX4_outcome_35 : decode cX4_outcome 35 = .ok (.istore 9, 2) := by decide +kernel
theorem dX4_outcome_37 : decode cX4_outcome 37 = .ok (.iload_n 3, 1) := by decide +kernel
theorem dX4_outcome_38 : decode cX4_outcome 38 = .ok (.iload 9, 2) := by decide +kernel
theorem dX4_outcome_40 : decode cX4_outcome 40 = .ok (.iand, 1) := by decide +kernel
theorem dX4_outcome_41 : decode cX4_outcome 41 = .ok (.ifCond .eq 82, 3) := by decide +kernel
theorem dX4_outcome_44 : decode cX4_outcome 44 = .ok (.iload 4, 2) := by decide +kernel
theorem dX4_outcome_46 : decode cX4_outcome 46 = .ok (.iconst 1, 1) := by decide +kernel
theorem dX4_outcome_47 : decode cX4_outcome 47 = .ok (.if_icmp .ne 10, 3) := by decide +kernel
theorem dX4_outcome_50 : decode cX4_outcome 50 = .ok (.iload_n 2, 1) := by decide +kernel
theorem dX4_outcome_51 : decode cX4_outcome 51 = .ok (.iload 9, 2) := by decide +kernel
theorem dX4_outcome_53 : decode cX4_outcome 53 = .ok (.ior, 1) := by decide +kernel
theorem dX4_outcome_54 : decode cX4_outcome 54 = .ok (.goto 4, 3) := by decide +kernel
theorem dX4_outcome_57 : decode cX4_outcome 57 = .ok (.iload_n 2, 1) := by decide +kernel
theorem dX4_outcome_58 : decode cX4_outcome 58 = .ok (.istore 10, 2) := by decide +kernel
theorem dX4_outcome_60 : decode cX4_outcome 60 = .ok (.aload_n 0, 1) := by decide +kernel
theorem dX4_outcome_61 : decode cX4_outcome 61 = .ok (.aload_n 1, 1) := by decide +kernel
theorem dX4_outcome_62 : decode cX4_outcome 62 = .ok (.iload 10, 2) := by decide +kernel
theorem dX4_outcome_64 : decode cX4_outcome 64 = .ok (.iload_n 3, 1) := by decide +kernel
theorem dX4_outcome_65 : decode cX4_outcome 65 = .ok (.iload 9, 2) := by decide +kernel
theorem dX4_outcome_67 : decode cX4_outcome 67 = .ok (.ixor, 1) := by decide +kernel
theorem dX4_outcome_68 : decode cX4_outcome 68 = .ok (.iconst 1, 1) := by decide +kernel
theorem dX4_outcome_69 : decode cX4_outcome 69 = .ok (.iload 4, 2) := by decide +kernel
theorem dX4_outcome_71 : decode cX4_outcome 71 = .ok (.isub, 1) := by decide +kernel
theorem dX4_outcome_72 : decode cX4_outcome 72 = .ok (.iload 5, 2) := by decide +kernel
theorem dX4_outcome_74 : decode cX4_outcome 74 = .ok (.iconst 1, 1) := by decide +kernel
theorem dX4_outcome_75 : decode cX4_outcome 75 = .ok (.iadd, 1) := by decide +kernel
theorem dX4_outcome_76 : decode cX4_outcome 76 = .ok (.invokevirtual 58, 3) := by decide +kernel
theorem dX4_outcome_79 : decode cX4_outcome 79 = .ok (.bipush 64, 2) := by decide +kernel
theorem dX4_outcome_81 : decode cX4_outcome 81 = .ok (.irem, 1) := by decide +kernel
theorem dX4_outcome_82 : decode cX4_outcome 82 = .ok (.istore 11, 2) := by decide +kernel
theorem dX4_outcome_84 : decode cX4_outcome 84 = .ok (.aload_n 1, 1) := by decide +kernel
theorem dX4_outcome_85 : decode cX4_outcome 85 = .ok (.iload 4, 2) := by decide +kernel
theorem dX4_outcome_87 : decode cX4_outcome 87 = .ok (.aload_n 1, 1) := by decide +kernel
theorem dX4_outcome_88 : decode cX4_outcome 88 = .ok (.iload 4, 2) := by decide +kernel
theorem dX4_outcome_90 : decode cX4_outcome 90 = .ok (.iload 11, 2) := by decide +kernel
theorem dX4_outcome_92 : decode cX4_outcome 92 = .ok (.invokevirtual 21, 3) := by decide +kernel
theorem dX4_outcome_95 : decode cX4_outcome 95 = .ok (.invokevirtual 27, 3) := by decide +kernel
theorem dX4_outcome_98 : decode cX4_outcome 98 = .ok (.istore 12, 2) := by decide +kernel
theorem dX4_outcome_100 : decode cX4_outcome 100 = .ok (.iload 12, 2) := by decide +kernel
theorem dX4_outcome_102 : decode cX4_outcome 102 = .ok (.iload 7, 2) := by decide +kernel
theorem dX4_outcome_104 : decode cX4_outcome 104 = .ok (.if_icmp .le 19, 3) := by decide +kernel
theorem dX4_outcome_107 : decode cX4_outcome 107 = .ok (.iload 12, 2) := by decide +kernel
theorem dX4_outcome_109 : decode cX4_outcome 109 = .ok (.istore 7, 2) := by decide +kernel
theorem dX4_outcome_111 : decode cX4_outcome 111 = .ok (.iload 11, 2) := by decide +kernel
theorem dX4_outcome_113 : decode cX4_outcome 113 = .ok (.bipush 64, 2) := by decide +kernel
theorem dX4_outcome_115 : decode cX4_outcome 115 = .ok (.iload 8, 2) := by decide +kernel
theorem dX4_outcome_117 : decode cX4_outcome 117 = .ok (.iconst 1, 1) := by decide +kernel
theorem dX4_outcome_118 : decode cX4_outcome 118 = .ok (.iadd, 1) := by decide +kernel
theorem dX4_outcome_119 : decode cX4_outcome 119 = .ok (.imul, 1) := by decide +kernel
theorem dX4_outcome_120 : decode cX4_outcome 120 = .ok (.iadd, 1) := by decide +kernel
theorem dX4_outcome_121 : decode cX4_outcome 121 = .ok (.istore 6, 2) := by decide +kernel
theorem dX4_outcome_123 : decode cX4_outcome 123 = .ok (.iinc 8 1, 3) := by decide +kernel
theorem dX4_outcome_126 : decode cX4_outcome 126 = .ok (.goto (-104), 3) := by decide +kernel
theorem dX4_outcome_129 : decode cX4_outcome 129 = .ok (.iload 6, 2) := by decide +kernel
theorem dX4_outcome_131 : decode cX4_outcome 131 = .ok (.ireturn, 1) := by decide +kernel
theorem dX4_seekLie_0 : decode cX4_seekLie 0 = .ok (.aload_n 0, 1) := by decide +kernel
theorem dX4_seekLie_1 : decode cX4_seekLie 1 = .ok (.iconst 0, 1) := by decide +kernel
theorem dX4_seekLie_2 : decode cX4_seekLie 2 = .ok (.putfield 62, 3) := by decide +kernel
theorem dX4_seekLie_5 : decode cX4_seekLie 5 = .ok (.aload_n 0, 1) := by decide +kernel
theorem dX4_seekLie_6 : decode cX4_seekLie 6 = .ok (.bipush (-9), 2) := by decide +kernel
theorem dX4_seekLie_8 : decode cX4_seekLie 8 = .ok (.putfield 65, 3) := by decide +kernel
theorem dX4_seekLie_11 : decode cX4_seekLie 11 = .ok (.aload_n 0, 1) := by decide +kernel
theorem dX4_seekLie_12 : decode cX4_seekLie 12 = .ok (.aload_n 1, 1) := by decide +kernel
theorem dX4_seekLie_13 : decode cX4_seekLie 13 = .ok (.iload_n 2, 1) := by decide +kernel
theorem dX4_seekLie_14 : decode cX4_seekLie 14 = .ok (.invokevirtual 68, 3) := by decide +kernel
theorem dX4_seekLie_17 : decode cX4_seekLie 17 = .ok (.aload_n 1, 1) := by decide +kernel
theorem dX4_seekLie_18 : decode cX4_seekLie 18 = .ok (.iload_n 2, 1) := by decide +kernel
theorem dX4_seekLie_19 : decode cX4_seekLie 19 = .ok (.aload_n 0, 1) := by decide +kernel
theorem dX4_seekLie_20 : decode cX4_seekLie 20 = .ok (.iconst 0, 1) := by decide +kernel
theorem dX4_seekLie_21 : decode cX4_seekLie 21 = .ok (.iconst 0, 1) := by decide +kernel
theorem dX4_seekLie_22 : decode cX4_seekLie 22 = .ok (.invokevirtual 72, 3) := by decide +kernel
theorem dX4_seekLie_25 : decode cX4_seekLie 25 = .ok (.invokevirtual 27, 3) := by decide +kernel
theorem dX4_seekLie_28 : decode cX4_seekLie 28 = .ok (.istore_n 3, 1) := by decide +kernel
theorem dX4_seekLie_29 : decode cX4_seekLie 29 = .ok (.iconst 0, 1) := by decide +kernel
theorem dX4_seekLie_30 : decode cX4_seekLie 30 = .ok (.istore 4, 2) := by decide +kernel
theorem dX4_seekLie_32 : decode cX4_seekLie 32 = .ok (.iload 4, 2) := by decide +kernel
theorem dX4_seekLie_34 : decode cX4_seekLie 34 = .ok (.aload_n 1, 1) := by decide +kernel
theorem dX4_seekLie_35 : decode cX4_seekLie 35 = .ok (.getfield 54, 3) := by decide +kernel
theorem dX4_seekLie_38 : decode cX4_seekLie 38 = .ok (.if_icmp .ge 88, 3) := by decide +kernel
theorem dX4_seekLie_41 : decode cX4_seekLie 41 = .ok (.iconst 0, 1) := by decide +kernel
theorem dX4_seekLie_42 : decode cX4_seekLie 42 = .ok (.istore 5, 2) := by decide +kernel
theorem dX4_seekLie_44 : decode cX4_seekLie 44 = .ok (.iload 5, 2) := by decide +kernel
theorem dX4_seekLie_46 : decode cX4_seekLie 46 = .ok (.bipush 20, 2) := by decide +kernel
theorem dX4_seekLie_48 : decode cX4_seekLie 48 = .ok (.if_icmp .gt 72, 3) := by decide +kernel
theorem dX4_seekLie_51 : decode cX4_seekLie 51 = .ok (.iload 5, 2) := by decide +kernel
theorem dX4_seekLie_53 : decode cX4_seekLie 53 = .ok (.aload_n 1, 1) := by decide +kernel
theorem dX4_seekLie_54 : decode cX4_seekLie 54 = .ok (.iload_n 2, 1) := by decide +kernel
theorem dX4_seekLie_55 : decode cX4_seekLie 55 = .ok (.iload 4, 2) := by decide +kernel
theorem dX4_seekLie_57 : decode cX4_seekLie 57 = .ok (.invokevirtual 75, 3) := by decide +kernel
theorem dX4_seekLie_60 : decode cX4_seekLie 60 = .ok (.isub, 1) := by decide +kernel
theorem dX4_seekLie_61 : decode cX4_seekLie 61 = .ok (.istore 6, 2) := by decide +kernel
theorem dX4_seekLie_63 : decode cX4_seekLie 63 = .ok (.aload_n 1, 1) := by decide +kernel
theorem dX4_seekLie_64 : decode cX4_seekLie 64 = .ok (.iload_n 2, 1) := by decide +kernel
theorem dX4_seekLie_65 : decode cX4_seekLie 65 = .ok (.aload_n 0, 1) := by decide +kernel
theorem dX4_seekLie_66 : decode cX4_seekLie 66 = .ok (.iconst 1, 1) := by decide +kernel
theorem dX4_seekLie_67 : decode cX4_seekLie 67 = .ok (.iload 4, 2) := by decide +kernel
theorem dX4_seekLie_69 : decode cX4_seekLie 69 = .ok (.ishl, 1) := by decide +kernel
theorem dX4_seekLie_70 : decode cX4_seekLie 70 = .ok (.iload 6, 2) := by decide +kernel
theorem dX4_seekLie_72 : decode cX4_seekLie 72 = .ok (.invokevirtual 72, 3) := by decide +kernel
theorem dX4_seekLie_75 : decode cX4_seekLie 75 = .ok (.invokevirtual 27, 3) := by decide +kernel
theorem dX4_seekLie_78 : decode cX4_seekLie 78 = .ok (.iload_n 3, 1) := by decide +kernel
theorem dX4_seekLie_79 : decode cX4_seekLie 79 = .ok (.isub, 1) := by decide +kernel
theorem dX4_seekLie_80 : decode cX4_seekLie 80 = .ok (.istore 7, 2) := by decide +kernel
theorem dX4_seekLie_82 : decode cX4_seekLie 82 = .ok (.iload 6, 2) := by decide +kernel
theorem dX4_seekLie_84 : decode cX4_seekLie 84 = .ok (.ifCond .eq 30, 3) := by decide +kernel
theorem dX4_seekLie_87 : decode cX4_seekLie 87 = .ok (.iload 7, 2) := by decide +kernel
theorem dX4_seekLie_89 : decode cX4_seekLie 89 = .ok (.aload_n 0, 1) := by decide +kernel
theorem dX4_seekLie_90 : decode cX4_seekLie 90 = .ok (.getfield 62, 3) := by decide +kernel
theorem dX4_seekLie_93 : decode cX4_seekLie 93 = .ok (.if_icmp .le 21, 3) := by decide +kernel
theorem dX4_seekLie_96 : decode cX4_seekLie 96 = .ok (.aload_n 0, 1) := by decide +kernel
theorem dX4_seekLie_97 : decode cX4_seekLie 97 = .ok (.iload 7, 2) := by decide +kernel
theorem dX4_seekLie_99 : decode cX4_seekLie 99 = .ok (.putfield 62, 3) := by decide +kernel
theorem dX4_seekLie_102 : decode cX4_seekLie 102 = .ok (.aload_n 0, 1) := by decide +kernel
theorem dX4_seekLie_103 : decode cX4_seekLie 103 = .ok (.bipush 100, 2) := by decide +kernel
theorem dX4_seekLie_105 : decode cX4_seekLie 105 = .ok (.iload 4, 2) := by decide +kernel
theorem dX4_seekLie_107 : decode cX4_seekLie 107 = .ok (.imul, 1) := by decide +kernel
theorem dX4_seekLie_108 : decode cX4_seekLie 108 = .ok (.iload 5, 2) := by decide +kernel
theorem dX4_seekLie_110 : decode cX4_seekLie 110 = .ok (.iadd, 1) := by decide +kernel
theorem dX4_seekLie_111 : decode cX4_seekLie 111 = .ok (.putfield 65, 3) := by decide +kernel
theorem dX4_seekLie_114 : decode cX4_seekLie 114 = .ok (.iinc 5 1, 3) := by decide +kernel
theorem dX4_seekLie_117 : decode cX4_seekLie 117 = .ok (.goto (-73), 3) := by decide +kernel
theorem dX4_seekLie_120 : decode cX4_seekLie 120 = .ok (.iinc 4 1, 3) := by decide +kernel
theorem dX4_seekLie_123 : decode cX4_seekLie 123 = .ok (.goto (-91), 3) := by decide +kernel
theorem dX4_seekLie_126 : decode cX4_seekLie 126 = .ok (.return_, 1) := by decide +kernel
theorem dX4_listOthersFair_0 : decode cX4_listOthersFair 0 = .ok (.aload_n 0, 1) := by decide +kernel
theorem dX4_listOthersFair_1 : decode cX4_listOthersFair 1 = .ok (.iconst 0, 1) := by decide +kernel
theorem dX4_listOthersFair_2 : decode cX4_listOthersFair 2 = .ok (.putfield 78, 3) := by decide +kernel
theorem dX4_listOthersFair_5 : decode cX4_listOthersFair 5 = .ok (.iconst 0, 1) := by decide +kernel
theorem dX4_listOthersFair_6 : decode cX4_listOthersFair 6 = .ok (.istore_n 3, 1) := by decide +kernel
theorem dX4_listOthersFair_7 : decode cX4_listOthersFair 7 = .ok (.iload_n 3, 1) := by decide +kernel
theorem dX4_listOthersFair_8 : decode cX4_listOthersFair 8 = .ok (.aload_n 1, 1) := by decide +kernel
theorem dX4_listOthersFair_9 : decode cX4_listOthersFair 9 = .ok (.invokevirtual 30, 3) := by decide +kernel
theorem dX4_listOthersFair_12 : decode cX4_listOthersFair 12 = .ok (.if_icmp .gt 93, 3) := by decide +kernel
theorem dX4_listOthersFair_15 : decode cX4_listOthersFair 15 = .ok (.aload_n 0, 1) := by decide +kernel
theorem dX4_listOthersFair_16 : decode cX4_listOthersFair 16 = .ok (.aload_n 1, 1) := by decide +kernel
theorem dX4_listOthersFair_17 : decode cX4_listOthersFair 17 = .ok (.iconst 1, 1) := by decide +kernel
theorem dX4_listOthersFair_18 : decode cX4_listOthersFair 18 = .ok (.iload_n 2, 1) := by decide +kernel
theorem dX4_listOthersFair_19 : decode cX4_listOthersFair 19 = .ok (.isub, 1) := by decide +kernel
theorem dX4_listOthersFair_20 : decode cX4_listOthersFair 20 = .ok (.iload_n 3, 1) := by decide +kernel
theorem dX4_listOthersFair_21 : decode cX4_listOthersFair 21 = .ok (.invokevirtual 34, 3) := by decide +kernel
theorem dX4_listOthersFair_24 : decode cX4_listOthersFair 24 = .ok (.ifCond .lt 75, 3) := by decide +kernel
theorem dX4_listOthersFair_27 : decode cX4_listOthersFair 27 = .ok (.aload_n 0, 1) := by decide +kernel
theorem dX4_listOthersFair_28 : decode cX4_listOthersFair 28 = .ok (.getfield 78, 3) := by decide +kernel
theorem dX4_listOthersFair_31 : decode cX4_listOthersFair 31 = .ok (.ifCond .lt 68, 3) := by decide +kernel
theorem dX4_listOthersFair_34 : decode cX4_listOthersFair 34 = .ok (.aload_n 0, 1) := by decide +kernel
theorem dX4_listOthersFair_35 : decode cX4_listOthersFair 35 = .ok (.getfield 78, 3) := by decide +kernel
theorem dX4_listOthersFair_38 : decode cX4_listOthersFair 38 = .ok (.bipush 64, 2) := by decide +kernel
theorem dX4_listOthersFair_40 : decode cX4_listOthersFair 40 = .ok (.if_icmp .ge 59, 3) := by decide +kernel
theorem dX4_listOthersFair_43 : decode cX4_listOthersFair 43 = .ok (.aload_n 0, 1) := by decide +kernel
theorem dX4_listOthersFair_44 : decode cX4_listOthersFair 44 = .ok (.getfield 9, 3) := by decide +kernel
theorem dX4_listOthersFair_47 : decode cX4_listOthersFair 47 = .ok (.aload_n 0, 1) := by decide +kernel
theorem dX4_listOthersFair_48 : decode cX4_listOthersFair 48 = .ok (.getfield 78, 3) := by decide +kernel
theorem dX4_listOthersFair_51 : decode cX4_listOthersFair 51 = .ok (.aload_n 1, 1) := by decide +kernel
theorem dX4_listOthersFair_52 : decode cX4_listOthersFair 52 = .ok (.iload_n 2, 1) := by decide +kernel
theorem dX4_listOthersFair_53 : decode cX4_listOthersFair 53 = .ok (.iload_n 3, 1) := by decide +kernel
theorem dX4_listOthersFair_54 : decode cX4_listOthersFair 54 = .ok (.invokevirtual 21, 3) := by decide +kernel
theorem dX4_listOthersFair_57 : decode cX4_listOthersFair 57 = .ok (.iastore, 1) := by decide +kernel
theorem dX4_listOthersFair_58 : decode cX4_listOthersFair 58 = .ok (.aload_n 0, 1) := by decide +kernel
theorem dX4_listOthersFair_59 : decode cX4_listOthersFair 59 = .ok (.getfield 15, 3) := by decide +kernel
theorem dX4_listOthersFair_62 : decode cX4_listOthersFair 62 = .ok (.aload_n 0, 1) := by decide +kernel
theorem dX4_listOthersFair_63 : decode cX4_listOthersFair 63 = .ok (.getfield 78, 3) := by decide +kernel
theorem dX4_listOthersFair_66 : decode cX4_listOthersFair 66 = .ok (.aload_n 0, 1) := by decide +kernel
theorem dX4_listOthersFair_67 : decode cX4_listOthersFair 67 = .ok (.aload_n 1, 1) := by decide +kernel
theorem dX4_listOthersFair_68 : decode cX4_listOthersFair 68 = .ok (.iload_n 2, 1) := by decide +kernel
theorem dX4_listOthersFair_69 : decode cX4_listOthersFair 69 = .ok (.iload_n 3, 1) := by decide +kernel
theorem dX4_listOthersFair_70 : decode cX4_listOthersFair 70 = .ok (.invokevirtual 34, 3) := by decide +kernel
theorem dX4_listOthersFair_73 : decode cX4_listOthersFair 73 = .ok (.iastore, 1) := by decide +kernel
theorem dX4_listOthersFair_74 : decode cX4_listOthersFair 74 = .ok (.aload_n 0, 1) := by decide +kernel
theorem dX4_listOthersFair_75 : decode cX4_listOthersFair 75 = .ok (.getfield 18, 3) := by decide +kernel
theorem dX4_listOthersFair_78 : decode cX4_listOthersFair 78 = .ok (.aload_n 0, 1) := by decide +kernel
theorem dX4_listOthersFair_79 : decode cX4_listOthersFair 79 = .ok (.getfield 78, 3) := by decide +kernel
theorem dX4_listOthersFair_82 : decode cX4_listOthersFair 82 = .ok (.aload_n 0, 1) := by decide +kernel
theorem dX4_listOthersFair_83 : decode cX4_listOthersFair 83 = .ok (.aload_n 1, 1) := by decide +kernel
theorem dX4_listOthersFair_84 : decode cX4_listOthersFair 84 = .ok (.iload_n 3, 1) := by decide +kernel
theorem dX4_listOthersFair_85 : decode cX4_listOthersFair 85 = .ok (.invokevirtual 42, 3) := by decide +kernel
theorem dX4_listOthersFair_88 : decode cX4_listOthersFair 88 = .ok (.iastore, 1) := by decide +kernel
theorem dX4_listOthersFair_89 : decode cX4_listOthersFair 89 = .ok (.aload_n 0, 1) := by decide +kernel
theorem dX4_listOthersFair_90 : decode cX4_listOthersFair 90 = .ok (.dup, 1) := by decide +kernel
theorem dX4_listOthersFair_91 : decode cX4_listOthersFair 91 = .ok (.getfield 78, 3) := by decide +kernel
theorem dX4_listOthersFair_94 : decode cX4_listOthersFair 94 = .ok (.iconst 1, 1) := by decide +kernel
theorem dX4_listOthersFair_95 : decode cX4_listOthersFair 95 = .ok (.iadd, 1) := by decide +kernel
theorem dX4_listOthersFair_96 : decode cX4_listOthersFair 96 = .ok (.putfield 78, 3) := by decide +kernel
theorem dX4_listOthersFair_99 : decode cX4_listOthersFair 99 = .ok (.iinc 3 1, 3) := by decide +kernel
theorem dX4_listOthersFair_102 : decode cX4_listOthersFair 102 = .ok (.goto (-95), 3) := by decide +kernel
theorem dX4_listOthersFair_105 : decode cX4_listOthersFair 105 = .ok (.return_, 1) := by decide +kernel
theorem dX4_ownInBestTold_0 : decode cX4_ownInBestTold 0 = .ok (.iconst 0, 1) := by decide +kernel
theorem dX4_ownInBestTold_1 : decode cX4_ownInBestTold 1 = .ok (.istore_n 3, 1) := by decide +kernel
theorem dX4_ownInBestTold_2 : decode cX4_ownInBestTold 2 = .ok (.iconst (-1), 1) := by decide +kernel
theorem dX4_ownInBestTold_3 : decode cX4_ownInBestTold 3 = .ok (.istore 4, 2) := by decide +kernel
theorem dX4_ownInBestTold_5 : decode cX4_ownInBestTold 5 = .ok (.iconst 0, 1) := by decide +kernel
theorem dX4_ownInBestTold_6 : decode cX4_ownInBestTold 6 = .ok (.istore 5, 2) := by decide +kernel
theorem dX4_ownInBestTold_8 : decode cX4_ownInBestTold 8 = .ok (.iload 5, 2) := by decide +kernel
theorem dX4_ownInBestTold_10 : decode cX4_ownInBestTold 10 = .ok (.aload_n 0, 1) := by decide +kernel
theorem dX4_ownInBestTold_11 : decode cX4_ownInBestTold 11 = .ok (.getfield 78, 3) := by decide +kernel
theorem dX4_ownInBestTold_14 : decode cX4_ownInBestTold 14 = .ok (.if_icmp .ge 113, 3) := by decide +kernel
theorem dX4_ownInBestTold_17 : decode cX4_ownInBestTold 17 = .ok (.iload 5, 2) := by decide +kernel
theorem dX4_ownInBestTold_19 : decode cX4_ownInBestTold 19 = .ok (.bipush 64, 2) := by decide +kernel
theorem dX4_ownInBestTold_21 : decode cX4_ownInBestTold 21 = .ok (.if_icmp .ge 106, 3) := by decide +kernel
theorem dX4_ownInBestTold_24 : decode cX4_ownInBestTold 24 = .ok (.aload_n 0, 1) := by decide +kernel
theorem dX4_ownInBestTold_25 : decode cX4_ownInBestTold 25 = .ok (.getfield 9, 3) := by decide +kernel
theorem dX4_ownInBestTold_28 : decode cX4_ownInBestTold 28 = .ok (.iload 5, 2) := by decide +kernel
theorem dX4_ownInBestTold_30 : decode cX4_ownInBestTold 30 = .ok (.iaload, 1) := by decide +kernel
theorem dX4_ownInBestTold_31 : decode cX4_ownInBestTold 31 = .ok (.iload_n 1, 1) := by decide +kernel
theorem dX4_ownInBestTold_32 : decode cX4_ownInBestTold 32 = .ok (.iand, 1) := by decide +kernel
theorem dX4_ownInBestTold_33 : decode cX4_ownInBestTold 33 = .ok (.ifCond .eq 7, 3) := by decide +kernel
theorem dX4_ownInBestTold_36 : decode cX4_ownInBestTold 36 = .ok (.iconst 1, 1) := by decide +kernel
theorem dX4_ownInBestTold_37 : decode cX4_ownInBestTold 37 = .ok (.goto 4, 3) := by decide +kernel
theorem dX4_ownInBestTold_40 : decode cX4_ownInBestTold 40 = .ok (.iconst 0, 1) := by decide +kernel
theorem dX4_ownInBestTold_41 : decode cX4_ownInBestTold 41 = .ok (.istore 6, 2) := by decide +kernel
theorem dX4_ownInBestTold_43 : decode cX4_ownInBestTold 43 = .ok (.iload 6, 2) := by decide +kernel
theorem dX4_ownInBestTold_45 : decode cX4_ownInBestTold 45 = .ok (.ifCond .eq 15, 3) := by decide +kernel
theorem dX4_ownInBestTold_48 : decode cX4_ownInBestTold 48 = .ok (.aload_n 0, 1) := by decide +kernel
theorem dX4_ownInBestTold_49 : decode cX4_ownInBestTold 49 = .ok (.getfield 15, 3) := by decide +kernel
theorem dX4_ownInBestTold_52 : decode cX4_ownInBestTold 52 = .ok (.iload 5, 2) := by decide +kernel
theorem dX4_ownInBestTold_54 : decode cX4_ownInBestTold 54 = .ok (.iaload, 1) := by decide +kernel
theorem dX4_ownInBestTold_55 : decode cX4_ownInBestTold 55 = .ok (.iload_n 2, 1) := by decide +kernel
theorem dX4_ownInBestTold_56 : decode cX4_ownInBestTold 56 = .ok (.iadd, 1) := by decide +kernel
theorem dX4_ownInBestTold_57 : decode cX4_ownInBestTold 57 = .ok (.goto 12, 3) := by decide +kernel
theorem dX4_ownInBestTold_60 : decode cX4_ownInBestTold 60 = .ok (.aload_n 0, 1) := by decide +kernel
theorem dX4_ownInBestTold_61 : decode cX4_ownInBestTold 61 = .ok (.getfield 15, 3) := by decide +kernel
theorem dX4_ownInBestTold_64 : decode cX4_ownInBestTold 64 = .ok (.iload 5, 2) := by decide +kernel
theorem dX4_ownInBestTold_66 : decode cX4_ownInBestTold 66 = .ok (.iaload, 1) := by decide +kernel
theorem dX4_ownInBestTold_67 : decode cX4_ownInBestTold 67 = .ok (.iload_n 2, 1) := by decide +kernel
theorem dX4_ownInBestTold_68 : decode cX4_ownInBestTold 68 = .ok (.isub, 1) := by decide +kernel
theorem dX4_ownInBestTold_69 : decode cX4_ownInBestTold 69 = .ok (.istore 7, 2) := by decide +kernel
theorem dX4_ownInBestTold_71 : decode cX4_ownInBestTold 71 = .ok (.iload 6, 2) := by decide +kernel
theorem dX4_ownInBestTold_73 : decode cX4_ownInBestTold 73 = .ok (.ifCond .eq 15, 3) := by decide +kernel
theorem dX4_ownInBestTold_76 : decode cX4_ownInBestTold 76 = .ok (.aload_n 0, 1) := by decide +kernel
theorem dX4_ownInBestTold_77 : decode cX4_ownInBestTold 77 = .ok (.getfield 18, 3) := by decide +kernel
theorem dX4_ownInBestTold_80 : decode cX4_ownInBestTold 80 = .ok (.iload 5, 2) := by decide +kernel
theorem dX4_ownInBestTold_82 : decode cX4_ownInBestTold 82 = .ok (.iaload, 1) := by decide +kernel
theorem dX4_ownInBestTold_83 : decode cX4_ownInBestTold 83 = .ok (.iload_n 2, 1) := by decide +kernel
theorem dX4_ownInBestTold_84 : decode cX4_ownInBestTold 84 = .ok (.iadd, 1) := by decide +kernel
theorem dX4_ownInBestTold_85 : decode cX4_ownInBestTold 85 = .ok (.goto 10, 3) := by decide +kernel
theorem dX4_ownInBestTold_88 : decode cX4_ownInBestTold 88 = .ok (.aload_n 0, 1) := by decide +kernel
theorem dX4_ownInBestTold_89 : decode cX4_ownInBestTold 89 = .ok (.getfield 18, 3) := by decide +kernel
theorem dX4_ownInBestTold_92 : decode cX4_ownInBestTold 92 = .ok (.iload 5, 2) := by decide +kernel
theorem dX4_ownInBestTold_94 : decode cX4_ownInBestTold 94 = .ok (.iaload, 1) := by decide +kernel
theorem dX4_ownInBestTold_95 : decode cX4_ownInBestTold 95 = .ok (.istore 8, 2) := by decide +kernel
theorem dX4_ownInBestTold_97 : decode cX4_ownInBestTold 97 = .ok (.iload 7, 2) := by decide +kernel
theorem dX4_ownInBestTold_99 : decode cX4_ownInBestTold 99 = .ok (.ifCond .lt 22, 3) := by decide +kernel
theorem dX4_ownInBestTold_102 : decode cX4_ownInBestTold 102 = .ok (.iload 8, 2) := by decide +kernel
theorem dX4_ownInBestTold_104 : decode cX4_ownInBestTold 104 = .ok (.iload 4, 2) := by decide +kernel
theorem dX4_ownInBestTold_106 : decode cX4_ownInBestTold 106 = .ok (.if_icmp .le 15, 3) := by decide +kernel
theorem dX4_ownInBestTold_109 : decode cX4_ownInBestTold 109 = .ok (.iload 8, 2) := by decide +kernel
theorem dX4_ownInBestTold_111 : decode cX4_ownInBestTold 111 = .ok (.istore 4, 2) := by decide +kernel
theorem dX4_ownInBestTold_113 : decode cX4_ownInBestTold 113 = .ok (.aload_n 0, 1) := by decide +kernel
theorem dX4_ownInBestTold_114 : decode cX4_ownInBestTold 114 = .ok (.getfield 9, 3) := by decide +kernel
theorem dX4_ownInBestTold_117 : decode cX4_ownInBestTold 117 = .ok (.iload 5, 2) := by decide +kernel
theorem dX4_ownInBestTold_119 : decode cX4_ownInBestTold 119 = .ok (.iaload, 1) := by decide +kernel
theorem dX4_ownInBestTold_120 : decode cX4_ownInBestTold 120 = .ok (.istore_n 3, 1) := by decide +kernel
theorem dX4_ownInBestTold_121 : decode cX4_ownInBestTold 121 = .ok (.iinc 5 1, 3) := by decide +kernel
theorem dX4_ownInBestTold_124 : decode cX4_ownInBestTold 124 = .ok (.goto (-116), 3) := by decide +kernel
theorem dX4_ownInBestTold_127 : decode cX4_ownInBestTold 127 = .ok (.iload_n 3, 1) := by decide +kernel
theorem dX4_ownInBestTold_128 : decode cX4_ownInBestTold 128 = .ok (.ireturn, 1) := by decide +kernel
theorem dX4_greatestSale_0 : decode cX4_greatestSale 0 = .ok (.iconst 0, 1) := by decide +kernel
theorem dX4_greatestSale_1 : decode cX4_greatestSale 1 = .ok (.istore_n 3, 1) := by decide +kernel
theorem dX4_greatestSale_2 : decode cX4_greatestSale 2 = .ok (.iconst 0, 1) := by decide +kernel
theorem dX4_greatestSale_3 : decode cX4_greatestSale 3 = .ok (.istore 4, 2) := by decide +kernel
theorem dX4_greatestSale_5 : decode cX4_greatestSale 5 = .ok (.iload 4, 2) := by decide +kernel
theorem dX4_greatestSale_7 : decode cX4_greatestSale 7 = .ok (.aload_n 1, 1) := by decide +kernel
theorem dX4_greatestSale_8 : decode cX4_greatestSale 8 = .ok (.invokevirtual 30, 3) := by decide +kernel
theorem dX4_greatestSale_11 : decode cX4_greatestSale 11 = .ok (.if_icmp .gt 68, 3) := by decide +kernel
theorem dX4_greatestSale_14 : decode cX4_greatestSale 14 = .ok (.iload 4, 2) := by decide +kernel
theorem dX4_greatestSale_16 : decode cX4_greatestSale 16 = .ok (.invokestatic 81, 3) := by decide +kernel
theorem dX4_greatestSale_19 : decode cX4_greatestSale 19 = .ok (.istore 5, 2) := by decide +kernel
theorem dX4_greatestSale_21 : decode cX4_greatestSale 21 = .ok (.aload_n 1, 1) := by decide +kernel
theorem dX4_greatestSale_22 : decode cX4_greatestSale 22 = .ok (.iconst 0, 1) := by decide +kernel
theorem dX4_greatestSale_23 : decode cX4_greatestSale 23 = .ok (.iload 4, 2) := by decide +kernel
theorem dX4_greatestSale_25 : decode cX4_greatestSale 25 = .ok (.invokevirtual 27, 3) := by decide +kernel
theorem dX4_greatestSale_28 : decode cX4_greatestSale 28 = .ok (.iload_n 2, 1) := by decide +kernel
theorem dX4_greatestSale_29 : decode cX4_greatestSale 29 = .ok (.iload 5, 2) := by decide +kernel
theorem dX4_greatestSale_31 : decode cX4_greatestSale 31 = .ok (.imul, 1) := by decide +kernel
theorem dX4_greatestSale_32 : decode cX4_greatestSale 32 = .ok (.if_icmp .gt 21, 3) := by decide +kernel
theorem dX4_greatestSale_35 : decode cX4_greatestSale 35 = .ok (.aload_n 1, 1) := by decide +kernel
theorem dX4_greatestSale_36 : decode cX4_greatestSale 36 = .ok (.iconst 1, 1) := by decide +kernel
theorem dX4_greatestSale_37 : decode cX4_greatestSale 37 = .ok (.iload 4, 2) := by decide +kernel
theorem dX4_greatestSale_39 : decode cX4_greatestSale 39 = .ok (.invokevirtual 27, 3) := by decide +kernel
theorem dX4_greatestSale_42 : decode cX4_greatestSale 42 = .ok (.iload_n 2, 1) := by decide +kernel
theorem dX4_greatestSale_43 : decode cX4_greatestSale 43 = .ok (.iload 5, 2) := by decide +kernel
theorem dX4_greatestSale_45 : decode cX4_greatestSale 45 = .ok (.imul, 1) := by decide +kernel
theorem dX4_greatestSale_46 : decode cX4_greatestSale 46 = .ok (.if_icmp .gt 7, 3) := by decide +kernel
theorem dX4_greatestSale_49 : decode cX4_greatestSale 49 = .ok (.iconst 1, 1) := by decide +kernel
theorem dX4_greatestSale_50 : decode cX4_greatestSale 50 = .ok (.goto 4, 3) := by decide +kernel
theorem dX4_greatestSale_53 : decode cX4_greatestSale 53 = .ok (.iconst 0, 1) := by decide +kernel
theorem dX4_greatestSale_54 : decode cX4_greatestSale 54 = .ok (.istore 6, 2) := by decide +kernel
theorem dX4_greatestSale_56 : decode cX4_greatestSale 56 = .ok (.iload 6, 2) := by decide +kernel
theorem dX4_greatestSale_58 : decode cX4_greatestSale 58 = .ok (.ifCond .eq 15, 3) := by decide +kernel
theorem dX4_greatestSale_61 : decode cX4_greatestSale 61 = .ok (.iload 5, 2) := by decide +kernel
theorem dX4_greatestSale_63 : decode cX4_greatestSale 63 = .ok (.iload_n 3, 1) := by decide +kernel
theorem dX4_greatestSale_64 : decode cX4_greatestSale 64 = .ok (.invokestatic 81, 3) := by decide +kernel
theorem dX4_greatestSale_67 : decode cX4_greatestSale 67 = .ok (.if_icmp .le 6, 3) := by decide +kernel
theorem dX4_greatestSale_70 : decode cX4_greatestSale 70 = .ok (.iload 4, 2) := by decide +kernel
theorem dX4_greatestSale_72 : decode cX4_greatestSale 72 = .ok (.istore_n 3, 1) := by decide +kernel
theorem dX4_greatestSale_73 : decode cX4_greatestSale 73 = .ok (.iinc 4 1, 3) := by decide +kernel
theorem dX4_greatestSale_76 : decode cX4_greatestSale 76 = .ok (.goto (-71), 3) := by decide +kernel
theorem dX4_greatestSale_79 : decode cX4_greatestSale 79 = .ok (.iload_n 3, 1) := by decide +kernel
theorem dX4_greatestSale_80 : decode cX4_greatestSale 80 = .ok (.ireturn, 1) := by decide +kernel
theorem dX4_fairLots_0 : decode cX4_fairLots 0 = .ok (.iconst 0, 1) := by decide +kernel
theorem dX4_fairLots_1 : decode cX4_fairLots 1 = .ok (.istore_n 3, 1) := by decide +kernel
theorem dX4_fairLots_2 : decode cX4_fairLots 2 = .ok (.iconst 0, 1) := by decide +kernel
theorem dX4_fairLots_3 : decode cX4_fairLots 3 = .ok (.istore 4, 2) := by decide +kernel
theorem dX4_fairLots_5 : decode cX4_fairLots 5 = .ok (.iload 4, 2) := by decide +kernel
theorem dX4_fairLots_7 : decode cX4_fairLots 7 = .ok (.aload_n 1, 1) := by decide +kernel
theorem dX4_fairLots_8 : decode cX4_fairLots 8 = .ok (.invokevirtual 30, 3) := by decide +kernel
theorem dX4_fairLots_11 : decode cX4_fairLots 11 = .ok (.if_icmp .gt 50, 3) := by decide +kernel
theorem dX4_fairLots_14 : decode cX4_fairLots 14 = .ok (.aload_n 0, 1) := by decide +kernel
theorem dX4_fairLots_15 : decode cX4_fairLots 15 = .ok (.aload_n 1, 1) := by decide +kernel
theorem dX4_fairLots_16 : decode cX4_fairLots 16 = .ok (.iload 4, 2) := by decide +kernel
theorem dX4_fairLots_18 : decode cX4_fairLots 18 = .ok (.invokevirtual 38, 3) := by decide +kernel
theorem dX4_fairLots_21 : decode cX4_fairLots 21 = .ok (.ifCond .eq 34, 3) := by decide +kernel
theorem dX4_fairLots_24 : decode cX4_fairLots 24 = .ok (.iload 4, 2) := by decide +kernel
theorem dX4_fairLots_26 : decode cX4_fairLots 26 = .ok (.invokestatic 81, 3) := by decide +kernel
theorem dX4_fairLots_29 : decode cX4_fairLots 29 = .ok (.istore 5, 2) := by decide +kernel
theorem dX4_fairLots_31 : decode cX4_fairLots 31 = .ok (.iload_n 3, 1) := by decide +kernel
theorem dX4_fairLots_32 : decode cX4_fairLots 32 = .ok (.iload_n 2, 1) := by decide +kernel
theorem dX4_fairLots_33 : decode cX4_fairLots 33 = .ok (.aload_n 1, 1) := by decide +kernel
theorem dX4_fairLots_34 : decode cX4_fairLots 34 = .ok (.getfield 54, 3) := by decide +kernel
theorem dX4_fairLots_37 : decode cX4_fairLots 37 = .ok (.iload 5, 2) := by decide +kernel
theorem dX4_fairLots_39 : decode cX4_fairLots 39 = .ok (.isub, 1) := by decide +kernel
theorem dX4_fairLots_40 : decode cX4_fairLots 40 = .ok (.invokestatic 87, 3) := by decide +kernel
theorem dX4_fairLots_43 : decode cX4_fairLots 43 = .ok (.bipush 10, 2) := by decide +kernel
theorem dX4_fairLots_45 : decode cX4_fairLots 45 = .ok (.iload_n 2, 1) := by decide +kernel
theorem dX4_fairLots_46 : decode cX4_fairLots 46 = .ok (.isub, 1) := by decide +kernel
theorem dX4_fairLots_47 : decode cX4_fairLots 47 = .ok (.iload 5, 2) := by decide +kernel
theorem dX4_fairLots_49 : decode cX4_fairLots 49 = .ok (.invokestatic 87, 3) := by decide +kernel
theorem dX4_fairLots_52 : decode cX4_fairLots 52 = .ok (.imul, 1) := by decide +kernel
theorem dX4_fairLots_53 : decode cX4_fairLots 53 = .ok (.iadd, 1) := by decide +kernel
theorem dX4_fairLots_54 : decode cX4_fairLots 54 = .ok (.istore_n 3, 1) := by decide +kernel
theorem dX4_fairLots_55 : decode cX4_fairLots 55 = .ok (.iinc 4 1, 3) := by decide +kernel
theorem dX4_fairLots_58 : decode cX4_fairLots 58 = .ok (.goto (-53), 3) := by decide +kernel
theorem dX4_fairLots_61 : decode cX4_fairLots 61 = .ok (.iload_n 3, 1) := by decide +kernel
theorem dX4_fairLots_62 : decode cX4_fairLots 62 = .ok (.ireturn, 1) := by decide +kernel
theorem dX5_init_0 : decode cX5_init 0 = .ok (.aload_n 0, 1) := by decide +kernel
theorem dX5_init_1 : decode cX5_init 1 = .ok (.invokespecial 3, 3) := by decide +kernel
theorem dX5_init_4 : decode cX5_init 4 = .ok (.aload_n 0, 1) := by decide +kernel
theorem dX5_init_5 : decode cX5_init 5 = .ok (.sipush 200, 3) := by decide +kernel
theorem dX5_init_8 : decode cX5_init 8 = .ok (.newarray .int, 2) := by decide +kernel
theorem dX5_init_10 : decode cX5_init 10 = .ok (.putfield 9, 3) := by decide +kernel
theorem dX5_init_13 : decode cX5_init 13 = .ok (.return_, 1) := by decide +kernel
theorem dX5_add_0 : decode cX5_add 0 = .ok (.aload_n 0, 1) := by decide +kernel
theorem dX5_add_1 : decode cX5_add 1 = .ok (.getfield 15, 3) := by decide +kernel
theorem dX5_add_4 : decode cX5_add 4 = .ok (.ifCond .lt 13, 3) := by decide +kernel
theorem dX5_add_7 : decode cX5_add 7 = .ok (.aload_n 0, 1) := by decide +kernel
theorem dX5_add_8 : decode cX5_add 8 = .ok (.getfield 15, 3) := by decide +kernel
theorem dX5_add_11 : decode cX5_add 11 = .ok (.sipush 200, 3) := by decide +kernel
theorem dX5_add_14 : decode cX5_add 14 = .ok (.if_icmp .lt 5, 3) := by decide +kernel
theorem dX5_add_17 : decode cX5_add 17 = .ok (.iconst 0, 1) := by decide +kernel
theorem dX5_add_18 : decode cX5_add 18 = .ok (.ireturn, 1) := by decide +kernel
theorem dX5_add_19 : decode cX5_add 19 = .ok (.aload_n 0, 1) := by decide +kernel
theorem dX5_add_20 : decode cX5_add 20 = .ok (.getfield 9, 3) := by decide +kernel
theorem dX5_add_23 : decode cX5_add 23 = .ok (.aload_n 0, 1) := by decide +kernel
theorem dX5_add_24 : decode cX5_add 24 = .ok (.getfield 15, 3) := by decide +kernel
theorem dX5_add_27 : decode cX5_add 27 = .ok (.iload_n 1, 1) := by decide +kernel
theorem dX5_add_28 : decode cX5_add 28 = .ok (.iastore, 1) := by decide +kernel
theorem dX5_add_29 : decode cX5_add 29 = .ok (.aload_n 0, 1) := by decide +kernel
theorem dX5_add_30 : decode cX5_add 30 = .ok (.dup, 1) := by decide +kernel
theorem dX5_add_31 : decode cX5_add 31 = .ok (.getfield 15, 3) := by decide +kernel
theorem dX5_add_34 : decode cX5_add 34 = .ok (.iconst 1, 1) := by decide +kernel
theorem dX5_add_35 : decode cX5_add 35 = .ok (.iadd, 1) := by decide +kernel
theorem dX5_add_36 : decode cX5_add 36 = .ok (.putfield 15, 3) := by decide +kernel
theorem dX5_add_39 : decode cX5_add 39 = .ok (.iconst 1, 1) := by decide +kernel
theorem dX5_add_40 : decode cX5_add 40 = .ok (.ireturn, 1) := by decide +kernel
theorem dX5_empty_0 : decode cX5_empty 0 = .ok (.aload_n 0, 1) := by decide +kernel
theorem dX5_empty_1 : decode cX5_empty 1 = .ok (.iconst 0, 1) := by decide +kernel
theorem dX5_empty_2 : decode cX5_empty 2 = .ok (.putfield 15, 3) := by decide +kernel
theorem dX5_empty_5 : decode cX5_empty 5 = .ok (.return_, 1) := by decide +kernel
theorem dX5_read_0 : decode cX5_read 0 = .ok (.aload_n 1, 1) := by decide +kernel
theorem dX5_read_1 : decode cX5_read 1 = .ok (.invokevirtual 19, 3) := by decide +kernel
theorem dX5_read_4 : decode cX5_read 4 = .ok (.aload_n 0, 1) := by decide +kernel
theorem dX5_read_5 : decode cX5_read 5 = .ok (.iconst 0, 1) := by decide +kernel
theorem dX5_read_6 : decode cX5_read 6 = .ok (.putfield 24, 3) := by decide +kernel
theorem dX5_read_9 : decode cX5_read 9 = .ok (.aload_n 0, 1) := by decide +kernel
theorem dX5_read_10 : decode cX5_read 10 = .ok (.iconst 0, 1) := by decide +kernel
theorem dX5_read_11 : decode cX5_read 11 = .ok (.putfield 27, 3) := by decide +kernel
theorem dX5_read_14 : decode cX5_read 14 = .ok (.aload_n 0, 1) := by decide +kernel
theorem dX5_read_15 : decode cX5_read 15 = .ok (.iconst 0, 1) := by decide +kernel
theorem dX5_read_16 : decode cX5_read 16 = .ok (.putfield 31, 3) := by decide +kernel
theorem dX5_read_19 : decode cX5_read 19 = .ok (.iconst 0, 1) := by decide +kernel
theorem dX5_read_20 : decode cX5_read 20 = .ok (.istore_n 2, 1) := by decide +kernel
theorem dX5_read_21 : decode cX5_read 21 = .ok (.aload_n 0, 1) := by decide +kernel
theorem dX5_read_22 : decode cX5_read 22 = .ok (.invokevirtual 34, 3) := by decide +kernel
theorem dX5_read_25 : decode cX5_read 25 = .ok (.iload_n 2, 1) := by decide +kernel
theorem dX5_read_26 : decode cX5_read 26 = .ok (.sipush 200, 3) := by decide +kernel
theorem dX5_read_29 : decode cX5_read 29 = .ok (.if_icmp .ge 119, 3) := by decide +kernel
theorem dX5_read_32 : decode cX5_read 32 = .ok (.aload_n 0, 1) := by decide +kernel
theorem dX5_read_33 : decode cX5_read 33 = .ok (.getfield 37, 3) := by decide +kernel
theorem dX5_read_36 : decode cX5_read 36 = .ok (.sipush 258, 3) := by decide +kernel
theorem dX5_read_39 : decode cX5_read 39 = .ok (.if_icmp .eq 109, 3) := by decide +kernel
theorem dX5_read_42 : decode cX5_read 42 = .ok (.aload_n 0, 1) := by decide +kernel
theorem dX5_read_43 : decode cX5_read 43 = .ok (.getfield 37, 3) := by decide +kernel
theorem dX5_read_46 : decode cX5_read 46 = .ok (.lookupswitch 78 #[(99, 69), (103, 42), (104, 60), (112, 51)], 42) := by decide +kernel
theorem dX5_read_88 : decode cX5_read 88 = .ok (.aload_n 0, 1) := by decide +kernel
theorem dX5_read_89 : decode cX5_read 89 = .ok (.aload_n 1, 1) := by decide +kernel
theorem dX5_read_90 : decode cX5_read 90 = .ok (.invokevirtual 40, 3) := by decide +kernel
theorem dX5_read_93 : decode cX5_read 93 = .ok (.istore_n 3, 1) := by decide +kernel
theorem dX5_read_94 : decode cX5_read 94 = .ok (.goto 32, 3) := by decide +kernel
theorem dX5_read_97 : decode cX5_read 97 = .ok (.aload_n 0, 1) := by decide +kernel
theorem dX5_read_98 : decode cX5_read 98 = .ok (.aload_n 1, 1) := by decide +kernel
theorem dX5_read_99 : decode cX5_read 99 = .ok (.invokevirtual 44, 3) := by decide +kernel
theorem dX5_read_102 : decode cX5_read 102 = .ok (.istore_n 3, 1) := by decide +kernel
theorem dX5_read_103 : decode cX5_read 103 = .ok (.goto 23, 3) := by decide +kernel
theorem dX5_read_106 : decode cX5_read 106 = .ok (.aload_n 0, 1) := by decide +kernel
theorem dX5_read_107 : decode cX5_read 107 = .ok (.aload_n 1, 1) := by decide +kernel
theorem dX5_read_108 : decode cX5_read 108 = .ok (.invokevirtual 47, 3) := by decide +kernel
theorem dX5_read_111 : decode cX5_read 111 = .ok (.istore_n 3, 1) := by decide +kernel
theorem dX5_read_112 : decode cX5_read 112 = .ok (.goto 14, 3) := by decide +kernel
theorem dX5_read_115 : decode cX5_read 115 = .ok (.aload_n 0, 1) := by decide +kernel
theorem dX5_read_116 : decode cX5_read 116 = .ok (.aload_n 1, 1) := by decide +kernel
theorem dX5_read_117 : decode cX5_read 117 = .ok (.invokevirtual 50, 3) := by decide +kernel
theorem dX5_read_120 : decode cX5_read 120 = .ok (.istore_n 3, 1) := by decide +kernel
theorem dX5_read_121 : decode cX5_read 121 = .ok (.goto 5, 3) := by decide +kernel
theorem dX5_read_124 : decode cX5_read 124 = .ok (.iconst 0, 1) := by decide +kernel
theorem dX5_read_125 : decode cX5_read 125 = .ok (.istore_n 3, 1) := by decide +kernel
theorem dX5_read_126 : decode cX5_read 126 = .ok (.iload_n 3, 1) := by decide +kernel
theorem dX5_read_127 : decode cX5_read 127 = .ok (.ifCond .ne 11, 3) := by decide +kernel
theorem dX5_read_130 : decode cX5_read 130 = .ok (.bipush (-10), 2) := by decide +kernel
theorem dX5_read_132 : decode cX5_read 132 = .ok (.aload_n 0, 1) := by decide +kernel
theorem dX5_read_133 : decode cX5_read 133 = .ok (.getfield 53, 3) := by decide +kernel
theorem dX5_read_136 : decode cX5_read 136 = .ok (.isub, 1) := by decide +kernel
theorem dX5_read_137 : decode cX5_read 137 = .ok (.ireturn, 1) := by decide +kernel
theorem dX5_read_138 : decode cX5_read 138 = .ok (.iinc 2 1, 3) := by decide +kernel
theorem dX5_read_141 : decode cX5_read 141 = .ok (.aload_n 0, 1) := by decide +kernel
theorem dX5_read_142 : decode cX5_read 142 = .ok (.invokevirtual 34, 3) := by decide +kernel
theorem dX5_read_145 : decode cX5_read 145 = .ok (.goto (-120), 3) := by decide +kernel
theorem dX5_read_148 : decode cX5_read 148 = .ok (.iload_n 2, 1) := by decide +kernel
theorem dX5_read_149 : decode cX5_read 149 = .ok (.ireturn, 1) := by decide +kernel
theorem dX5_readGood_0 : decode cX5_readGood 0 = .ok (.aload_n 1, 1) := by decide +kernel
theorem dX5_readGood_1 : decode cX5_readGood 1 = .ok (.getfield 56, 3) := by decide +kernel
theorem dX5_readGood_4 : decode cX5_readGood 4 = .ok (.bipush 6, 2) := by decide +kernel
theorem dX5_readGood_6 : decode cX5_readGood 6 = .ok (.if_icmp .ge 13, 3) := by decide +kernel
theorem dX5_readGood_9 : decode cX5_readGood 9 = .ok (.aload_n 0, 1) := by decide +kernel
theorem dX5_readGood_10 : decode cX5_readGood 10 = .ok (.iconst 0, 1) := by decide +kernel
theorem dX5_readGood_11 : decode cX5_readGood 11 = .ok (.bipush 20, 2) := by decide +kernel
theorem dX5_readGood_13 : decode cX5_readGood 13 = .ok (.invokevirtual 59, 3) := by decide +kernel
theorem dX5_readGood_16 : decode cX5_readGood 16 = .ok (.ifCond .ne 5, 3) := by decide +kernel
theorem dX5_readGood_19 : decode cX5_readGood 19 = .ok (.iconst 0, 1) := by decide +kernel
theorem dX5_readGood_20 : decode cX5_readGood 20 = .ok (.ireturn, 1) := by decide +kernel
theorem dX5_readGood_21 : decode cX5_readGood 21 = .ok (.aload_n 0, 1) := by decide +kernel
theorem dX5_readGood_22 : decode cX5_readGood 22 = .ok (.getfield 63, 3) := by decide +kernel
theorem dX5_readGood_25 : decode cX5_readGood 25 = .ok (.istore_n 2, 1) := by decide +kernel
theorem dX5_readGood_26 : decode cX5_readGood 26 = .ok (.aload_n 0, 1) := by decide +kernel
theorem dX5_readGood_27 : decode cX5_readGood 27 = .ok (.iconst 0, 1) := by decide +kernel
theorem dX5_readGood_28 : decode cX5_readGood 28 = .ok (.bipush 20, 2) := by decide +kernel
theorem dX5_readGood_30 : decode cX5_readGood 30 = .ok (.invokevirtual 59, 3) := by decide +kernel
theorem dX5_readGood_33 : decode cX5_readGood 33 = .ok (.ifCond .ne 5, 3) := by decide +kernel
theorem dX5_readGood_36 : decode cX5_readGood 36 = .ok (.iconst 0, 1) := by decide +kernel
theorem dX5_readGood_37 : decode cX5_readGood 37 = .ok (.ireturn, 1) := by decide +kernel
theorem dX5_readGood_38 : decode cX5_readGood 38 = .ok (.aload_n 1, 1) := by decide +kernel
theorem dX5_readGood_39 : decode cX5_readGood 39 = .ok (.iload_n 2, 1) := by decide +kernel
theorem dX5_readGood_40 : decode cX5_readGood 40 = .ok (.aload_n 0, 1) := by decide +kernel
theorem dX5_readGood_41 : decode cX5_readGood 41 = .ok (.getfield 63, 3) := by decide +kernel
theorem dX5_readGood_44 : decode cX5_readGood 44 = .ok (.invokevirtual 66, 3) := by decide +kernel
theorem dX5_readGood_47 : decode cX5_readGood 47 = .ok (.aload_n 0, 1) := by decide +kernel
theorem dX5_readGood_48 : decode cX5_readGood 48 = .ok (.invokevirtual 70, 3) := by decide +kernel
theorem dX5_readGood_51 : decode cX5_readGood 51 = .ok (.ireturn, 1) := by decide +kernel
theorem dX5_readPair_0 : decode cX5_readPair 0 = .ok (.aload_n 1, 1) := by decide +kernel
theorem dX5_readPair_1 : decode cX5_readPair 1 = .ok (.getfield 74, 3) := by decide +kernel
theorem dX5_readPair_4 : decode cX5_readPair 4 = .ok (.iconst 4, 1) := by decide +kernel
theorem dX5_readPair_5 : decode cX5_readPair 5 = .ok (.if_icmp .ge 17, 3) := by decide +kernel
theorem dX5_readPair_8 : decode cX5_readPair 8 = .ok (.aload_n 0, 1) := by decide +kernel
theorem dX5_readPair_9 : decode cX5_readPair 9 = .ok (.iconst 0, 1) := by decide +kernel
theorem dX5_readPair_10 : decode cX5_readPair 10 = .ok (.aload_n 1, 1) := by decide +kernel
theorem dX5_readPair_11 : decode cX5_readPair 11 = .ok (.getfield 56, 3) := by decide +kernel
theorem dX5_readPair_14 : decode cX5_readPair 14 = .ok (.iconst 1, 1) := by decide +kernel
theorem dX5_readPair_15 : decode cX5_readPair 15 = .ok (.isub, 1) := by decide +kernel
theorem dX5_readPair_16 : decode cX5_readPair 16 = .ok (.invokevirtual 59, 3) := by decide +kernel
theorem dX5_readPair_19 : decode cX5_readPair 19 = .ok (.ifCond .ne 5, 3) := by decide +kernel
theorem dX5_readPair_22 : decode cX5_readPair 22 = .ok (.iconst 0, 1) := by decide +kernel
theorem dX5_readPair_23 : decode cX5_readPair 23 = .ok (.ireturn, 1) := by decide +kernel
theorem dX5_readPair_24 : decode cX5_readPair 24 = .ok (.aload_n 0, 1) := by decide +kernel
theorem dX5_readPair_25 : decode cX5_readPair 25 = .ok (.getfield 63, 3) := by decide +kernel
theorem dX5_readPair_28 : decode cX5_readPair 28 = .ok (.istore_n 2, 1) := by decide +kernel
theorem dX5_readPair_29 : decode cX5_readPair 29 = .ok (.aload_n 0, 1) := by decide +kernel
theorem dX5_readPair_30 : decode cX5_readPair 30 = .ok (.iconst 0, 1) := by decide +kernel
theorem dX5_readPair_31 : decode cX5_readPair 31 = .ok (.aload_n 1, 1) := by decide +kernel
theorem dX5_readPair_32 : decode cX5_readPair 32 = .ok (.getfield 56, 3) := by decide +kernel
theorem dX5_readPair_35 : decode cX5_readPair 35 = .ok (.iconst 1, 1) := by decide +kernel
theorem dX5_readPair_36 : decode cX5_readPair 36 = .ok (.isub, 1) := by decide +kernel
theorem dX5_readPair_37 : decode cX5_readPair 37 = .ok (.invokevirtual 59, 3) := by decide +kernel
theorem dX5_readPair_40 : decode cX5_readPair 40 = .ok (.ifCond .eq 11, 3) := by decide +kernel
theorem dX5_readPair_43 : decode cX5_readPair 43 = .ok (.aload_n 0, 1) := by decide +kernel
theorem dX5_readPair_44 : decode cX5_readPair 44 = .ok (.getfield 63, 3) := by decide +kernel
theorem dX5_readPair_47 : decode cX5_readPair 47 = .ok (.iload_n 2, 1) := by decide +kernel
theorem dX5_readPair_48 : decode cX5_readPair 48 = .ok (.if_icmp .ne 5, 3) := by decide +kernel
theorem dX5_readPair_51 : decode cX5_readPair 51 = .ok (.iconst 0, 1) := by decide +kernel
theorem dX5_readPair_52 : decode cX5_readPair 52 = .ok (.ireturn, 1) := by decide +kernel
theorem dX5_readPair_53 : decode cX5_readPair 53 = .ok (.aload_n 0, 1) := by decide +kernel
theorem dX5_readPair_54 : decode cX5_readPair 54 = .ok (.getfield 63, 3) := by decide +kernel
theorem dX5_readPair_57 : decode cX5_readPair 57 = .ok (.istore_n 3, 1) := by decide +kernel
theorem dX5_readPair_58 : decode cX5_readPair 58 = .ok (.aload_n 0, 1) := by decide +kernel
theorem dX5_readPair_59 : decode cX5_readPair 59 = .ok (.iconst 0, 1) := by decide +kernel
theorem dX5_readPair_60 : decode cX5_readPair 60 = .ok (.bipush 20, 2) := by decide +kernel
theorem dX5_readPair_62 : decode cX5_readPair 62 = .ok (.invokevirtual 59, 3) := by decide +kernel
theorem dX5_readPair_65 : decode cX5_readPair 65 = .ok (.ifCond .ne 5, 3) := by decide +kernel
theorem dX5_readPair_68 : decode cX5_readPair 68 = .ok (.iconst 0, 1) := by decide +kernel
theorem dX5_readPair_69 : decode cX5_readPair 69 = .ok (.ireturn, 1) := by decide +kernel
theorem dX5_readPair_70 : decode cX5_readPair 70 = .ok (.aload_n 0, 1) := by decide +kernel
theorem dX5_readPair_71 : decode cX5_readPair 71 = .ok (.getfield 63, 3) := by decide +kernel
theorem dX5_readPair_74 : decode cX5_readPair 74 = .ok (.istore 4, 2) := by decide +kernel
theorem dX5_readPair_76 : decode cX5_readPair 76 = .ok (.aload_n 0, 1) := by decide +kernel
theorem dX5_readPair_77 : decode cX5_readPair 77 = .ok (.iconst 0, 1) := by decide +kernel
theorem dX5_readPair_78 : decode cX5_readPair 78 = .ok (.bipush 20, 2) := by decide +kernel
theorem dX5_readPair_80 : decode cX5_readPair 80 = .ok (.invokevirtual 59, 3) := by decide +kernel
theorem dX5_readPair_83 : decode cX5_readPair 83 = .ok (.ifCond .ne 5, 3) := by decide +kernel
theorem dX5_readPair_86 : decode cX5_readPair 86 = .ok (.iconst 0, 1) := by decide +kernel
theorem dX5_readPair_87 : decode cX5_readPair 87 = .ok (.ireturn, 1) := by decide +kernel
theorem dX5_readPair_88 : decode cX5_readPair 88 = .ok (.aload_n 1, 1) := by decide +kernel
theorem dX5_readPair_89 : decode cX5_readPair 89 = .ok (.iconst 1, 1) := by decide +kernel
theorem dX5_readPair_90 : decode cX5_readPair 90 = .ok (.iload_n 2, 1) := by decide +kernel
theorem dX5_readPair_91 : decode cX5_readPair 91 = .ok (.ishl, 1) := by decide +kernel
theorem dX5_readPair_92 : decode cX5_readPair 92 = .ok (.iconst 1, 1) := by decide +kernel
theorem dX5_readPair_93 : decode cX5_readPair 93 = .ok (.iload_n 3, 1) := by decide +kernel
theorem dX5_readPair_94 : decode cX5_readPair 94 = .ok (.ishl, 1) := by decide +kernel
theorem dX5_readPair_95 : decode cX5_readPair 95 = .ok (.ior, 1) := by decide +kernel
theorem dX5_readPair_96 : decode cX5_readPair 96 = .ok (.iload 4, 2) := by decide +kernel
theorem dX5_readPair_98 : decode cX5_readPair 98 = .ok (.aload_n 0, 1) := by decide +kernel
theorem dX5_readPair_99 : decode cX5_readPair 99 = .ok (.getfield 63, 3) := by decide +kernel
theorem dX5_readPair_102 : decode cX5_readPair 102 = .ok (.invokevirtual 77, 3) := by decide +kernel
theorem dX5_readPair_105 : decode cX5_readPair 105 = .ok (.aload_n 0, 1) := by decide +kernel
theorem dX5_readPair_106 : decode cX5_readPair 106 = .ok (.invokevirtual 70, 3) := by decide +kernel
theorem dX5_readPair_109 : decode cX5_readPair 109 = .ok (.ireturn, 1) := by decide +kernel
theorem dX5_readHops_0 : decode cX5_readHops 0 = .ok (.aload_n 0, 1) := by decide +kernel
theorem dX5_readHops_1 : decode cX5_readHops 1 = .ok (.getfield 27, 3) := by decide +kernel
theorem dX5_readHops_4 : decode cX5_readHops 4 = .ok (.ifCond .ne 12, 3) := by decide +kernel
theorem dX5_readHops_7 : decode cX5_readHops 7 = .ok (.aload_n 0, 1) := by decide +kernel
theorem dX5_readHops_8 : decode cX5_readHops 8 = .ok (.iconst 0, 1) := by decide +kernel
theorem dX5_readHops_9 : decode cX5_readHops 9 = .ok (.iconst 3, 1) := by decide +kernel
theorem dX5_readHops_10 : decode cX5_readHops 10 = .ok (.invokevirtual 59, 3) := by decide +kernel
theorem dX5_readHops_13 : decode cX5_readHops 13 = .ok (.ifCond .ne 5, 3) := by decide +kernel
theorem dX5_readHops_16 : decode cX5_readHops 16 = .ok (.iconst 0, 1) := by decide +kernel
theorem dX5_readHops_17 : decode cX5_readHops 17 = .ok (.ireturn, 1) := by decide +kernel
theorem dX5_readHops_18 : decode cX5_readHops 18 = .ok (.aload_n 0, 1) := by decide +kernel
theorem dX5_readHops_19 : decode cX5_readHops 19 = .ok (.iconst 1, 1) := by decide +kernel
theorem dX5_readHops_20 : decode cX5_readHops 20 = .ok (.putfield 27, 3) := by decide +kernel
theorem dX5_readHops_23 : decode cX5_readHops 23 = .ok (.aload_n 1, 1) := by decide +kernel
theorem dX5_readHops_24 : decode cX5_readHops 24 = .ok (.aload_n 0, 1) := by decide +kernel
theorem dX5_readHops_25 : decode cX5_readHops 25 = .ok (.getfield 63, 3) := by decide +kernel
theorem dX5_readHops_28 : decode cX5_readHops 28 = .ok (.putfield 81, 3) := by decide +kernel
theorem dX5_readHops_31 : decode cX5_readHops 31 = .ok (.aload_n 0, 1) := by decide +kernel
theorem dX5_readHops_32 : decode cX5_readHops 32 = .ok (.invokevirtual 70, 3) := by decide +kernel
theorem dX5_readHops_35 : decode cX5_readHops 35 = .ok (.ireturn, 1) := by decide +kernel
theorem dX5_readCells_0 : decode cX5_readCells 0 = .ok (.aload_n 0, 1) := by decide +kernel
theorem dX5_readCells_1 : decode cX5_readCells 1 = .ok (.getfield 31, 3) := by decide +kernel
theorem dX5_readCells_4 : decode cX5_readCells 4 = .ok (.ifCond .ne 13, 3) := by decide +kernel
theorem dX5_readCells_7 : decode cX5_readCells 7 = .ok (.aload_n 0, 1) := by decide +kernel
theorem dX5_readCells_8 : decode cX5_readCells 8 = .ok (.iconst 1, 1) := by decide +kernel
theorem dX5_readCells_9 : decode cX5_readCells 9 = .ok (.bipush 6, 2) := by decide +kernel
theorem dX5_readCells_11 : decode cX5_readCells 11 = .ok (.invokevirtual 59, 3) := by decide +kernel
theorem dX5_readCells_14 : decode cX5_readCells 14 = .ok (.ifCond .ne 5, 3) := by decide +kernel
theorem dX5_readCells_17 : decode cX5_readCells 17 = .ok (.iconst 0, 1) := by decide +kernel
theorem dX5_readCells_18 : decode cX5_readCells 18 = .ok (.ireturn, 1) := by decide +kernel
theorem dX5_readCells_19 : decode cX5_readCells 19 = .ok (.aload_n 0, 1) := by decide +kernel
theorem dX5_readCells_20 : decode cX5_readCells 20 = .ok (.iconst 1, 1) := by decide +kernel
theorem dX5_readCells_21 : decode cX5_readCells 21 = .ok (.putfield 31, 3) := by decide +kernel
theorem dX5_readCells_24 : decode cX5_readCells 24 = .ok (.aload_n 1, 1) := by decide +kernel
theorem dX5_readCells_25 : decode cX5_readCells 25 = .ok (.aload_n 0, 1) := by decide +kernel
theorem dX5_readCells_26 : decode cX5_readCells 26 = .ok (.getfield 63, 3) := by decide +kernel
theorem dX5_readCells_29 : decode cX5_readCells 29 = .ok (.putfield 84, 3) := by decide +kernel
theorem dX5_readCells_32 : decode cX5_readCells 32 = .ok (.aload_n 0, 1) := by decide +kernel
theorem dX5_readCells_33 : decode cX5_readCells 33 = .ok (.invokevirtual 70, 3) := by decide +kernel
theorem dX5_readCells_36 : decode cX5_readCells 36 = .ok (.ireturn, 1) := by decide +kernel
theorem dX5_nextNumber_0 : decode cX5_nextNumber 0 = .ok (.aload_n 0, 1) := by decide +kernel
theorem dX5_nextNumber_1 : decode cX5_nextNumber 1 = .ok (.invokevirtual 34, 3) := by decide +kernel
theorem dX5_nextNumber_4 : decode cX5_nextNumber 4 = .ok (.aload_n 0, 1) := by decide +kernel
theorem dX5_nextNumber_5 : decode cX5_nextNumber 5 = .ok (.getfield 37, 3) := by decide +kernel
theorem dX5_nextNumber_8 : decode cX5_nextNumber 8 = .ok (.sipush 256, 3) := by decide +kernel
theorem dX5_nextNumber_11 : decode cX5_nextNumber 11 = .ok (.if_icmp .ne 23, 3) := by decide +kernel
theorem dX5_nextNumber_14 : decode cX5_nextNumber 14 = .ok (.aload_n 0, 1) := by decide +kernel
theorem dX5_nextNumber_15 : decode cX5_nextNumber 15 = .ok (.getfield 63, 3) := by decide +kernel
theorem dX5_nextNumber_18 : decode cX5_nextNumber 18 = .ok (.iload_n 1, 1) := by decide +kernel
theorem dX5_nextNumber_19 : decode cX5_nextNumber 19 = .ok (.if_icmp .lt 15, 3) := by decide +kernel
theorem dX5_nextNumber_22 : decode cX5_nextNumber 22 = .ok (.aload_n 0, 1) := by decide +kernel
theorem dX5_nextNumber_23 : decode cX5_nextNumber 23 = .ok (.getfield 63, 3) := by decide +kernel
theorem dX5_nextNumber_26 : decode cX5_nextNumber 26 = .ok (.iload_n 2, 1) := by decide +kernel
theorem dX5_nextNumber_27 : decode cX5_nextNumber 27 = .ok (.if_icmp .gt 7, 3) := by decide +kernel
theorem dX5_nextNumber_30 : decode cX5_nextNumber 30 = .ok (.iconst 1, 1) := by decide +kernel
theorem dX5_nextNumber_31 : decode cX5_nextNumber 31 = .ok (.goto 4, 3) := by decide +kernel
theorem dX5_nextNumber_34 : decode cX5_nextNumber 34 = .ok (.iconst 0, 1) := by decide +kernel
theorem dX5_nextNumber_35 : decode cX5_nextNumber 35 = .ok (.ireturn, 1) := by decide +kernel
theorem dX5_nextEnds_0 : decode cX5_nextEnds 0 = .ok (.aload_n 0, 1) := by decide +kernel
theorem dX5_nextEnds_1 : decode cX5_nextEnds 1 = .ok (.invokevirtual 34, 3) := by decide +kernel
theorem dX5_nextEnds_4 : decode cX5_nextEnds 4 = .ok (.aload_n 0, 1) := by decide +kernel
theorem dX5_nextEnds_5 : decode cX5_nextEnds 5 = .ok (.getfield 37, 3) := by decide +kernel
theorem dX5_nextEnds_8 : decode cX5_nextEnds 8 = .ok (.bipush 59, 2) := by decide +kernel
theorem dX5_nextEnds_10 : decode cX5_nextEnds 10 = .ok (.if_icmp .ne 7, 3) := by decide +kernel
theorem dX5_nextEnds_13 : decode cX5_nextEnds 13 = .ok (.iconst 1, 1) := by decide +kernel
theorem dX5_nextEnds_14 : decode cX5_nextEnds 14 = .ok (.goto 4, 3) := by decide +kernel
theorem dX5_nextEnds_17 : decode cX5_nextEnds 17 = .ok (.iconst 0, 1) := by decide +kernel
theorem dX5_nextEnds_18 : decode cX5_nextEnds 18 = .ok (.ireturn, 1) := by decide +kernel
theorem dX5_letterAt_0 : decode cX5_letterAt 0 = .ok (.iload_n 1, 1) := by decide +kernel
theorem dX5_letterAt_1 : decode cX5_letterAt 1 = .ok (.ifCond .lt 27, 3) := by decide +kernel
theorem dX5_letterAt_4 : decode cX5_letterAt 4 = .ok (.iload_n 1, 1) := by decide +kernel
theorem dX5_letterAt_5 : decode cX5_letterAt 5 = .ok (.aload_n 0, 1) := by decide +kernel
theorem dX5_letterAt_6 : decode cX5_letterAt 6 = .ok (.getfield 15, 3) := by decide +kernel
theorem dX5_letterAt_9 : decode cX5_letterAt 9 = .ok (.if_icmp .ge 19, 3) := by decide +kernel
theorem dX5_letterAt_12 : decode cX5_letterAt 12 = .ok (.iload_n 1, 1) := by decide +kernel
theorem dX5_letterAt_13 : decode cX5_letterAt 13 = .ok (.sipush 200, 3) := by decide +kernel
theorem dX5_letterAt_16 : decode cX5_letterAt 16 = .ok (.if_icmp .ge 12, 3) := by decide +kernel
theorem dX5_letterAt_19 : decode cX5_letterAt 19 = .ok (.aload_n 0, 1) := by decide +kernel
theorem dX5_letterAt_20 : decode cX5_letterAt 20 = .ok (.getfield 9, 3) := by decide +kernel
theorem dX5_letterAt_23 : decode cX5_letterAt 23 = .ok (.iload_n 1, 1) := by decide +kernel
theorem dX5_letterAt_24 : decode cX5_letterAt 24 = .ok (.iaload, 1) := by decide +kernel
theorem dX5_letterAt_25 : decode cX5_letterAt 25 = .ok (.goto 6, 3) := by decide +kernel
theorem dX5_letterAt_28 : decode cX5_letterAt 28 = .ok (.sipush 258, 3) := by decide +kernel
theorem dX5_letterAt_31 : decode cX5_letterAt 31 = .ok (.ireturn, 1) := by decide +kernel
theorem dX5_nextToken_0 : decode cX5_nextToken 0 = .ok (.aload_n 0, 1) := by decide +kernel
theorem dX5_nextToken_1 : decode cX5_nextToken 1 = .ok (.getfield 24, 3) := by decide +kernel
theorem dX5_nextToken_4 : decode cX5_nextToken 4 = .ok (.aload_n 0, 1) := by decide +kernel
theorem dX5_nextToken_5 : decode cX5_nextToken 5 = .ok (.getfield 15, 3) := by decide +kernel
theorem dX5_nextToken_8 : decode cX5_nextToken 8 = .ok (.if_icmp .ge 29, 3) := by decide +kernel
theorem dX5_nextToken_11 : decode cX5_nextToken 11 = .ok (.aload_n 0, 1) := by decide +kernel
theorem dX5_nextToken_12 : decode cX5_nextToken 12 = .ok (.aload_n 0, 1) := by decide +kernel
theorem dX5_nextToken_13 : decode cX5_nextToken 13 = .ok (.getfield 24, 3) := by decide +kernel
theorem dX5_nextToken_16 : decode cX5_nextToken 16 = .ok (.invokevirtual 87, 3) := by decide +kernel
theorem dX5_nextToken_19 : decode cX5_nextToken 19 = .ok (.bipush 32, 2) := by decide +kernel
theorem dX5_nextToken_21 : decode cX5_nextToken 21 = .ok (.if_icmp .ne 16, 3) := by decide +kernel
theorem dX5_nextToken_24 : decode cX5_nextToken 24 = .ok (.aload_n 0, 1) := by decide +kernel
theorem dX5_nextToken_25 : decode cX5_nextToken 25 = .ok (.dup, 1) := by decide +kernel
theorem dX5_nextToken_26 : decode cX5_nextToken 26 = .ok (.getfield 24, 3) := by decide +kernel
theorem dX5_nextToken_29 : decode cX5_nextToken 29 = .ok (.iconst 1, 1) := by decide +kernel
theorem dX5_nextToken_30 : decode cX5_nextToken 30 = .ok (.iadd, 1) := by decide +kernel
theorem dX5_nextToken_31 : decode cX5_nextToken 31 = .ok (.putfield 24, 3) := by decide +kernel
theorem dX5_nextToken_34 : decode cX5_nextToken 34 = .ok (.goto (-34), 3) := by decide +kernel
theorem dX5_nextToken_37 : decode cX5_nextToken 37 = .ok (.aload_n 0, 1) := by decide +kernel
theorem dX5_nextToken_38 : decode cX5_nextToken 38 = .ok (.aload_n 0, 1) := by decide +kernel
theorem dX5_nextToken_39 : decode cX5_nextToken 39 = .ok (.getfield 24, 3) := by decide +kernel
theorem dX5_nextToken_42 : decode cX5_nextToken 42 = .ok (.putfield 53, 3) := by decide +kernel
theorem dX5_nextToken_45 : decode cX5_nextToken 45 = .ok (.aload_n 0, 1) := by decide +kernel
theorem dX5_nextToken_46 : decode cX5_nextToken 46 = .ok (.aload_n 0, 1) := by decide +kernel
theorem dX5_nextToken_47 : decode cX5_nextToken 47 = .ok (.aload_n 0, 1) := by decide +kernel
theorem dX5_nextToken_48 : decode cX5_nextToken 48 = .ok (.getfield 24, 3) := by decide +kernel
theorem dX5_nextToken_51 : decode cX5_nextToken 51 = .ok (.invokevirtual 87, 3) := by decide +kernel
theorem dX5_nextToken_54 : decode cX5_nextToken 54 = .ok (.putfield 37, 3) := by decide +kernel
theorem dX5_nextToken_57 : decode cX5_nextToken 57 = .ok (.aload_n 0, 1) := by decide +kernel
theorem dX5_nextToken_58 : decode cX5_nextToken 58 = .ok (.getfield 37, 3) := by decide +kernel
theorem dX5_nextToken_61 : decode cX5_nextToken 61 = .ok (.invokestatic 91, 3) := by decide +kernel
theorem dX5_nextToken_64 : decode cX5_nextToken 64 = .ok (.ifCond .eq 10, 3) := by decide +kernel
theorem dX5_nextToken_67 : decode cX5_nextToken 67 = .ok (.aload_n 0, 1) := by decide +kernel
theorem dX5_nextToken_68 : decode cX5_nextToken 68 = .ok (.invokevirtual 95, 3) := by decide +kernel
theorem dX5_nextToken_71 : decode cX5_nextToken 71 = .ok (.goto 24, 3) := by decide +kernel
theorem dX5_nextToken_74 : decode cX5_nextToken 74 = .ok (.aload_n 0, 1) := by decide +kernel
theorem dX5_nextToken_75 : decode cX5_nextToken 75 = .ok (.getfield 24, 3) := by decide +kernel
theorem dX5_nextToken_78 : decode cX5_nextToken 78 = .ok (.aload_n 0, 1) := by decide +kernel
theorem dX5_nextToken_79 : decode cX5_nextToken 79 = .ok (.getfield 15, 3) := by decide +kernel
theorem dX5_nextToken_82 : decode cX5_nextToken 82 = .ok (.if_icmp .ge 13, 3) := by decide +kernel
theorem dX5_nextToken_85 : decode cX5_nextToken 85 = .ok (.aload_n 0, 1) := by decide +kernel
theorem dX5_nextToken_86 : decode cX5_nextToken 86 = .ok (.dup, 1) := by decide +kernel
theorem dX5_nextToken_87 : decode cX5_nextToken 87 = .ok (.getfield 24, 3) := by decide +kernel
theorem dX5_nextToken_90 : decode cX5_nextToken 90 = .ok (.iconst 1, 1) := by decide +kernel
theorem dX5_nextToken_91 : decode cX5_nextToken 91 = .ok (.iadd, 1) := by decide +kernel
theorem dX5_nextToken_92 : decode cX5_nextToken 92 = .ok (.putfield 24, 3) := by decide +kernel
theorem dX5_nextToken_95 : decode cX5_nextToken 95 = .ok (.return_, 1) := by decide +kernel
theorem dX5_takeNumber_0 : decode cX5_takeNumber 0 = .ok (.aload_n 0, 1) := by decide +kernel
theorem dX5_takeNumber_1 : decode cX5_takeNumber 1 = .ok (.iconst 0, 1) := by decide +kernel
theorem dX5_takeNumber_2 : decode cX5_takeNumber 2 = .ok (.putfield 63, 3) := by decide +kernel
theorem dX5_takeNumber_5 : decode cX5_takeNumber 5 = .ok (.aload_n 0, 1) := by decide +kernel
theorem dX5_takeNumber_6 : decode cX5_takeNumber 6 = .ok (.getfield 24, 3) := by decide +kernel
theorem dX5_takeNumber_9 : decode cX5_takeNumber 9 = .ok (.aload_n 0, 1) := by decide +kernel
theorem dX5_takeNumber_10 : decode cX5_takeNumber 10 = .ok (.getfield 15, 3) := by decide +kernel
theorem dX5_takeNumber_13 : decode cX5_takeNumber 13 = .ok (.if_icmp .ge 58, 3) := by decide +kernel
theorem dX5_takeNumber_16 : decode cX5_takeNumber 16 = .ok (.aload_n 0, 1) := by decide +kernel
theorem dX5_takeNumber_17 : decode cX5_takeNumber 17 = .ok (.aload_n 0, 1) := by decide +kernel
theorem dX5_takeNumber_18 : decode cX5_takeNumber 18 = .ok (.getfield 24, 3) := by decide +kernel
theorem dX5_takeNumber_21 : decode cX5_takeNumber 21 = .ok (.invokevirtual 87, 3) := by decide +kernel
theorem dX5_takeNumber_24 : decode cX5_takeNumber 24 = .ok (.invokestatic 91, 3) := by decide +kernel
theorem dX5_takeNumber_27 : decode cX5_takeNumber 27 = .ok (.ifCond .eq 44, 3) := by decide +kernel
theorem dX5_takeNumber_30 : decode cX5_takeNumber 30 = .ok (.aload_n 0, 1) := by decide +kernel
theorem dX5_takeNumber_31 : decode cX5_takeNumber 31 = .ok (.bipush 10, 2) := by decide +kernel
theorem dX5_takeNumber_33 : decode cX5_takeNumber 33 = .ok (.aload_n 0, 1) := by decide +kernel
theorem dX5_takeNumber_34 : decode cX5_takeNumber 34 = .ok (.getfield 63, 3) := by decide +kernel
theorem dX5_takeNumber_37 : decode cX5_takeNumber 37 = .ok (.imul, 1) := by decide +kernel
theorem dX5_takeNumber_38 : decode cX5_takeNumber 38 = .ok (.aload_n 0, 1) := by decide +kernel
theorem dX5_takeNumber_39 : decode cX5_takeNumber 39 = .ok (.aload_n 0, 1) := by decide +kernel
theorem dX5_takeNumber_40 : decode cX5_takeNumber 40 = .ok (.getfield 24, 3) := by decide +kernel
theorem dX5_takeNumber_43 : decode cX5_takeNumber 43 = .ok (.invokevirtual 87, 3) := by decide +kernel
theorem dX5_takeNumber_46 : decode cX5_takeNumber 46 = .ok (.iadd, 1) := by decide +kernel
theorem dX5_takeNumber_47 : decode cX5_takeNumber 47 = .ok (.bipush 48, 2) := by decide +kernel
theorem dX5_takeNumber_49 : decode cX5_takeNumber 49 = .ok (.isub, 1) := by decide +kernel
theorem dX5_takeNumber_50 : decode cX5_takeNumber 50 = .ok (.bipush 21, 2) := by decide +kernel
theorem dX5_takeNumber_52 : decode cX5_takeNumber 52 = .ok (.invokestatic 98, 3) := by decide +kernel
theorem dX5_takeNumber_55 : decode cX5_takeNumber 55 = .ok (.putfield 63, 3) := by decide +kernel
theorem dX5_takeNumber_58 : decode cX5_takeNumber 58 = .ok (.aload_n 0, 1) := by decide +kernel
theorem dX5_takeNumber_59 : decode cX5_takeNumber 59 = .ok (.dup, 1) := by decide +kernel
theorem dX5_takeNumber_60 : decode cX5_takeNumber 60 = .ok (.getfield 24, 3) := by decide +kernel
theorem dX5_takeNumber_63 : decode cX5_takeNumber 63 = .ok (.iconst 1, 1) := by decide +kernel
theorem dX5_takeNumber_64 : decode cX5_takeNumber 64 = .ok (.iadd, 1) := by decide +kernel
theorem dX5_takeNumber_65 : decode cX5_takeNumber 65 = .ok (.putfield 24, 3) := by decide +kernel
theorem dX5_takeNumber_68 : decode cX5_takeNumber 68 = .ok (.goto (-63), 3) := by decide +kernel
theorem dX5_takeNumber_71 : decode cX5_takeNumber 71 = .ok (.aload_n 0, 1) := by decide +kernel
theorem dX5_takeNumber_72 : decode cX5_takeNumber 72 = .ok (.getfield 24, 3) := by decide +kernel
theorem dX5_takeNumber_75 : decode cX5_takeNumber 75 = .ok (.aload_n 0, 1) := by decide +kernel
theorem dX5_takeNumber_76 : decode cX5_takeNumber 76 = .ok (.getfield 53, 3) := by decide +kernel
theorem dX5_takeNumber_79 : decode cX5_takeNumber 79 = .ok (.isub, 1) := by decide +kernel
theorem dX5_takeNumber_80 : decode cX5_takeNumber 80 = .ok (.iconst 1, 1) := by decide +kernel
theorem dX5_takeNumber_81 : decode cX5_takeNumber 81 = .ok (.if_icmp .le 20, 3) := by decide +kernel
theorem dX5_takeNumber_84 : decode cX5_takeNumber 84 = .ok (.aload_n 0, 1) := by decide +kernel
theorem dX5_takeNumber_85 : decode cX5_takeNumber 85 = .ok (.aload_n 0, 1) := by decide +kernel
theorem dX5_takeNumber_86 : decode cX5_takeNumber 86 = .ok (.getfield 53, 3) := by decide +kernel
theorem dX5_takeNumber_89 : decode cX5_takeNumber 89 = .ok (.invokevirtual 87, 3) := by decide +kernel
theorem dX5_takeNumber_92 : decode cX5_takeNumber 92 = .ok (.bipush 48, 2) := by decide +kernel
theorem dX5_takeNumber_94 : decode cX5_takeNumber 94 = .ok (.if_icmp .ne 7, 3) := by decide +kernel
theorem dX5_takeNumber_97 : decode cX5_takeNumber 97 = .ok (.iconst 1, 1) := by decide +kernel
theorem dX5_takeNumber_98 : decode cX5_takeNumber 98 = .ok (.goto 4, 3) := by decide +kernel
theorem dX5_takeNumber_101 : decode cX5_takeNumber 101 = .ok (.iconst 0, 1) := by decide +kernel
theorem dX5_takeNumber_102 : decode cX5_takeNumber 102 = .ok (.istore_n 1, 1) := by decide +kernel
theorem dX5_takeNumber_103 : decode cX5_takeNumber 103 = .ok (.aload_n 0, 1) := by decide +kernel
theorem dX5_takeNumber_104 : decode cX5_takeNumber 104 = .ok (.iload_n 1, 1) := by decide +kernel
theorem dX5_takeNumber_105 : decode cX5_takeNumber 105 = .ok (.ifCond .ne 12, 3) := by decide +kernel
theorem dX5_takeNumber_108 : decode cX5_takeNumber 108 = .ok (.aload_n 0, 1) := by decide +kernel
theorem dX5_takeNumber_109 : decode cX5_takeNumber 109 = .ok (.getfield 63, 3) := by decide +kernel
theorem dX5_takeNumber_112 : decode cX5_takeNumber 112 = .ok (.bipush 20, 2) := by decide +kernel
theorem dX5_takeNumber_114 : decode cX5_takeNumber 114 = .ok (.if_icmp .le 9, 3) := by decide +kernel
theorem dX5_takeNumber_117 : decode cX5_takeNumber 117 = .ok (.sipush 257, 3) := by decide +kernel
theorem dX5_takeNumber_120 : decode cX5_takeNumber 120 = .ok (.goto 6, 3) := by decide +kernel
theorem dX5_takeNumber_123 : decode cX5_takeNumber 123 = .ok (.sipush 256, 3) := by decide +kernel
theorem dX5_takeNumber_126 : decode cX5_takeNumber 126 = .ok (.putfield 37, 3) := by decide +kernel
theorem dX5_takeNumber_129 : decode cX5_takeNumber 129 = .ok (.return_, 1) := by decide +kernel
theorem dX5_isDigit_0 : decode cX5_isDigit 0 = .ok (.iload_n 0, 1) := by decide +kernel
theorem dX5_isDigit_1 : decode cX5_isDigit 1 = .ok (.bipush 48, 2) := by decide +kernel
theorem dX5_isDigit_3 : decode cX5_isDigit 3 = .ok (.if_icmp .lt 13, 3) := by decide +kernel
theorem dX5_isDigit_6 : decode cX5_isDigit 6 = .ok (.iload_n 0, 1) := by decide +kernel
theorem dX5_isDigit_7 : decode cX5_isDigit 7 = .ok (.bipush 57, 2) := by decide +kernel
theorem dX5_isDigit_9 : decode cX5_isDigit 9 = .ok (.if_icmp .gt 7, 3) := by decide +kernel
theorem dX5_isDigit_12 : decode cX5_isDigit 12 = .ok (.iconst 1, 1) := by decide +kernel
theorem dX5_isDigit_13 : decode cX5_isDigit 13 = .ok (.goto 4, 3) := by decide +kernel
theorem dX5_isDigit_16 : decode cX5_isDigit 16 = .ok (.iconst 0, 1) := by decide +kernel
theorem dX5_isDigit_17 : decode cX5_isDigit 17 = .ok (.ireturn, 1) := by decide +kernel
theorem dX6_init_0 : decode cX6_init 0 = .ok (.aload_n 0, 1) := by decide +kernel
theorem dX6_init_1 : decode cX6_init 1 = .ok (.invokespecial 3, 3) := by decide +kernel
theorem dX6_init_4 : decode cX6_init 4 = .ok (.aload_n 0, 1) := by decide +kernel
theorem dX6_init_5 : decode cX6_init 5 = .ok (.bipush 12, 2) := by decide +kernel
theorem dX6_init_7 : decode cX6_init 7 = .ok (.newarray .int, 2) := by decide +kernel
theorem dX6_init_9 : decode cX6_init 9 = .ok (.putfield 9, 3) := by decide +kernel
theorem dX6_init_12 : decode cX6_init 12 = .ok (.aload_n 0, 1) := by decide +kernel
theorem dX6_init_13 : decode cX6_init 13 = .ok (.iconst 4, 1) := by decide +kernel
theorem dX6_init_14 : decode cX6_init 14 = .ok (.newarray .int, 2) := by decide +kernel
theorem dX6_init_16 : decode cX6_init 16 = .ok (.putfield 15, 3) := by decide +kernel
theorem dX6_init_19 : decode cX6_init 19 = .ok (.aload_n 0, 1) := by decide +kernel
theorem dX6_init_20 : decode cX6_init 20 = .ok (.bipush 8, 2) := by decide +kernel
theorem dX6_init_22 : decode cX6_init 22 = .ok (.newarray .int, 2) := by decide +kernel
theorem dX6_init_24 : decode cX6_init 24 = .ok (.putfield 18, 3) := by decide +kernel
theorem dX6_init_27 : decode cX6_init 27 = .ok (.aload_n 0, 1) := by decide +kernel
theorem dX6_init_28 : decode cX6_init 28 = .ok (.sipush 128, 3) := by decide +kernel
theorem dX6_init_31 : decode cX6_init 31 = .ok (.newarray .int, 2) := by decide +kernel
theorem dX6_init_33 : decode cX6_init 33 = .ok (.putfield 21, 3) := by decide +kernel
theorem dX6_init_36 : decode cX6_init 36 = .ok (.aload_n 0, 1) := by decide +kernel
theorem dX6_init_37 : decode cX6_init 37 = .ok (.invokevirtual 24, 3) := by decide +kernel
theorem dX6_init_40 : decode cX6_init 40 = .ok (.return_, 1) := by decide +kernel
theorem dX6_begin_0 : decode cX6_begin 0 = .ok (.aload_n 0, 1) := by decide +kernel
theorem dX6_begin_1 : decode cX6_begin 1 = .ok (.iconst 0, 1) := by decide +kernel
theorem dX6_begin_2 : decode cX6_begin 2 = .ok (.putfield 27, 3) := by decide +kernel
theorem dX6_begin_5 : decode cX6_begin 5 = .ok (.aload_n 0, 1) := by decide +kernel
theorem dX6_begin_6 : decode cX6_begin 6 = .ok (.iconst 0, 1) := by decide +kernel
theorem dX6_begin_7 : decode cX6_begin 7 = .ok (.putfield 31, 3) := by decide +kernel
theorem dX6_begin_10 : decode cX6_begin 10 = .ok (.aload_n 0, 1) := by decide +kernel
theorem dX6_begin_11 : decode cX6_begin 11 = .ok (.iconst 1, 1) := by decide +kernel
theorem dX6_begin_12 : decode cX6_begin 12 = .ok (.putfield 34, 3) := by decide +kernel
theorem dX6_begin_15 : decode cX6_begin 15 = .ok (.aload_n 0, 1) := by decide +kernel
theorem dX6_begin_16 : decode cX6_begin 16 = .ok (.bipush 6, 2) := by decide +kernel
theorem dX6_begin_18 : decode cX6_begin 18 = .ok (.putfield 37, 3) := by decide +kernel
theorem dX6_begin_21 : decode cX6_begin 21 = .ok (.return_, 1) := by decide +kernel
theorem dX6_addGood_0 : decode cX6_addGood 0 = .ok (.aload_n 0, 1) := by decide +kernel
theorem dX6_addGood_1 : decode cX6_addGood 1 = .ok (.getfield 27, 3) := by decide +kernel
theorem dX6_addGood_4 : decode cX6_addGood 4 = .ok (.ifCond .lt 12, 3) := by decide +kernel
theorem dX6_addGood_7 : decode cX6_addGood 7 = .ok (.aload_n 0, 1) := by decide +kernel
theorem dX6_addGood_8 : decode cX6_addGood 8 = .ok (.getfield 27, 3) := by decide +kernel
theorem dX6_addGood_11 : decode cX6_addGood 11 = .ok (.bipush 6, 2) := by decide +kernel
theorem dX6_addGood_13 : decode cX6_addGood 13 = .ok (.if_icmp .lt 4, 3) := by decide +kernel
theorem dX6_addGood_16 : decode cX6_addGood 16 = .ok (.return_, 1) := by decide +kernel
theorem dX6_addGood_17 : decode cX6_addGood 17 = .ok (.aload_n 0, 1) := by decide +kernel
theorem dX6_addGood_18 : decode cX6_addGood 18 = .ok (.getfield 9, 3) := by decide +kernel
theorem dX6_addGood_21 : decode cX6_addGood 21 = .ok (.aload_n 0, 1) := by decide +kernel
theorem dX6_addGood_22 : decode cX6_addGood 22 = .ok (.getfield 27, 3) := by decide +kernel
theorem dX6_addGood_25 : decode cX6_addGood 25 = .ok (.iload_n 1, 1) := by decide +kernel
theorem dX6_addGood_26 : decode cX6_addGood 26 = .ok (.iastore, 1) := by decide +kernel
theorem dX6_addGood_27 : decode cX6_addGood 27 = .ok (.aload_n 0, 1) := by decide +kernel
theorem dX6_addGood_28 : decode cX6_addGood 28 = .ok (.getfield 9, 3) := by decide +kernel
theorem dX6_addGood_31 : decode cX6_addGood 31 = .ok (.bipush 6, 2) := by decide +kernel
theorem dX6_addGood_33 : decode cX6_addGood 33 = .ok (.aload_n 0, 1) := by decide +kernel
theorem dX6_addGood_34 : decode cX6_addGood 34 = .ok (.getfield 27, 3) := by decide +kernel
theorem dX6_addGood_37 : decode cX6_addGood 37 = .ok (.iadd, 1) := by decide +kernel
theorem dX6_addGood_38 : decode cX6_addGood 38 = .ok (.iload_n 2, 1) := by decide +kernel
theorem dX6_addGood_39 : decode cX6_addGood 39 = .ok (.iastore, 1) := by decide +kernel
theorem dX6_addGood_40 : decode cX6_addGood 40 = .ok (.aload_n 0, 1) := by decide +kernel
theorem dX6_addGood_41 : decode cX6_addGood 41 = .ok (.dup, 1) := by decide +kernel
theorem dX6_addGood_42 : decode cX6_addGood 42 = .ok (.getfield 27, 3) := by decide +kernel
theorem dX6_addGood_45 : decode cX6_addGood 45 = .ok (.iconst 1, 1) := by decide +kernel
theorem dX6_addGood_46 : decode cX6_addGood 46 = .ok (.iadd, 1) := by decide +kernel
theorem dX6_addGood_47 : decode cX6_addGood 47 = .ok (.putfield 27, 3) := by decide +kernel
theorem dX6_addGood_50 : decode cX6_addGood 50 = .ok (.return_, 1) := by decide +kernel
theorem dX6_addPair_0 : decode cX6_addPair 0 = .ok (.aload_n 0, 1) := by decide +kernel
theorem dX6_addPair_1 : decode cX6_addPair 1 = .ok (.getfield 31, 3) := by decide +kernel
theorem dX6_addPair_4 : decode cX6_addPair 4 = .ok (.ifCond .lt 11, 3) := by decide +kernel
theorem dX6_addPair_7 : decode cX6_addPair 7 = .ok (.aload_n 0, 1) := by decide +kernel
theorem dX6_addPair_8 : decode cX6_addPair 8 = .ok (.getfield 31, 3) := by decide +kernel
theorem dX6_addPair_11 : decode cX6_addPair 11 = .ok (.iconst 4, 1) := by decide +kernel
theorem dX6_addPair_12 : decode cX6_addPair 12 = .ok (.if_icmp .lt 4, 3) := by decide +kernel
theorem dX6_addPair_15 : decode cX6_addPair 15 = .ok (.return_, 1) := by decide +kernel
theorem dX6_addPair_16 : decode cX6_addPair 16 = .ok (.aload_n 0, 1) := by decide +kernel
theorem dX6_addPair_17 : decode cX6_addPair 17 = .ok (.getfield 15, 3) := by decide +kernel
theorem dX6_addPair_20 : decode cX6_addPair 20 = .ok (.aload_n 0, 1) := by decide +kernel
theorem dX6_addPair_21 : decode cX6_addPair 21 = .ok (.getfield 31, 3) := by decide +kernel
theorem dX6_addPair_24 : decode cX6_addPair 24 = .ok (.iload_n 1, 1) := by decide +kernel
theorem dX6_addPair_25 : decode cX6_addPair 25 = .ok (.iastore, 1) := by decide +kernel
theorem dX6_addPair_26 : decode cX6_addPair 26 = .ok (.aload_n 0, 1) := by decide +kernel
theorem dX6_addPair_27 : decode cX6_addPair 27 = .ok (.getfield 18, 3) := by decide +kernel
theorem dX6_addPair_30 : decode cX6_addPair 30 = .ok (.aload_n 0, 1) := by decide +kernel
theorem dX6_addPair_31 : decode cX6_addPair 31 = .ok (.getfield 31, 3) := by decide +kernel
theorem dX6_addPair_34 : decode cX6_addPair 34 = .ok (.iload_n 2, 1) := by decide +kernel
theorem dX6_addPair_35 : decode cX6_addPair 35 = .ok (.iastore, 1) := by decide +kernel
theorem dX6_addPair_36 : decode cX6_addPair 36 = .ok (.aload_n 0, 1) := by decide +kernel
theorem dX6_addPair_37 : decode cX6_addPair 37 = .ok (.getfield 18, 3) := by decide +kernel
theorem dX6_addPair_40 : decode cX6_addPair 40 = .ok (.iconst 4, 1) := by decide +kernel
theorem dX6_addPair_41 : decode cX6_addPair 41 = .ok (.aload_n 0, 1) := by decide +kernel
theorem dX6_addPair_42 : decode cX6_addPair 42 = .ok (.getfield 31, 3) := by decide +kernel
theorem dX6_addPair_45 : decode cX6_addPair 45 = .ok (.iadd, 1) := by decide +kernel
theorem dX6_addPair_46 : decode cX6_addPair 46 = .ok (.iload_n 3, 1) := by decide +kernel
theorem dX6_addPair_47 : decode cX6_addPair 47 = .ok (.iastore, 1) := by decide +kernel
theorem dX6_addPair_48 : decode cX6_addPair 48 = .ok (.aload_n 0, 1) := by decide +kernel
theorem dX6_addPair_49 : decode cX6_addPair 49 = .ok (.dup, 1) := by decide +kernel
theorem dX6_addPair_50 : decode cX6_addPair 50 = .ok (.getfield 31, 3) := by decide +kernel
theorem dX6_addPair_53 : decode cX6_addPair 53 = .ok (.iconst 1, 1) := by decide +kernel
theorem dX6_addPair_54 : decode cX6_addPair 54 = .ok (.iadd, 1) := by decide +kernel
theorem dX6_addPair_55 : decode cX6_addPair 55 = .ok (.putfield 31, 3) := by decide +kernel
theorem dX6_addPair_58 : decode cX6_addPair 58 = .ok (.return_, 1) := by decide +kernel
theorem dX6_weigh_0 : decode cX6_weigh 0 = .ok (.iconst 0, 1) := by decide +kernel
theorem dX6_weigh_1 : decode cX6_weigh 1 = .ok (.istore_n 1, 1) := by decide +kernel
theorem dX6_weigh_2 : decode cX6_weigh 2 = .ok (.iload_n 1, 1) := by decide +kernel
theorem dX6_weigh_3 : decode cX6_weigh 3 = .ok (.iconst 2, 1) := by decide +kernel
theorem dX6_weigh_4 : decode cX6_weigh 4 = .ok (.if_icmp .ge 55, 3) := by decide +kernel
theorem dX6_weigh_7 : decode cX6_weigh 7 = .ok (.iconst 0, 1) := by decide +kernel
theorem dX6_weigh_8 : decode cX6_weigh 8 = .ok (.istore_n 2, 1) := by decide +kernel
theorem dX6_weigh_9 : decode cX6_weigh 9 = .ok (.iload_n 2, 1) := by decide +kernel
theorem dX6_weigh_10 : decode cX6_weigh 10 = .ok (.aload_n 0, 1) := by decide +kernel
theorem dX6_weigh_11 : decode cX6_weigh 11 = .ok (.invokevirtual 40, 3) := by decide +kernel
theorem dX6_weigh_14 : decode cX6_weigh 14 = .ok (.if_icmp .gt 39, 3) := by decide +kernel
theorem dX6_weigh_17 : decode cX6_weigh 17 = .ok (.iload_n 2, 1) := by decide +kernel
theorem dX6_weigh_18 : decode cX6_weigh 18 = .ok (.bipush 64, 2) := by decide +kernel
theorem dX6_weigh_20 : decode cX6_weigh 20 = .ok (.if_icmp .ge 33, 3) := by decide +kernel
theorem dX6_weigh_23 : decode cX6_weigh 23 = .ok (.aload_n 0, 1) := by decide +kernel
theorem dX6_weigh_24 : decode cX6_weigh 24 = .ok (.getfield 21, 3) := by decide +kernel
theorem dX6_weigh_27 : decode cX6_weigh 27 = .ok (.iload_n 1, 1) := by decide +kernel
theorem dX6_weigh_28 : decode cX6_weigh 28 = .ok (.bipush 64, 2) := by decide +kernel
theorem dX6_weigh_30 : decode cX6_weigh 30 = .ok (.imul, 1) := by decide +kernel
theorem dX6_weigh_31 : decode cX6_weigh 31 = .ok (.iload_n 2, 1) := by decide +kernel
theorem dX6_weigh_32 : decode cX6_weigh 32 = .ok (.iadd, 1) := by decide +kernel
theorem dX6_weigh_33 : decode cX6_weigh 33 = .ok (.aload_n 0, 1) := by decide +kernel
theorem dX6_weigh_34 : decode cX6_weigh 34 = .ok (.iload_n 1, 1) := by decide +kernel
theorem dX6_weigh_35 : decode cX6_weigh 35 = .ok (.iload_n 2, 1) := by decide +kernel
theorem dX6_weigh_36 : decode cX6_weigh 36 = .ok (.invokevirtual 44, 3) := by decide +kernel
theorem dX6_weigh_39 : decode cX6_weigh 39 = .ok (.aload_n 0, 1) := by decide +kernel
theorem dX6_weigh_40 : decode cX6_weigh 40 = .ok (.iload_n 1, 1) := by decide +kernel
theorem dX6_weigh_41 : decode cX6_weigh 41 = .ok (.iload_n 2, 1) := by decide +kernel
theorem dX6_weigh_42 : decode cX6_weigh 42 = .ok (.invokevirtual 48, 3) := by decide +kernel
theorem dX6_weigh_45 : decode cX6_weigh 45 = .ok (.iadd, 1) := by decide +kernel
theorem dX6_weigh_46 : decode cX6_weigh 46 = .ok (.iastore, 1) := by decide +kernel
theorem dX6_weigh_47 : decode cX6_weigh 47 = .ok (.iinc 2 1, 3) := by decide +kernel
theorem dX6_weigh_50 : decode cX6_weigh 50 = .ok (.goto (-41), 3) := by decide +kernel
theorem dX6_weigh_53 : decode cX6_weigh 53 = .ok (.iinc 1 1, 3) := by decide +kernel
theorem dX6_weigh_56 : decode cX6_weigh 56 = .ok (.goto (-54), 3) := by decide +kernel
theorem dX6_weigh_59 : decode cX6_weigh 59 = .ok (.return_, 1) := by decide +kernel
theorem dX6_all_0 : decode cX6_all 0 = .ok (.iconst 1, 1) := by decide +kernel
theorem dX6_all_1 : decode cX6_all 1 = .ok (.aload_n 0, 1) := by decide +kernel
theorem dX6_all_2 : decode cX6_all 2 = .ok (.getfield 27, 3) := by decide +kernel
theorem dX6_all_5 : decode cX6_all 5 = .ok (.ishl, 1) := by decide +kernel
theorem dX6_all_6 : decode cX6_all 6 = .ok (.iconst 1, 1) := by decide +kernel
theorem dX6_all_7 : decode cX6_all 7 = .ok (.isub, 1) := by decide +kernel
theorem dX6_all_8 : decode cX6_all 8 = .ok (.ireturn, 1) := by decide +kernel
theorem dX6_worthOf_0 : decode cX6_worthOf 0 = .ok (.iload_n 1, 1) := by decide +kernel
theorem dX6_worthOf_1 : decode cX6_worthOf 1 = .ok (.invokestatic 51, 3) := by decide +kernel
theorem dX6_worthOf_4 : decode cX6_worthOf 4 = .ok (.ifCond .eq 27, 3) := by decide +kernel
theorem dX6_worthOf_7 : decode cX6_worthOf 7 = .ok (.iload_n 2, 1) := by decide +kernel
theorem dX6_worthOf_8 : decode cX6_worthOf 8 = .ok (.ifCond .lt 23, 3) := by decide +kernel
theorem dX6_worthOf_11 : decode cX6_worthOf 11 = .ok (.iload_n 2, 1) := by decide +kernel
theorem dX6_worthOf_12 : decode cX6_worthOf 12 = .ok (.bipush 6, 2) := by decide +kernel
theorem dX6_worthOf_14 : decode cX6_worthOf 14 = .ok (.if_icmp .ge 17, 3) := by decide +kernel
theorem dX6_worthOf_17 : decode cX6_worthOf 17 = .ok (.aload_n 0, 1) := by decide +kernel
theorem dX6_worthOf_18 : decode cX6_worthOf 18 = .ok (.getfield 9, 3) := by decide +kernel
theorem dX6_worthOf_21 : decode cX6_worthOf 21 = .ok (.iload_n 1, 1) := by decide +kernel
theorem dX6_worthOf_22 : decode cX6_worthOf 22 = .ok (.bipush 6, 2) := by decide +kernel
theorem dX6_worthOf_24 : decode cX6_worthOf 24 = .ok (.imul, 1) := by decide +kernel
theorem dX6_worthOf_25 : decode cX6_worthOf 25 = .ok (.iload_n 2, 1) := by decide +kernel
theorem dX6_worthOf_26 : decode cX6_worthOf 26 = .ok (.iadd, 1) := by decide +kernel
theorem dX6_worthOf_27 : decode cX6_worthOf 27 = .ok (.iaload, 1) := by decide +kernel
theorem dX6_worthOf_28 : decode cX6_worthOf 28 = .ok (.goto 4, 3) := by decide +kernel
theorem dX6_worthOf_31 : decode cX6_worthOf 31 = .ok (.iconst 0, 1) := by decide +kernel
theorem dX6_worthOf_32 : decode cX6_worthOf 32 = .ok (.ireturn, 1) := by decide +kernel
theorem dX6_worthAlone_0 : decode cX6_worthAlone 0 = .ok (.iconst 0, 1) := by decide +kernel
theorem dX6_worthAlone_1 : decode cX6_worthAlone 1 = .ok (.istore_n 3, 1) := by decide +kernel
theorem dX6_worthAlone_2 : decode cX6_worthAlone 2 = .ok (.iconst 0, 1) := by decide +kernel
theorem dX6_worthAlone_3 : decode cX6_worthAlone 3 = .ok (.istore 4, 2) := by decide +kernel
theorem dX6_worthAlone_5 : decode cX6_worthAlone 5 = .ok (.iload 4, 2) := by decide +kernel
theorem dX6_worthAlone_7 : decode cX6_worthAlone 7 = .ok (.aload_n 0, 1) := by decide +kernel
theorem dX6_worthAlone_8 : decode cX6_worthAlone 8 = .ok (.getfield 27, 3) := by decide +kernel
theorem dX6_worthAlone_11 : decode cX6_worthAlone 11 = .ok (.if_icmp .ge 29, 3) := by decide +kernel
theorem dX6_worthAlone_14 : decode cX6_worthAlone 14 = .ok (.iload_n 2, 1) := by decide +kernel
theorem dX6_worthAlone_15 : decode cX6_worthAlone 15 = .ok (.iload 4, 2) := by decide +kernel
theorem dX6_worthAlone_17 : decode cX6_worthAlone 17 = .ok (.ishr, 1) := by decide +kernel
theorem dX6_worthAlone_18 : decode cX6_worthAlone 18 = .ok (.iconst 1, 1) := by decide +kernel
theorem dX6_worthAlone_19 : decode cX6_worthAlone 19 = .ok (.iand, 1) := by decide +kernel
theorem dX6_worthAlone_20 : decode cX6_worthAlone 20 = .ok (.iconst 1, 1) := by decide +kernel
theorem dX6_worthAlone_21 : decode cX6_worthAlone 21 = .ok (.if_icmp .ne 13, 3) := by decide +kernel
theorem dX6_worthAlone_24 : decode cX6_worthAlone 24 = .ok (.iload_n 3, 1) := by decide +kernel
theorem dX6_worthAlone_25 : decode cX6_worthAlone 25 = .ok (.aload_n 0, 1) := by decide +kernel
theorem dX6_worthAlone_26 : decode cX6_worthAlone 26 = .ok (.iload_n 1, 1) := by decide +kernel
theorem dX6_worthAlone_27 : decode cX6_worthAlone 27 = .ok (.iload 4, 2) := by decide +kernel
theorem dX6_worthAlone_29 : decode cX6_worthAlone 29 = .ok (.invokevirtual 55, 3) := by decide +kernel
theorem dX6_worthAlone_32 : decode cX6_worthAlone 32 = .ok (.iadd, 1) := by decide +kernel
theorem dX6_worthAlone_33 : decode cX6_worthAlone 33 = .ok (.istore_n 3, 1) := by decide +kernel
theorem dX6_worthAlone_34 : decode cX6_worthAlone 34 = .ok (.iinc 4 1, 3) := by decide +kernel
theorem dX6_worthAlone_37 : decode cX6_worthAlone 37 = .ok (.goto (-32), 3) := by decide +kernel
theorem dX6_worthAlone_40 : decode cX6_worthAlone 40 = .ok (.iload_n 3, 1) := by decide +kernel
theorem dX6_worthAlone_41 : decode cX6_worthAlone 41 = .ok (.ireturn, 1) := by decide +kernel
theorem dX6_moreOf_0 : decode cX6_moreOf 0 = .ok (.iconst 0, 1) := by decide +kernel
theorem dX6_moreOf_1 : decode cX6_moreOf 1 = .ok (.istore_n 3, 1) := by decide +kernel
theorem dX6_moreOf_2 : decode cX6_moreOf 2 = .ok (.iconst 0, 1) := by decide +kernel
theorem dX6_moreOf_3 : decode cX6_moreOf 3 = .ok (.istore 4, 2) := by decide +kernel
theorem dX6_moreOf_5 : decode cX6_moreOf 5 = .ok (.iload 4, 2) := by decide +kernel
theorem dX6_moreOf_7 : decode cX6_moreOf 7 = .ok (.aload_n 0, 1) := by decide +kernel
theorem dX6_moreOf_8 : decode cX6_moreOf 8 = .ok (.getfield 31, 3) := by decide +kernel
theorem dX6_moreOf_11 : decode cX6_moreOf 11 = .ok (.if_icmp .ge 56, 3) := by decide +kernel
theorem dX6_moreOf_14 : decode cX6_moreOf 14 = .ok (.iload 4, 2) := by decide +kernel
theorem dX6_moreOf_16 : decode cX6_moreOf 16 = .ok (.iconst 4, 1) := by decide +kernel
theorem dX6_moreOf_17 : decode cX6_moreOf 17 = .ok (.if_icmp .ge 50, 3) := by decide +kernel
theorem dX6_moreOf_20 : decode cX6_moreOf 20 = .ok (.iload_n 2, 1) := by decide +kernel
theorem dX6_moreOf_21 : decode cX6_moreOf 21 = .ok (.aload_n 0, 1) := by decide +kernel
theorem dX6_moreOf_22 : decode cX6_moreOf 22 = .ok (.getfield 15, 3) := by decide +kernel
theorem dX6_moreOf_25 : decode cX6_moreOf 25 = .ok (.iload 4, 2) := by decide +kernel
theorem dX6_moreOf_27 : decode cX6_moreOf 27 = .ok (.iaload, 1) := by decide +kernel
theorem dX6_moreOf_28 : decode cX6_moreOf 28 = .ok (.iand, 1) := by decide +kernel
theorem dX6_moreOf_29 : decode cX6_moreOf 29 = .ok (.aload_n 0, 1) := by decide +kernel
theorem dX6_moreOf_30 : decode cX6_moreOf 30 = .ok (.getfield 15, 3) := by decide +kernel
theorem dX6_moreOf_33 : decode cX6_moreOf 33 = .ok (.iload 4, 2) := by decide +kernel
theorem dX6_moreOf_35 : decode cX6_moreOf 35 = .ok (.iaload, 1) := by decide +kernel
theorem dX6_moreOf_36 : decode cX6_moreOf 36 = .ok (.if_icmp .ne 25, 3) := by decide +kernel
theorem dX6_moreOf_39 : decode cX6_moreOf 39 = .ok (.iload_n 3, 1) := by decide +kernel
theorem dX6_moreOf_40 : decode cX6_moreOf 40 = .ok (.aload_n 0, 1) := by decide +kernel
theorem dX6_moreOf_41 : decode cX6_moreOf 41 = .ok (.getfield 18, 3) := by decide +kernel
theorem dX6_moreOf_44 : decode cX6_moreOf 44 = .ok (.iload_n 1, 1) := by decide +kernel
theorem dX6_moreOf_45 : decode cX6_moreOf 45 = .ok (.iconst 1, 1) := by decide +kernel
theorem dX6_moreOf_46 : decode cX6_moreOf 46 = .ok (.if_icmp .ne 10, 3) := by decide +kernel
theorem dX6_moreOf_49 : decode cX6_moreOf 49 = .ok (.iconst 4, 1) := by decide +kernel
theorem dX6_moreOf_50 : decode cX6_moreOf 50 = .ok (.iload 4, 2) := by decide +kernel
theorem dX6_moreOf_52 : decode cX6_moreOf 52 = .ok (.iadd, 1) := by decide +kernel
theorem dX6_moreOf_53 : decode cX6_moreOf 53 = .ok (.goto 5, 3) := by decide +kernel
theorem dX6_moreOf_56 : decode cX6_moreOf 56 = .ok (.iload 4, 2) := by decide +kernel
theorem dX6_moreOf_58 : decode cX6_moreOf 58 = .ok (.iaload, 1) := by decide +kernel
theorem dX6_moreOf_59 : decode cX6_moreOf 59 = .ok (.iadd, 1) := by decide +kernel
theorem dX6_moreOf_60 : decode cX6_moreOf 60 = .ok (.istore_n 3, 1) := by decide +kernel
theorem dX6_moreOf_61 : decode cX6_moreOf 61 = .ok (.iinc 4 1, 3) := by decide +kernel
theorem dX6_moreOf_64 : decode cX6_moreOf 64 = .ok (.goto (-59), 3) := by decide +kernel
theorem dX6_moreOf_67 : decode cX6_moreOf 67 = .ok (.iload_n 3, 1) := by decide +kernel
theorem dX6_moreOf_68 : decode cX6_moreOf 68 = .ok (.ireturn, 1) := by decide +kernel
theorem dX6_valueOf_0 : decode cX6_valueOf 0 = .ok (.iload_n 1, 1) := by decide +kernel
theorem dX6_valueOf_1 : decode cX6_valueOf 1 = .ok (.invokestatic 51, 3) := by decide +kernel
theorem dX6_valueOf_4 : decode cX6_valueOf 4 = .ok (.ifCond .eq 27, 3) := by decide +kernel
theorem dX6_valueOf_7 : decode cX6_valueOf 7 = .ok (.iload_n 2, 1) := by decide +kernel
theorem dX6_valueOf_8 : decode cX6_valueOf 8 = .ok (.ifCond .lt 23, 3) := by decide +kernel
theorem dX6_valueOf_11 : decode cX6_valueOf 11 = .ok (.iload_n 2, 1) := by decide +kernel
theorem dX6_valueOf_12 : decode cX6_valueOf 12 = .ok (.bipush 64, 2) := by decide +kernel
theorem dX6_valueOf_14 : decode cX6_valueOf 14 = .ok (.if_icmp .ge 17, 3) := by decide +kernel
theorem dX6_valueOf_17 : decode cX6_valueOf 17 = .ok (.aload_n 0, 1) := by decide +kernel
theorem dX6_valueOf_18 : decode cX6_valueOf 18 = .ok (.getfield 21, 3) := by decide +kernel
theorem dX6_valueOf_21 : decode cX6_valueOf 21 = .ok (.iload_n 1, 1) := by decide +kernel
theorem dX6_valueOf_22 : decode cX6_valueOf 22 = .ok (.bipush 64, 2) := by decide +kernel
theorem dX6_valueOf_24 : decode cX6_valueOf 24 = .ok (.imul, 1) := by decide +kernel
theorem dX6_valueOf_25 : decode cX6_valueOf 25 = .ok (.iload_n 2, 1) := by decide +kernel
theorem dX6_valueOf_26 : decode cX6_valueOf 26 = .ok (.iadd, 1) := by decide +kernel
theorem dX6_valueOf_27 : decode cX6_valueOf 27 = .ok (.iaload, 1) := by decide +kernel
theorem dX6_valueOf_28 : decode cX6_valueOf 28 = .ok (.goto 4, 3) := by decide +kernel
theorem dX6_valueOf_31 : decode cX6_valueOf 31 = .ok (.iconst 0, 1) := by decide +kernel
theorem dX6_valueOf_32 : decode cX6_valueOf 32 = .ok (.ireturn, 1) := by decide +kernel
theorem dX6_ownIn_0 : decode cX6_ownIn 0 = .ok (.iload_n 1, 1) := by decide +kernel
theorem dX6_ownIn_1 : decode cX6_ownIn 1 = .ok (.iconst 1, 1) := by decide +kernel
theorem dX6_ownIn_2 : decode cX6_ownIn 2 = .ok (.if_icmp .ne 7, 3) := by decide +kernel
theorem dX6_ownIn_5 : decode cX6_ownIn 5 = .ok (.iload_n 2, 1) := by decide +kernel
theorem dX6_ownIn_6 : decode cX6_ownIn 6 = .ok (.goto 9, 3) := by decide +kernel
theorem dX6_ownIn_9 : decode cX6_ownIn 9 = .ok (.aload_n 0, 1) := by decide +kernel
theorem dX6_ownIn_10 : decode cX6_ownIn 10 = .ok (.invokevirtual 40, 3) := by decide +kernel
theorem dX6_ownIn_13 : decode cX6_ownIn 13 = .ok (.iload_n 2, 1) := by decide +kernel
theorem dX6_ownIn_14 : decode cX6_ownIn 14 = .ok (.ixor, 1) := by decide +kernel
theorem dX6_ownIn_15 : decode cX6_ownIn 15 = .ok (.ireturn, 1) := by decide +kernel
theorem dX6_cellBehind_0 : decode cX6_cellBehind 0 = .ok (.aload_n 0, 1) := by decide +kernel
theorem dX6_cellBehind_1 : decode cX6_cellBehind 1 = .ok (.getfield 37, 3) := by decide +kernel
theorem dX6_cellBehind_4 : decode cX6_cellBehind 4 = .ok (.iconst 1, 1) := by decide +kernel
theorem dX6_cellBehind_5 : decode cX6_cellBehind 5 = .ok (.if_icmp .ge 7, 3) := by decide +kernel
theorem dX6_cellBehind_8 : decode cX6_cellBehind 8 = .ok (.iconst 0, 1) := by decide +kernel
theorem dX6_cellBehind_9 : decode cX6_cellBehind 9 = .ok (.goto 9, 3) := by decide +kernel
theorem dX6_cellBehind_12 : decode cX6_cellBehind 12 = .ok (.iload_n 1, 1) := by decide +kernel
theorem dX6_cellBehind_13 : decode cX6_cellBehind 13 = .ok (.aload_n 0, 1) := by decide +kernel
theorem dX6_cellBehind_14 : decode cX6_cellBehind 14 = .ok (.getfield 37, 3) := by decide +kernel
theorem dX6_cellBehind_17 : decode cX6_cellBehind 17 = .ok (.irem, 1) := by decide +kernel
theorem dX6_cellBehind_18 : decode cX6_cellBehind 18 = .ok (.ireturn, 1) := by decide +kernel
end
section
theorem dX6_wear_0 : decode cX6_wear 0 = .ok (.aload_n 0, 1) := by decide +kernel
theorem dX6_wear_1 : decode cX6_wear 1 = .ok (.getfield 37, 3) := by decide +kernel
theorem dX6_wear_4 : decode cX6_wear 4 = .ok (.iconst 1, 1) := by decide +kernel
theorem dX6_wear_5 : decode cX6_wear 5 = .ok (.if_icmp .lt 8, 3) := by decide +kernel
theorem dX6_wear_8 : decode cX6_wear 8 = .ok (.iload_n 1, 1) := by decide +kernel
theorem dX6_wear_9 : decode cX6_wear 9 = .ok (.iload_n 2, 1) := by decide +kernel
theorem dX6_wear_10 : decode cX6_wear 10 = .ok (.if_icmp .gt 7, 3) := by decide +kernel
theorem dX6_wear_13 : decode cX6_wear 13 = .ok (.iconst 0, 1) := by decide +kernel
theorem dX6_wear_14 : decode cX6_wear 14 = .ok (.goto 18, 3) := by decide +kernel
theorem dX6_wear_17 : decode cX6_wear 17 = .ok (.iload_n 1, 1) := by decide +kernel
theorem dX6_wear_18 : decode cX6_wear 18 = .ok (.iload_n 2, 1) := by decide +kernel
theorem dX6_wear_19 : decode cX6_wear 19 = .ok (.isub, 1) := by decide +kernel
theorem dX6_wear_20 : decode cX6_wear 20 = .ok (.aload_n 0, 1) := by decide +kernel
theorem dX6_wear_21 : decode cX6_wear 21 = .ok (.getfield 37, 3) := by decide +kernel
theorem dX6_wear_24 : decode cX6_wear 24 = .ok (.iadd, 1) := by decide +kernel
theorem dX6_wear_25 : decode cX6_wear 25 = .ok (.iconst 1, 1) := by decide +kernel
theorem dX6_wear_26 : decode cX6_wear 26 = .ok (.isub, 1) := by decide +kernel
theorem dX6_wear_27 : decode cX6_wear 27 = .ok (.aload_n 0, 1) := by decide +kernel
theorem dX6_wear_28 : decode cX6_wear 28 = .ok (.getfield 37, 3) := by decide +kernel
theorem dX6_wear_31 : decode cX6_wear 31 = .ok (.idiv, 1) := by decide +kernel
theorem dX6_wear_32 : decode cX6_wear 32 = .ok (.ireturn, 1) := by decide +kernel
theorem dX7_init_0 : decode cX7_init 0 = .ok (.aload_n 0, 1) := by decide +kernel
theorem dX7_init_1 : decode cX7_init 1 = .ok (.invokespecial 3, 3) := by decide +kernel
theorem dX7_init_4 : decode cX7_init 4 = .ok (.return_, 1) := by decide +kernel
theorem dX7_verdict_0 : decode cX7_verdict 0 = .ok (.aload_n 1, 1) := by decide +kernel
theorem dX7_verdict_1 : decode cX7_verdict 1 = .ok (.dup, 1) := by decide +kernel
theorem dX7_verdict_2 : decode cX7_verdict 2 = .ok (.getfield 9, 3) := by decide +kernel
theorem dX7_verdict_5 : decode cX7_verdict 5 = .ok (.ldc2_w 13, 3) := by decide +kernel
theorem dX7_verdict_8 : decode cX7_verdict 8 = .ok (.ladd, 1) := by decide +kernel
theorem dX7_verdict_9 : decode cX7_verdict 9 = .ok (.putfield 9, 3) := by decide +kernel
theorem dX7_verdict_12 : decode cX7_verdict 12 = .ok (.aload_n 0, 1) := by decide +kernel
theorem dX7_verdict_13 : decode cX7_verdict 13 = .ok (.aload_n 1, 1) := by decide +kernel
theorem dX7_verdict_14 : decode cX7_verdict 14 = .ok (.iload_n 2, 1) := by decide +kernel
theorem dX7_verdict_15 : decode cX7_verdict 15 = .ok (.invokespecial 15, 3) := by decide +kernel
theorem dX7_verdict_18 : decode cX7_verdict 18 = .ok (.aload_n 1, 1) := by decide +kernel
theorem dX7_verdict_19 : decode cX7_verdict 19 = .ok (.getfield 19, 3) := by decide +kernel
theorem dX7_verdict_22 : decode cX7_verdict 22 = .ok (.iconst 2, 1) := by decide +kernel
theorem dX7_verdict_23 : decode cX7_verdict 23 = .ok (.aload_n 1, 1) := by decide +kernel
theorem dX7_verdict_24 : decode cX7_verdict 24 = .ok (.getfield 23, 3) := by decide +kernel
theorem dX7_verdict_27 : decode cX7_verdict 27 = .ok (.getfield 27, 3) := by decide +kernel
theorem dX7_verdict_30 : decode cX7_verdict 30 = .ok (.invokevirtual 33, 3) := by decide +kernel
theorem dX7_verdict_33 : decode cX7_verdict 33 = .ok (.invokestatic 39, 3) := by decide +kernel
theorem dX7_verdict_36 : decode cX7_verdict 36 = .ok (.iadd, 1) := by decide +kernel
theorem dX7_verdict_37 : decode cX7_verdict 37 = .ok (.ireturn, 1) := by decide +kernel
theorem dX8_init_0 : decode cX8_init 0 = .ok (.aload_n 0, 1) := by decide +kernel
theorem dX8_init_1 : decode cX8_init 1 = .ok (.invokespecial 1, 3) := by decide +kernel
theorem dX8_init_4 : decode cX8_init 4 = .ok (.return_, 1) := by decide +kernel
theorem dX8_verdict_0 : decode cX8_verdict 0 = .ok (.aload_n 1, 1) := by decide +kernel
theorem dX8_verdict_1 : decode cX8_verdict 1 = .ok (.dup, 1) := by decide +kernel
theorem dX8_verdict_2 : decode cX8_verdict 2 = .ok (.getfield 7, 3) := by decide +kernel
theorem dX8_verdict_5 : decode cX8_verdict 5 = .ok (.ldc2_w 13, 3) := by decide +kernel
theorem dX8_verdict_8 : decode cX8_verdict 8 = .ok (.ladd, 1) := by decide +kernel
theorem dX8_verdict_9 : decode cX8_verdict 9 = .ok (.putfield 7, 3) := by decide +kernel
theorem dX8_verdict_12 : decode cX8_verdict 12 = .ok (.aload_n 0, 1) := by decide +kernel
theorem dX8_verdict_13 : decode cX8_verdict 13 = .ok (.aload_n 1, 1) := by decide +kernel
theorem dX8_verdict_14 : decode cX8_verdict 14 = .ok (.iload_n 2, 1) := by decide +kernel
theorem dX8_verdict_15 : decode cX8_verdict 15 = .ok (.invokespecial 15, 3) := by decide +kernel
theorem dX8_verdict_18 : decode cX8_verdict 18 = .ok (.iload_n 2, 1) := by decide +kernel
theorem dX8_verdict_19 : decode cX8_verdict 19 = .ok (.iadd, 1) := by decide +kernel
theorem dX8_verdict_20 : decode cX8_verdict 20 = .ok (.ireturn, 1) := by decide +kernel
theorem dX9_init_0 : decode cX9_init 0 = .ok (.aload_n 0, 1) := by decide +kernel
theorem dX9_init_1 : decode cX9_init 1 = .ok (.invokespecial 1, 3) := by decide +kernel
theorem dX9_init_4 : decode cX9_init 4 = .ok (.return_, 1) := by decide +kernel
theorem dX9_verdict_0 : decode cX9_verdict 0 = .ok (.aload_n 1, 1) := by decide +kernel
theorem dX9_verdict_1 : decode cX9_verdict 1 = .ok (.dup, 1) := by decide +kernel
theorem dX9_verdict_2 : decode cX9_verdict 2 = .ok (.getfield 7, 3) := by decide +kernel
theorem dX9_verdict_5 : decode cX9_verdict 5 = .ok (.ldc2_w 13, 3) := by decide +kernel
theorem dX9_verdict_8 : decode cX9_verdict 8 = .ok (.ladd, 1) := by decide +kernel
theorem dX9_verdict_9 : decode cX9_verdict 9 = .ok (.putfield 7, 3) := by decide +kernel
theorem dX9_verdict_12 : decode cX9_verdict 12 = .ok (.aload_n 0, 1) := by decide +kernel
theorem dX9_verdict_13 : decode cX9_verdict 13 = .ok (.aload_n 1, 1) := by decide +kernel
theorem dX9_verdict_14 : decode cX9_verdict 14 = .ok (.iload_n 2, 1) := by decide +kernel
theorem dX9_verdict_15 : decode cX9_verdict 15 = .ok (.invokespecial 15, 3) := by decide +kernel
theorem dX9_verdict_18 : decode cX9_verdict 18 = .ok (.aload_n 1, 1) := by decide +kernel
theorem dX9_verdict_19 : decode cX9_verdict 19 = .ok (.iload_n 2, 1) := by decide +kernel
theorem dX9_verdict_20 : decode cX9_verdict 20 = .ok (.invokevirtual 19, 3) := by decide +kernel
theorem dX9_verdict_23 : decode cX9_verdict 23 = .ok (.isub, 1) := by decide +kernel
theorem dX9_verdict_24 : decode cX9_verdict 24 = .ok (.ireturn, 1) := by decide +kernel
theorem dX10_init_0 : decode cX10_init 0 = .ok (.aload_n 0, 1) := by decide +kernel
theorem dX10_init_1 : decode cX10_init 1 = .ok (.invokespecial 3, 3) := by decide +kernel
theorem dX10_init_4 : decode cX10_init 4 = .ok (.aload_n 0, 1) := by decide +kernel
theorem dX10_init_5 : decode cX10_init 5 = .ok (.new 9, 3) := by decide +kernel
theorem dX10_init_8 : decode cX10_init 8 = .ok (.dup, 1) := by decide +kernel
theorem dX10_init_9 : decode cX10_init 9 = .ok (.invokespecial 11, 3) := by decide +kernel
theorem dX10_init_12 : decode cX10_init 12 = .ok (.putfield 12, 3) := by decide +kernel
theorem dX10_init_15 : decode cX10_init 15 = .ok (.aload_n 0, 1) := by decide +kernel
theorem dX10_init_16 : decode cX10_init 16 = .ok (.new 16, 3) := by decide +kernel
theorem dX10_init_19 : decode cX10_init 19 = .ok (.dup, 1) := by decide +kernel
theorem dX10_init_20 : decode cX10_init 20 = .ok (.invokespecial 18, 3) := by decide +kernel
theorem dX10_init_23 : decode cX10_init 23 = .ok (.putfield 19, 3) := by decide +kernel
theorem dX10_init_26 : decode cX10_init 26 = .ok (.aload_n 0, 1) := by decide +kernel
theorem dX10_init_27 : decode cX10_init 27 = .ok (.new 16, 3) := by decide +kernel
theorem dX10_init_30 : decode cX10_init 30 = .ok (.dup, 1) := by decide +kernel
theorem dX10_init_31 : decode cX10_init 31 = .ok (.invokespecial 18, 3) := by decide +kernel
theorem dX10_init_34 : decode cX10_init 34 = .ok (.putfield 23, 3) := by decide +kernel
theorem dX10_init_37 : decode cX10_init 37 = .ok (.aload_n 0, 1) := by decide +kernel
theorem dX10_init_38 : decode cX10_init 38 = .ok (.new 26, 3) := by decide +kernel
theorem dX10_init_41 : decode cX10_init 41 = .ok (.dup, 1) := by decide +kernel
theorem dX10_init_42 : decode cX10_init 42 = .ok (.invokespecial 28, 3) := by decide +kernel
theorem dX10_init_45 : decode cX10_init 45 = .ok (.putfield 29, 3) := by decide +kernel
theorem dX10_init_48 : decode cX10_init 48 = .ok (.aload_n 0, 1) := by decide +kernel
theorem dX10_init_49 : decode cX10_init 49 = .ok (.new 26, 3) := by decide +kernel
theorem dX10_init_52 : decode cX10_init 52 = .ok (.dup, 1) := by decide +kernel
theorem dX10_init_53 : decode cX10_init 53 = .ok (.invokespecial 28, 3) := by decide +kernel
theorem dX10_init_56 : decode cX10_init 56 = .ok (.putfield 33, 3) := by decide +kernel
theorem dX10_init_59 : decode cX10_init 59 = .ok (.aload_n 0, 1) := by decide +kernel
theorem dX10_init_60 : decode cX10_init 60 = .ok (.new 26, 3) := by decide +kernel
theorem dX10_init_63 : decode cX10_init 63 = .ok (.dup, 1) := by decide +kernel
theorem dX10_init_64 : decode cX10_init 64 = .ok (.invokespecial 28, 3) := by decide +kernel
theorem dX10_init_67 : decode cX10_init 67 = .ok (.putfield 36, 3) := by decide +kernel
theorem dX10_init_70 : decode cX10_init 70 = .ok (.aload_n 0, 1) := by decide +kernel
theorem dX10_init_71 : decode cX10_init 71 = .ok (.new 39, 3) := by decide +kernel
theorem dX10_init_74 : decode cX10_init 74 = .ok (.dup, 1) := by decide +kernel
theorem dX10_init_75 : decode cX10_init 75 = .ok (.invokespecial 41, 3) := by decide +kernel
theorem dX10_init_78 : decode cX10_init 78 = .ok (.putfield 42, 3) := by decide +kernel
theorem dX10_init_81 : decode cX10_init 81 = .ok (.aload_n 0, 1) := by decide +kernel
theorem dX10_init_82 : decode cX10_init 82 = .ok (.bipush 6, 2) := by decide +kernel
theorem dX10_init_84 : decode cX10_init 84 = .ok (.anewarray 46, 3) := by decide +kernel
theorem dX10_init_87 : decode cX10_init 87 = .ok (.putfield 48, 3) := by decide +kernel
theorem dX10_init_90 : decode cX10_init 90 = .ok (.aload_n 0, 1) := by decide +kernel
theorem dX10_init_91 : decode cX10_init 91 = .ok (.bipush 10, 2) := by decide +kernel
theorem dX10_init_93 : decode cX10_init 93 = .ok (.newarray .int, 2) := by decide +kernel
theorem dX10_init_95 : decode cX10_init 95 = .ok (.putfield 52, 3) := by decide +kernel
theorem dX10_init_98 : decode cX10_init 98 = .ok (.aload_n 0, 1) := by decide +kernel
theorem dX10_init_99 : decode cX10_init 99 = .ok (.bipush 6, 2) := by decide +kernel
theorem dX10_init_101 : decode cX10_init 101 = .ok (.newarray .int, 2) := by decide +kernel
theorem dX10_init_103 : decode cX10_init 103 = .ok (.putfield 56, 3) := by decide +kernel
theorem dX10_init_106 : decode cX10_init 106 = .ok (.aload_n 0, 1) := by decide +kernel
theorem dX10_init_107 : decode cX10_init 107 = .ok (.bipush 6, 2) := by decide +kernel
theorem dX10_init_109 : decode cX10_init 109 = .ok (.newarray .int, 2) := by decide +kernel
theorem dX10_init_111 : decode cX10_init 111 = .ok (.putfield 59, 3) := by decide +kernel
theorem dX10_init_114 : decode cX10_init 114 = .ok (.aload_n 0, 1) := by decide +kernel
theorem dX10_init_115 : decode cX10_init 115 = .ok (.bipush 6, 2) := by decide +kernel
theorem dX10_init_117 : decode cX10_init 117 = .ok (.newarray .int, 2) := by decide +kernel
theorem dX10_init_119 : decode cX10_init 119 = .ok (.putfield 62, 3) := by decide +kernel
theorem dX10_init_122 : decode cX10_init 122 = .ok (.aload_n 0, 1) := by decide +kernel
theorem dX10_init_123 : decode cX10_init 123 = .ok (.getfield 48, 3) := by decide +kernel
theorem dX10_init_126 : decode cX10_init 126 = .ok (.iconst 0, 1) := by decide +kernel
theorem dX10_init_127 : decode cX10_init 127 = .ok (.new 46, 3) := by decide +kernel
theorem dX10_init_130 : decode cX10_init 130 = .ok (.dup, 1) := by decide +kernel
theorem dX10_init_131 : decode cX10_init 131 = .ok (.invokespecial 65, 3) := by decide +kernel
theorem dX10_init_134 : decode cX10_init 134 = .ok (.aastore, 1) := by decide +kernel
theorem dX10_init_135 : decode cX10_init 135 = .ok (.aload_n 0, 1) := by decide +kernel
theorem dX10_init_136 : decode cX10_init 136 = .ok (.getfield 48, 3) := by decide +kernel
theorem dX10_init_139 : decode cX10_init 139 = .ok (.iconst 1, 1) := by decide +kernel
theorem dX10_init_140 : decode cX10_init 140 = .ok (.new 66, 3) := by decide +kernel
theorem dX10_init_143 : decode cX10_init 143 = .ok (.dup, 1) := by decide +kernel
theorem dX10_init_144 : decode cX10_init 144 = .ok (.invokespecial 68, 3) := by decide +kernel
theorem dX10_init_147 : decode cX10_init 147 = .ok (.aastore, 1) := by decide +kernel
theorem dX10_init_148 : decode cX10_init 148 = .ok (.aload_n 0, 1) := by decide +kernel
theorem dX10_init_149 : decode cX10_init 149 = .ok (.getfield 48, 3) := by decide +kernel
theorem dX10_init_152 : decode cX10_init 152 = .ok (.iconst 2, 1) := by decide +kernel
theorem dX10_init_153 : decode cX10_init 153 = .ok (.new 69, 3) := by decide +kernel
theorem dX10_init_156 : decode cX10_init 156 = .ok (.dup, 1) := by decide +kernel
theorem dX10_init_157 : decode cX10_init 157 = .ok (.invokespecial 71, 3) := by decide +kernel
theorem dX10_init_160 : decode cX10_init 160 = .ok (.aastore, 1) := by decide +kernel
theorem dX10_init_161 : decode cX10_init 161 = .ok (.aload_n 0, 1) := by decide +kernel
theorem dX10_init_162 : decode cX10_init 162 = .ok (.getfield 48, 3) := by decide +kernel
theorem dX10_init_165 : decode cX10_init 165 = .ok (.iconst 3, 1) := by decide +kernel
theorem dX10_init_166 : decode cX10_init 166 = .ok (.new 72, 3) := by decide +kernel
theorem dX10_init_169 : decode cX10_init 169 = .ok (.dup, 1) := by decide +kernel
theorem dX10_init_170 : decode cX10_init 170 = .ok (.invokespecial 74, 3) := by decide +kernel
theorem dX10_init_173 : decode cX10_init 173 = .ok (.aastore, 1) := by decide +kernel
theorem dX10_init_174 : decode cX10_init 174 = .ok (.aload_n 0, 1) := by decide +kernel
theorem dX10_init_175 : decode cX10_init 175 = .ok (.getfield 48, 3) := by decide +kernel
theorem dX10_init_178 : decode cX10_init 178 = .ok (.iconst 4, 1) := by decide +kernel
theorem dX10_init_179 : decode cX10_init 179 = .ok (.new 75, 3) := by decide +kernel
theorem dX10_init_182 : decode cX10_init 182 = .ok (.dup, 1) := by decide +kernel
theorem dX10_init_183 : decode cX10_init 183 = .ok (.invokespecial 77, 3) := by decide +kernel
theorem dX10_init_186 : decode cX10_init 186 = .ok (.aastore, 1) := by decide +kernel
theorem dX10_init_187 : decode cX10_init 187 = .ok (.aload_n 0, 1) := by decide +kernel
theorem dX10_init_188 : decode cX10_init 188 = .ok (.getfield 48, 3) := by decide +kernel
theorem dX10_init_191 : decode cX10_init 191 = .ok (.iconst 5, 1) := by decide +kernel
theorem dX10_init_192 : decode cX10_init 192 = .ok (.new 78, 3) := by decide +kernel
theorem dX10_init_195 : decode cX10_init 195 = .ok (.dup, 1) := by decide +kernel
theorem dX10_init_196 : decode cX10_init 196 = .ok (.invokespecial 80, 3) := by decide +kernel
theorem dX10_init_199 : decode cX10_init 199 = .ok (.aastore, 1) := by decide +kernel
theorem dX10_init_200 : decode cX10_init 200 = .ok (.aload_n 0, 1) := by decide +kernel
theorem dX10_init_201 : decode cX10_init 201 = .ok (.invokevirtual 81, 3) := by decide +kernel
theorem dX10_init_204 : decode cX10_init 204 = .ok (.return_, 1) := by decide +kernel
theorem dX10_type_0 : decode cX10_type 0 = .ok (.iload_n 1, 1) := by decide +kernel
theorem dX10_type_1 : decode cX10_type 1 = .ok (.ifCond .lt 10, 3) := by decide +kernel
theorem dX10_type_4 : decode cX10_type 4 = .ok (.iload_n 1, 1) := by decide +kernel
theorem dX10_type_5 : decode cX10_type 5 = .ok (.sipush 255, 3) := by decide +kernel
theorem dX10_type_8 : decode cX10_type 8 = .ok (.if_icmp .le 5, 3) := by decide +kernel
theorem dX10_type_11 : decode cX10_type 11 = .ok (.iconst (-1), 1) := by decide +kernel
theorem dX10_type_12 : decode cX10_type 12 = .ok (.ireturn, 1) := by decide +kernel
theorem dX10_type_13 : decode cX10_type 13 = .ok (.aload_n 0, 1) := by decide +kernel
theorem dX10_type_14 : decode cX10_type 14 = .ok (.getfield 12, 3) := by decide +kernel
theorem dX10_type_17 : decode cX10_type 17 = .ok (.iload_n 1, 1) := by decide +kernel
theorem dX10_type_18 : decode cX10_type 18 = .ok (.invokevirtual 84, 3) := by decide +kernel
theorem dX10_type_21 : decode cX10_type 21 = .ok (.ifCond .eq 13, 3) := by decide +kernel
theorem dX10_type_24 : decode cX10_type 24 = .ok (.aload_n 0, 1) := by decide +kernel
theorem dX10_type_25 : decode cX10_type 25 = .ok (.getfield 12, 3) := by decide +kernel
theorem dX10_type_28 : decode cX10_type 28 = .ok (.getfield 88, 3) := by decide +kernel
theorem dX10_type_31 : decode cX10_type 31 = .ok (.goto 5, 3) := by decide +kernel
theorem dX10_type_34 : decode cX10_type 34 = .ok (.bipush (-3), 2) := by decide +kernel
theorem dX10_type_36 : decode cX10_type 36 = .ok (.ireturn, 1) := by decide +kernel
theorem dX10_clear_0 : decode cX10_clear 0 = .ok (.aload_n 0, 1) := by decide +kernel
theorem dX10_clear_1 : decode cX10_clear 1 = .ok (.getfield 12, 3) := by decide +kernel
theorem dX10_clear_4 : decode cX10_clear 4 = .ok (.getfield 88, 3) := by decide +kernel
theorem dX10_clear_7 : decode cX10_clear 7 = .ok (.istore_n 1, 1) := by decide +kernel
theorem dX10_clear_8 : decode cX10_clear 8 = .ok (.aload_n 0, 1) := by decide +kernel
theorem dX10_clear_9 : decode cX10_clear 9 = .ok (.getfield 12, 3) := by decide +kernel
theorem dX10_clear_12 : decode cX10_clear 12 = .ok (.invokevirtual 92, 3) := by decide +kernel
theorem dX10_clear_15 : decode cX10_clear 15 = .ok (.iload_n 1, 1) := by decide +kernel
theorem dX10_clear_16 : decode cX10_clear 16 = .ok (.ireturn, 1) := by decide +kernel
theorem dX10_suit_0 : decode cX10_suit 0 = .ok (.aload_n 0, 1) := by decide +kernel
theorem dX10_suit_1 : decode cX10_suit 1 = .ok (.getfield 12, 3) := by decide +kernel
theorem dX10_suit_4 : decode cX10_suit 4 = .ok (.aload_n 0, 1) := by decide +kernel
theorem dX10_suit_5 : decode cX10_suit 5 = .ok (.getfield 23, 3) := by decide +kernel
theorem dX10_suit_8 : decode cX10_suit 8 = .ok (.invokevirtual 95, 3) := by decide +kernel
theorem dX10_suit_11 : decode cX10_suit 11 = .ok (.istore_n 1, 1) := by decide +kernel
theorem dX10_suit_12 : decode cX10_suit 12 = .ok (.iload_n 1, 1) := by decide +kernel
theorem dX10_suit_13 : decode cX10_suit 13 = .ok (.ifCond .ge 5, 3) := by decide +kernel
theorem dX10_suit_16 : decode cX10_suit 16 = .ok (.iload_n 1, 1) := by decide +kernel
theorem dX10_suit_17 : decode cX10_suit 17 = .ok (.ireturn, 1) := by decide +kernel
theorem dX10_suit_18 : decode cX10_suit 18 = .ok (.aload_n 0, 1) := by decide +kernel
theorem dX10_suit_19 : decode cX10_suit 19 = .ok (.getfield 23, 3) := by decide +kernel
theorem dX10_suit_22 : decode cX10_suit 22 = .ok (.invokevirtual 99, 3) := by decide +kernel
theorem dX10_suit_25 : decode cX10_suit 25 = .ok (.aload_n 0, 1) := by decide +kernel
theorem dX10_suit_26 : decode cX10_suit 26 = .ok (.getfield 19, 3) := by decide +kernel
theorem dX10_suit_29 : decode cX10_suit 29 = .ok (.astore_n 2, 1) := by decide +kernel
theorem dX10_suit_30 : decode cX10_suit 30 = .ok (.aload_n 0, 1) := by decide +kernel
theorem dX10_suit_31 : decode cX10_suit 31 = .ok (.aload_n 0, 1) := by decide +kernel
theorem dX10_suit_32 : decode cX10_suit 32 = .ok (.getfield 23, 3) := by decide +kernel
theorem dX10_suit_35 : decode cX10_suit 35 = .ok (.putfield 19, 3) := by decide +kernel
theorem dX10_suit_38 : decode cX10_suit 38 = .ok (.aload_n 0, 1) := by decide +kernel
theorem dX10_suit_39 : decode cX10_suit 39 = .ok (.aload_n 2, 1) := by decide +kernel
theorem dX10_suit_40 : decode cX10_suit 40 = .ok (.putfield 23, 3) := by decide +kernel
theorem dX10_suit_43 : decode cX10_suit 43 = .ok (.aload_n 0, 1) := by decide +kernel
theorem dX10_suit_44 : decode cX10_suit 44 = .ok (.getfield 12, 3) := by decide +kernel
theorem dX10_suit_47 : decode cX10_suit 47 = .ok (.invokevirtual 92, 3) := by decide +kernel
theorem dX10_suit_50 : decode cX10_suit 50 = .ok (.aload_n 0, 1) := by decide +kernel
theorem dX10_suit_51 : decode cX10_suit 51 = .ok (.invokevirtual 81, 3) := by decide +kernel
theorem dX10_suit_54 : decode cX10_suit 54 = .ok (.iload_n 1, 1) := by decide +kernel
theorem dX10_suit_55 : decode cX10_suit 55 = .ok (.ireturn, 1) := by decide +kernel
theorem dX10_good_0 : decode cX10_good 0 = .ok (.aload_n 0, 1) := by decide +kernel
theorem dX10_good_1 : decode cX10_good 1 = .ok (.iload_n 1, 1) := by decide +kernel
theorem dX10_good_2 : decode cX10_good 2 = .ok (.invokevirtual 102, 3) := by decide +kernel
theorem dX10_good_5 : decode cX10_good 5 = .ok (.ifCond .eq 12, 3) := by decide +kernel
theorem dX10_good_8 : decode cX10_good 8 = .ok (.iload_n 2, 1) := by decide +kernel
theorem dX10_good_9 : decode cX10_good 9 = .ok (.ifCond .lt 8, 3) := by decide +kernel
theorem dX10_good_12 : decode cX10_good 12 = .ok (.iload_n 2, 1) := by decide +kernel
theorem dX10_good_13 : decode cX10_good 13 = .ok (.iconst 2, 1) := by decide +kernel
theorem dX10_good_14 : decode cX10_good 14 = .ok (.if_icmp .le 5, 3) := by decide +kernel
theorem dX10_good_17 : decode cX10_good 17 = .ok (.iconst (-1), 1) := by decide +kernel
theorem dX10_good_18 : decode cX10_good 18 = .ok (.ireturn, 1) := by decide +kernel
theorem dX10_good_19 : decode cX10_good 19 = .ok (.iload_n 2, 1) := by decide +kernel
theorem dX10_good_20 : decode cX10_good 20 = .ok (.iconst 2, 1) := by decide +kernel
theorem dX10_good_21 : decode cX10_good 21 = .ok (.if_icmp .ne 14, 3) := by decide +kernel
theorem dX10_good_24 : decode cX10_good 24 = .ok (.aload_n 0, 1) := by decide +kernel
theorem dX10_good_25 : decode cX10_good 25 = .ok (.getfield 29, 3) := by decide +kernel
theorem dX10_good_28 : decode cX10_good 28 = .ok (.iload_n 1, 1) := by decide +kernel
theorem dX10_good_29 : decode cX10_good 29 = .ok (.invokevirtual 105, 3) := by decide +kernel
theorem dX10_good_32 : decode cX10_good 32 = .ok (.goto 12, 3) := by decide +kernel
theorem dX10_good_35 : decode cX10_good 35 = .ok (.aload_n 0, 1) := by decide +kernel
theorem dX10_good_36 : decode cX10_good 36 = .ok (.getfield 19, 3) := by decide +kernel
theorem dX10_good_39 : decode cX10_good 39 = .ok (.iload_n 2, 1) := by decide +kernel
theorem dX10_good_40 : decode cX10_good 40 = .ok (.iload_n 1, 1) := by decide +kernel
theorem dX10_good_41 : decode cX10_good 41 = .ok (.invokevirtual 109, 3) := by decide +kernel
theorem dX10_good_44 : decode cX10_good 44 = .ok (.ireturn, 1) := by decide +kernel
theorem dX10_values_0 : decode cX10_values 0 = .ok (.iload_n 1, 1) := by decide +kernel
theorem dX10_values_1 : decode cX10_values 1 = .ok (.invokestatic 113, 3) := by decide +kernel
theorem dX10_values_4 : decode cX10_values 4 = .ok (.ifCond .eq 18, 3) := by decide +kernel
theorem dX10_values_7 : decode cX10_values 7 = .ok (.iload_n 2, 1) := by decide +kernel
theorem dX10_values_8 : decode cX10_values 8 = .ok (.ifCond .lt 14, 3) := by decide +kernel
theorem dX10_values_11 : decode cX10_values 11 = .ok (.iload_n 2, 1) := by decide +kernel
theorem dX10_values_12 : decode cX10_values 12 = .ok (.aload_n 0, 1) := by decide +kernel
theorem dX10_values_13 : decode cX10_values 13 = .ok (.getfield 19, 3) := by decide +kernel
theorem dX10_values_16 : decode cX10_values 16 = .ok (.invokevirtual 116, 3) := by decide +kernel
theorem dX10_values_19 : decode cX10_values 19 = .ok (.if_icmp .le 5, 3) := by decide +kernel
theorem dX10_values_22 : decode cX10_values 22 = .ok (.iconst (-1), 1) := by decide +kernel
theorem dX10_values_23 : decode cX10_values 23 = .ok (.ireturn, 1) := by decide +kernel
theorem dX10_values_24 : decode cX10_values 24 = .ok (.aload_n 0, 1) := by decide +kernel
theorem dX10_values_25 : decode cX10_values 25 = .ok (.getfield 19, 3) := by decide +kernel
theorem dX10_values_28 : decode cX10_values 28 = .ok (.iload_n 1, 1) := by decide +kernel
theorem dX10_values_29 : decode cX10_values 29 = .ok (.iload_n 2, 1) := by decide +kernel
theorem dX10_values_30 : decode cX10_values 30 = .ok (.invokevirtual 120, 3) := by decide +kernel
theorem dX10_values_33 : decode cX10_values 33 = .ok (.ireturn, 1) := by decide +kernel
theorem dX10_now_0 : decode cX10_now 0 = .ok (.iload_n 1, 1) := by decide +kernel
theorem dX10_now_1 : decode cX10_now 1 = .ok (.ifCond .lt 8, 3) := by decide +kernel
theorem dX10_now_4 : decode cX10_now 4 = .ok (.iload_n 1, 1) := by decide +kernel
theorem dX10_now_5 : decode cX10_now 5 = .ok (.iconst 4, 1) := by decide +kernel
theorem dX10_now_6 : decode cX10_now 6 = .ok (.if_icmp .le 5, 3) := by decide +kernel
theorem dX10_now_9 : decode cX10_now 9 = .ok (.iconst (-1), 1) := by decide +kernel
theorem dX10_now_10 : decode cX10_now 10 = .ok (.ireturn, 1) := by decide +kernel
theorem dX10_now_11 : decode cX10_now 11 = .ok (.iload_n 1, 1) := by decide +kernel
theorem dX10_now_12 : decode cX10_now 12 = .ok (.iconst 3, 1) := by decide +kernel
theorem dX10_now_13 : decode cX10_now 13 = .ok (.if_icmp .ne 11, 3) := by decide +kernel
theorem dX10_now_16 : decode cX10_now 16 = .ok (.aload_n 0, 1) := by decide +kernel
theorem dX10_now_17 : decode cX10_now 17 = .ok (.getfield 29, 3) := by decide +kernel
theorem dX10_now_20 : decode cX10_now 20 = .ok (.getfield 123, 3) := by decide +kernel
theorem dX10_now_23 : decode cX10_now 23 = .ok (.ireturn, 1) := by decide +kernel
theorem dX10_now_24 : decode cX10_now 24 = .ok (.iload_n 1, 1) := by decide +kernel
theorem dX10_now_25 : decode cX10_now 25 = .ok (.iconst 4, 1) := by decide +kernel
theorem dX10_now_26 : decode cX10_now 26 = .ok (.if_icmp .ne 10, 3) := by decide +kernel
theorem dX10_now_29 : decode cX10_now 29 = .ok (.aload_n 0, 1) := by decide +kernel
theorem dX10_now_30 : decode cX10_now 30 = .ok (.getfield 126, 3) := by decide +kernel
theorem dX10_now_33 : decode cX10_now 33 = .ok (.goto 18, 3) := by decide +kernel
theorem dX10_now_36 : decode cX10_now 36 = .ok (.aload_n 0, 1) := by decide +kernel
theorem dX10_now_37 : decode cX10_now 37 = .ok (.getfield 29, 3) := by decide +kernel
theorem dX10_now_40 : decode cX10_now 40 = .ok (.iload_n 1, 1) := by decide +kernel
theorem dX10_now_41 : decode cX10_now 41 = .ok (.aload_n 0, 1) := by decide +kernel
theorem dX10_now_42 : decode cX10_now 42 = .ok (.getfield 19, 3) := by decide +kernel
theorem dX10_now_45 : decode cX10_now 45 = .ok (.getfield 129, 3) := by decide +kernel
theorem dX10_now_48 : decode cX10_now 48 = .ok (.invokevirtual 132, 3) := by decide +kernel
theorem dX10_now_51 : decode cX10_now 51 = .ok (.ireturn, 1) := by decide +kernel
theorem dX10_gives_0 : decode cX10_gives 0 = .ok (.aload_n 0, 1) := by decide +kernel
theorem dX10_gives_1 : decode cX10_gives 1 = .ok (.iload_n 1, 1) := by decide +kernel
theorem dX10_gives_2 : decode cX10_gives 2 = .ok (.invokevirtual 102, 3) := by decide +kernel
theorem dX10_gives_5 : decode cX10_gives 5 = .ok (.ifCond .eq 12, 3) := by decide +kernel
theorem dX10_gives_8 : decode cX10_gives 8 = .ok (.iload_n 2, 1) := by decide +kernel
theorem dX10_gives_9 : decode cX10_gives 9 = .ok (.ifCond .lt 8, 3) := by decide +kernel
theorem dX10_gives_12 : decode cX10_gives 12 = .ok (.iload_n 2, 1) := by decide +kernel
theorem dX10_gives_13 : decode cX10_gives 13 = .ok (.iconst 2, 1) := by decide +kernel
theorem dX10_gives_14 : decode cX10_gives 14 = .ok (.if_icmp .le 5, 3) := by decide +kernel
theorem dX10_gives_17 : decode cX10_gives 17 = .ok (.iconst (-1), 1) := by decide +kernel
theorem dX10_gives_18 : decode cX10_gives 18 = .ok (.ireturn, 1) := by decide +kernel
theorem dX10_gives_19 : decode cX10_gives 19 = .ok (.aload_n 0, 1) := by decide +kernel
theorem dX10_gives_20 : decode cX10_gives 20 = .ok (.getfield 29, 3) := by decide +kernel
theorem dX10_gives_23 : decode cX10_gives 23 = .ok (.iload_n 1, 1) := by decide +kernel
theorem dX10_gives_24 : decode cX10_gives 24 = .ok (.invokevirtual 105, 3) := by decide +kernel
theorem dX10_gives_27 : decode cX10_gives 27 = .ok (.istore_n 3, 1) := by decide +kernel
theorem dX10_gives_28 : decode cX10_gives 28 = .ok (.aload_n 0, 1) := by decide +kernel
theorem dX10_gives_29 : decode cX10_gives 29 = .ok (.getfield 29, 3) := by decide +kernel
theorem dX10_gives_32 : decode cX10_gives 32 = .ok (.iload_n 1, 1) := by decide +kernel
theorem dX10_gives_33 : decode cX10_gives 33 = .ok (.iload_n 2, 1) := by decide +kernel
theorem dX10_gives_34 : decode cX10_gives 34 = .ok (.invokevirtual 135, 3) := by decide +kernel
theorem dX10_gives_37 : decode cX10_gives 37 = .ok (.aload_n 0, 1) := by decide +kernel
theorem dX10_gives_38 : decode cX10_gives 38 = .ok (.iconst 3, 1) := by decide +kernel
theorem dX10_gives_39 : decode cX10_gives 39 = .ok (.iload_n 1, 1) := by decide +kernel
theorem dX10_gives_40 : decode cX10_gives 40 = .ok (.imul, 1) := by decide +kernel
theorem dX10_gives_41 : decode cX10_gives 41 = .ok (.iload_n 3, 1) := by decide +kernel
theorem dX10_gives_42 : decode cX10_gives 42 = .ok (.iadd, 1) := by decide +kernel
theorem dX10_gives_43 : decode cX10_gives 43 = .ok (.invokevirtual 139, 3) := by decide +kernel
theorem dX10_gives_46 : decode cX10_gives 46 = .ok (.iload_n 3, 1) := by decide +kernel
theorem dX10_gives_47 : decode cX10_gives 47 = .ok (.ireturn, 1) := by decide +kernel
theorem dX10_steps_0 : decode cX10_steps 0 = .ok (.iload_n 1, 1) := by decide +kernel
theorem dX10_steps_1 : decode cX10_steps 1 = .ok (.invokestatic 113, 3) := by decide +kernel
theorem dX10_steps_4 : decode cX10_steps 4 = .ok (.ifCond .ne 5, 3) := by decide +kernel
theorem dX10_steps_7 : decode cX10_steps 7 = .ok (.iconst (-1), 1) := by decide +kernel
theorem dX10_steps_8 : decode cX10_steps 8 = .ok (.ireturn, 1) := by decide +kernel
theorem dX10_steps_9 : decode cX10_steps 9 = .ok (.aload_n 0, 1) := by decide +kernel
theorem dX10_steps_10 : decode cX10_steps 10 = .ok (.getfield 29, 3) := by decide +kernel
theorem dX10_steps_13 : decode cX10_steps 13 = .ok (.iload_n 1, 1) := by decide +kernel
theorem dX10_steps_14 : decode cX10_steps 14 = .ok (.invokevirtual 143, 3) := by decide +kernel
theorem dX10_steps_17 : decode cX10_steps 17 = .ok (.istore_n 2, 1) := by decide +kernel
theorem dX10_steps_18 : decode cX10_steps 18 = .ok (.aload_n 0, 1) := by decide +kernel
theorem dX10_steps_19 : decode cX10_steps 19 = .ok (.getfield 29, 3) := by decide +kernel
theorem dX10_steps_22 : decode cX10_steps 22 = .ok (.iload_n 1, 1) := by decide +kernel
theorem dX10_steps_23 : decode cX10_steps 23 = .ok (.invokevirtual 146, 3) := by decide +kernel
theorem dX10_steps_26 : decode cX10_steps 26 = .ok (.ifCond .ne 6, 3) := by decide +kernel
theorem dX10_steps_29 : decode cX10_steps 29 = .ok (.bipush (-3), 2) := by decide +kernel
theorem dX10_steps_31 : decode cX10_steps 31 = .ok (.ireturn, 1) := by decide +kernel
theorem dX10_steps_32 : decode cX10_steps 32 = .ok (.aload_n 0, 1) := by decide +kernel
theorem dX10_steps_33 : decode cX10_steps 33 = .ok (.iconst (-1), 1) := by decide +kernel
theorem dX10_steps_34 : decode cX10_steps 34 = .ok (.invokevirtual 139, 3) := by decide +kernel
theorem dX10_steps_37 : decode cX10_steps 37 = .ok (.aload_n 0, 1) := by decide +kernel
theorem dX10_steps_38 : decode cX10_steps 38 = .ok (.getfield 19, 3) := by decide +kernel
theorem dX10_steps_41 : decode cX10_steps 41 = .ok (.iload_n 2, 1) := by decide +kernel
theorem dX10_steps_42 : decode cX10_steps 42 = .ok (.iconst 1, 1) := by decide +kernel
theorem dX10_steps_43 : decode cX10_steps 43 = .ok (.iadd, 1) := by decide +kernel
theorem dX10_steps_44 : decode cX10_steps 44 = .ok (.aload_n 0, 1) := by decide +kernel
theorem dX10_steps_45 : decode cX10_steps 45 = .ok (.getfield 19, 3) := by decide +kernel
theorem dX10_steps_48 : decode cX10_steps 48 = .ok (.iload_n 2, 1) := by decide +kernel
theorem dX10_steps_49 : decode cX10_steps 49 = .ok (.invokevirtual 149, 3) := by decide +kernel
theorem dX10_steps_52 : decode cX10_steps 52 = .ok (.invokevirtual 152, 3) := by decide +kernel
theorem dX10_steps_55 : decode cX10_steps 55 = .ok (.ireturn, 1) := by decide +kernel
theorem dX10_undo_0 : decode cX10_undo 0 = .ok (.aload_n 0, 1) := by decide +kernel
theorem dX10_undo_1 : decode cX10_undo 1 = .ok (.getfield 126, 3) := by decide +kernel
theorem dX10_undo_4 : decode cX10_undo 4 = .ok (.ifCond .le 12, 3) := by decide +kernel
theorem dX10_undo_7 : decode cX10_undo 7 = .ok (.aload_n 0, 1) := by decide +kernel
theorem dX10_undo_8 : decode cX10_undo 8 = .ok (.getfield 126, 3) := by decide +kernel
theorem dX10_undo_11 : decode cX10_undo 11 = .ok (.bipush 10, 2) := by decide +kernel
theorem dX10_undo_13 : decode cX10_undo 13 = .ok (.if_icmp .le 6, 3) := by decide +kernel
theorem dX10_undo_16 : decode cX10_undo 16 = .ok (.bipush (-2), 2) := by decide +kernel
theorem dX10_undo_18 : decode cX10_undo 18 = .ok (.ireturn, 1) := by decide +kernel
theorem dX10_undo_19 : decode cX10_undo 19 = .ok (.aload_n 0, 1) := by decide +kernel
theorem dX10_undo_20 : decode cX10_undo 20 = .ok (.dup, 1) := by decide +kernel
theorem dX10_undo_21 : decode cX10_undo 21 = .ok (.getfield 126, 3) := by decide +kernel
theorem dX10_undo_24 : decode cX10_undo 24 = .ok (.iconst 1, 1) := by decide +kernel
theorem dX10_undo_25 : decode cX10_undo 25 = .ok (.isub, 1) := by decide +kernel
theorem dX10_undo_26 : decode cX10_undo 26 = .ok (.putfield 126, 3) := by decide +kernel
theorem dX10_undo_29 : decode cX10_undo 29 = .ok (.aload_n 0, 1) := by decide +kernel
theorem dX10_undo_30 : decode cX10_undo 30 = .ok (.getfield 52, 3) := by decide +kernel
theorem dX10_undo_33 : decode cX10_undo 33 = .ok (.aload_n 0, 1) := by decide +kernel
theorem dX10_undo_34 : decode cX10_undo 34 = .ok (.getfield 126, 3) := by decide +kernel
theorem dX10_undo_37 : decode cX10_undo 37 = .ok (.iaload, 1) := by decide +kernel
theorem dX10_undo_38 : decode cX10_undo 38 = .ok (.istore_n 1, 1) := by decide +kernel
theorem dX10_undo_39 : decode cX10_undo 39 = .ok (.iload_n 1, 1) := by decide +kernel
theorem dX10_undo_40 : decode cX10_undo 40 = .ok (.iconst (-1), 1) := by decide +kernel
theorem dX10_undo_41 : decode cX10_undo 41 = .ok (.if_icmp .ne 13, 3) := by decide +kernel
theorem dX10_undo_44 : decode cX10_undo 44 = .ok (.aload_n 0, 1) := by decide +kernel
theorem dX10_undo_45 : decode cX10_undo 45 = .ok (.getfield 29, 3) := by decide +kernel
theorem dX10_undo_48 : decode cX10_undo 48 = .ok (.invokevirtual 155, 3) := by decide +kernel
theorem dX10_undo_51 : decode cX10_undo 51 = .ok (.goto 16, 3) := by decide +kernel
theorem dX10_undo_54 : decode cX10_undo 54 = .ok (.aload_n 0, 1) := by decide +kernel
theorem dX10_undo_55 : decode cX10_undo 55 = .ok (.getfield 29, 3) := by decide +kernel
theorem dX10_undo_58 : decode cX10_undo 58 = .ok (.iload_n 1, 1) := by decide +kernel
theorem dX10_undo_59 : decode cX10_undo 59 = .ok (.iconst 3, 1) := by decide +kernel
theorem dX10_undo_60 : decode cX10_undo 60 = .ok (.idiv, 1) := by decide +kernel
theorem dX10_undo_61 : decode cX10_undo 61 = .ok (.iload_n 1, 1) := by decide +kernel
theorem dX10_undo_62 : decode cX10_undo 62 = .ok (.iconst 3, 1) := by decide +kernel
theorem dX10_undo_63 : decode cX10_undo 63 = .ok (.irem, 1) := by decide +kernel
theorem dX10_undo_64 : decode cX10_undo 64 = .ok (.invokevirtual 135, 3) := by decide +kernel
theorem dX10_undo_67 : decode cX10_undo 67 = .ok (.aload_n 0, 1) := by decide +kernel
theorem dX10_undo_68 : decode cX10_undo 68 = .ok (.getfield 126, 3) := by decide +kernel
theorem dX10_undo_71 : decode cX10_undo 71 = .ok (.ireturn, 1) := by decide +kernel
theorem dX10_envy_0 : decode cX10_envy 0 = .ok (.iload_n 1, 1) := by decide +kernel
theorem dX10_envy_1 : decode cX10_envy 1 = .ok (.invokestatic 113, 3) := by decide +kernel
theorem dX10_envy_4 : decode cX10_envy 4 = .ok (.ifCond .eq 11, 3) := by decide +kernel
theorem dX10_envy_7 : decode cX10_envy 7 = .ok (.aload_n 0, 1) := by decide +kernel
theorem dX10_envy_8 : decode cX10_envy 8 = .ok (.iload_n 1, 1) := by decide +kernel
theorem dX10_envy_9 : decode cX10_envy 9 = .ok (.invokevirtual 158, 3) := by decide +kernel
theorem dX10_envy_12 : decode cX10_envy 12 = .ok (.goto 4, 3) := by decide +kernel
theorem dX10_envy_15 : decode cX10_envy 15 = .ok (.iconst (-1), 1) := by decide +kernel
theorem dX10_envy_16 : decode cX10_envy 16 = .ok (.ireturn, 1) := by decide +kernel
theorem dX10_fair_0 : decode cX10_fair 0 = .ok (.iload_n 1, 1) := by decide +kernel
theorem dX10_fair_1 : decode cX10_fair 1 = .ok (.ifCond .lt 8, 3) := by decide +kernel
theorem dX10_fair_4 : decode cX10_fair 4 = .ok (.iload_n 1, 1) := by decide +kernel
theorem dX10_fair_5 : decode cX10_fair 5 = .ok (.iconst 3, 1) := by decide +kernel
theorem dX10_fair_6 : decode cX10_fair 6 = .ok (.if_icmp .le 5, 3) := by decide +kernel
theorem dX10_fair_9 : decode cX10_fair 9 = .ok (.iconst (-1), 1) := by decide +kernel
theorem dX10_fair_10 : decode cX10_fair 10 = .ok (.ireturn, 1) := by decide +kernel
theorem dX10_fair_11 : decode cX10_fair 11 = .ok (.iload_n 1, 1) := by decide +kernel
theorem dX10_fair_12 : decode cX10_fair 12 = .ok (.ifCond .ne 15, 3) := by decide +kernel
theorem dX10_fair_15 : decode cX10_fair 15 = .ok (.aload_n 0, 1) := by decide +kernel
theorem dX10_fair_16 : decode cX10_fair 16 = .ok (.getfield 42, 3) := by decide +kernel
theorem dX10_fair_19 : decode cX10_fair 19 = .ok (.aload_n 0, 1) := by decide +kernel
theorem dX10_fair_20 : decode cX10_fair 20 = .ok (.getfield 19, 3) := by decide +kernel
theorem dX10_fair_23 : decode cX10_fair 23 = .ok (.invokevirtual 161, 3) := by decide +kernel
theorem dX10_fair_26 : decode cX10_fair 26 = .ok (.ireturn, 1) := by decide +kernel
theorem dX10_fair_27 : decode cX10_fair 27 = .ok (.aload_n 0, 1) := by decide +kernel
theorem dX10_fair_28 : decode cX10_fair 28 = .ok (.getfield 42, 3) := by decide +kernel
theorem dX10_fair_31 : decode cX10_fair 31 = .ok (.aload_n 0, 1) := by decide +kernel
theorem dX10_fair_32 : decode cX10_fair 32 = .ok (.getfield 19, 3) := by decide +kernel
theorem dX10_fair_35 : decode cX10_fair 35 = .ok (.invokevirtual 164, 3) := by decide +kernel
theorem dX10_fair_38 : decode cX10_fair 38 = .ok (.istore_n 2, 1) := by decide +kernel
theorem dX10_fair_39 : decode cX10_fair 39 = .ok (.iload_n 2, 1) := by decide +kernel
theorem dX10_fair_40 : decode cX10_fair 40 = .ok (.bipush (-9), 2) := by decide +kernel
theorem dX10_fair_42 : decode cX10_fair 42 = .ok (.if_icmp .eq 8, 3) := by decide +kernel
theorem dX10_fair_45 : decode cX10_fair 45 = .ok (.iload_n 1, 1) := by decide +kernel
theorem dX10_fair_46 : decode cX10_fair 46 = .ok (.iconst 1, 1) := by decide +kernel
theorem dX10_fair_47 : decode cX10_fair 47 = .ok (.if_icmp .ne 5, 3) := by decide +kernel
theorem dX10_fair_50 : decode cX10_fair 50 = .ok (.iload_n 2, 1) := by decide +kernel
theorem dX10_fair_51 : decode cX10_fair 51 = .ok (.ireturn, 1) := by decide +kernel
theorem dX10_fair_52 : decode cX10_fair 52 = .ok (.aload_n 0, 1) := by decide +kernel
theorem dX10_fair_53 : decode cX10_fair 53 = .ok (.getfield 42, 3) := by decide +kernel
theorem dX10_fair_56 : decode cX10_fair 56 = .ok (.aload_n 0, 1) := by decide +kernel
theorem dX10_fair_57 : decode cX10_fair 57 = .ok (.getfield 19, 3) := by decide +kernel
theorem dX10_fair_60 : decode cX10_fair 60 = .ok (.iload_n 2, 1) := by decide +kernel
theorem dX10_fair_61 : decode cX10_fair 61 = .ok (.invokevirtual 167, 3) := by decide +kernel
theorem dX10_fair_64 : decode cX10_fair 64 = .ok (.istore_n 3, 1) := by decide +kernel
theorem dX10_fair_65 : decode cX10_fair 65 = .ok (.iload_n 1, 1) := by decide +kernel
theorem dX10_fair_66 : decode cX10_fair 66 = .ok (.iconst 2, 1) := by decide +kernel
theorem dX10_fair_67 : decode cX10_fair 67 = .ok (.if_icmp .ne 7, 3) := by decide +kernel
theorem dX10_fair_70 : decode cX10_fair 70 = .ok (.iload_n 3, 1) := by decide +kernel
theorem dX10_fair_71 : decode cX10_fair 71 = .ok (.goto 16, 3) := by decide +kernel
theorem dX10_fair_74 : decode cX10_fair 74 = .ok (.aload_n 0, 1) := by decide +kernel
theorem dX10_fair_75 : decode cX10_fair 75 = .ok (.getfield 42, 3) := by decide +kernel
theorem dX10_fair_78 : decode cX10_fair 78 = .ok (.aload_n 0, 1) := by decide +kernel
theorem dX10_fair_79 : decode cX10_fair 79 = .ok (.getfield 19, 3) := by decide +kernel
theorem dX10_fair_82 : decode cX10_fair 82 = .ok (.invokevirtual 171, 3) := by decide +kernel
theorem dX10_fair_85 : decode cX10_fair 85 = .ok (.iload_n 3, 1) := by decide +kernel
theorem dX10_fair_86 : decode cX10_fair 86 = .ok (.isub, 1) := by decide +kernel
theorem dX10_fair_87 : decode cX10_fair 87 = .ok (.ireturn, 1) := by decide +kernel
theorem dX10_cut_0 : decode cX10_cut 0 = .ok (.iload_n 1, 1) := by decide +kernel
theorem dX10_cut_1 : decode cX10_cut 1 = .ok (.invokestatic 113, 3) := by decide +kernel
theorem dX10_cut_4 : decode cX10_cut 4 = .ok (.ifCond .eq 12, 3) := by decide +kernel
theorem dX10_cut_7 : decode cX10_cut 7 = .ok (.iload_n 2, 1) := by decide +kernel
theorem dX10_cut_8 : decode cX10_cut 8 = .ok (.ifCond .lt 8, 3) := by decide +kernel
theorem dX10_cut_11 : decode cX10_cut 11 = .ok (.iload_n 2, 1) := by decide +kernel
theorem dX10_cut_12 : decode cX10_cut 12 = .ok (.iconst 1, 1) := by decide +kernel
theorem dX10_cut_13 : decode cX10_cut 13 = .ok (.if_icmp .le 5, 3) := by decide +kernel
theorem dX10_cut_16 : decode cX10_cut 16 = .ok (.iconst (-1), 1) := by decide +kernel
theorem dX10_cut_17 : decode cX10_cut 17 = .ok (.ireturn, 1) := by decide +kernel
theorem dX10_cut_18 : decode cX10_cut 18 = .ok (.aload_n 0, 1) := by decide +kernel
theorem dX10_cut_19 : decode cX10_cut 19 = .ok (.getfield 42, 3) := by decide +kernel
theorem dX10_cut_22 : decode cX10_cut 22 = .ok (.aload_n 0, 1) := by decide +kernel
theorem dX10_cut_23 : decode cX10_cut 23 = .ok (.getfield 19, 3) := by decide +kernel
theorem dX10_cut_26 : decode cX10_cut 26 = .ok (.iload_n 1, 1) := by decide +kernel
theorem dX10_cut_27 : decode cX10_cut 27 = .ok (.invokevirtual 174, 3) := by decide +kernel
theorem dX10_cut_30 : decode cX10_cut 30 = .ok (.istore_n 3, 1) := by decide +kernel
theorem dX10_cut_31 : decode cX10_cut 31 = .ok (.iload_n 2, 1) := by decide +kernel
theorem dX10_cut_32 : decode cX10_cut 32 = .ok (.iconst 1, 1) := by decide +kernel
theorem dX10_cut_33 : decode cX10_cut 33 = .ok (.if_icmp .ne 7, 3) := by decide +kernel
theorem dX10_cut_36 : decode cX10_cut 36 = .ok (.iload_n 3, 1) := by decide +kernel
theorem dX10_cut_37 : decode cX10_cut 37 = .ok (.goto 16, 3) := by decide +kernel
theorem dX10_cut_40 : decode cX10_cut 40 = .ok (.aload_n 0, 1) := by decide +kernel
theorem dX10_cut_41 : decode cX10_cut 41 = .ok (.getfield 42, 3) := by decide +kernel
theorem dX10_cut_44 : decode cX10_cut 44 = .ok (.aload_n 0, 1) := by decide +kernel
theorem dX10_cut_45 : decode cX10_cut 45 = .ok (.getfield 19, 3) := by decide +kernel
theorem dX10_cut_48 : decode cX10_cut 48 = .ok (.iload_n 1, 1) := by decide +kernel
theorem dX10_cut_49 : decode cX10_cut 49 = .ok (.iload_n 3, 1) := by decide +kernel
theorem dX10_cut_50 : decode cX10_cut 50 = .ok (.invokevirtual 177, 3) := by decide +kernel
theorem dX10_cut_53 : decode cX10_cut 53 = .ok (.ireturn, 1) := by decide +kernel
theorem dX10_byTurns_0 : decode cX10_byTurns 0 = .ok (.iload_n 1, 1) := by decide +kernel
theorem dX10_byTurns_1 : decode cX10_byTurns 1 = .ok (.invokestatic 113, 3) := by decide +kernel
theorem dX10_byTurns_4 : decode cX10_byTurns 4 = .ok (.ifCond .eq 12, 3) := by decide +kernel
theorem dX10_byTurns_7 : decode cX10_byTurns 7 = .ok (.iload_n 2, 1) := by decide +kernel
theorem dX10_byTurns_8 : decode cX10_byTurns 8 = .ok (.ifCond .lt 8, 3) := by decide +kernel
theorem dX10_byTurns_11 : decode cX10_byTurns 11 = .ok (.iload_n 2, 1) := by decide +kernel
theorem dX10_byTurns_12 : decode cX10_byTurns 12 = .ok (.iconst 2, 1) := by decide +kernel
theorem dX10_byTurns_13 : decode cX10_byTurns 13 = .ok (.if_icmp .le 5, 3) := by decide +kernel
theorem dX10_byTurns_16 : decode cX10_byTurns 16 = .ok (.iconst (-1), 1) := by decide +kernel
theorem dX10_byTurns_17 : decode cX10_byTurns 17 = .ok (.ireturn, 1) := by decide +kernel
theorem dX10_byTurns_18 : decode cX10_byTurns 18 = .ok (.aload_n 0, 1) := by decide +kernel
theorem dX10_byTurns_19 : decode cX10_byTurns 19 = .ok (.getfield 29, 3) := by decide +kernel
theorem dX10_byTurns_22 : decode cX10_byTurns 22 = .ok (.iconst 2, 1) := by decide +kernel
theorem dX10_byTurns_23 : decode cX10_byTurns 23 = .ok (.aload_n 0, 1) := by decide +kernel
theorem dX10_byTurns_24 : decode cX10_byTurns 24 = .ok (.getfield 19, 3) := by decide +kernel
theorem dX10_byTurns_27 : decode cX10_byTurns 27 = .ok (.getfield 129, 3) := by decide +kernel
theorem dX10_byTurns_30 : decode cX10_byTurns 30 = .ok (.invokevirtual 132, 3) := by decide +kernel
theorem dX10_byTurns_33 : decode cX10_byTurns 33 = .ok (.istore_n 3, 1) := by decide +kernel
theorem dX10_byTurns_34 : decode cX10_byTurns 34 = .ok (.aload_n 0, 1) := by decide +kernel
theorem dX10_byTurns_35 : decode cX10_byTurns 35 = .ok (.getfield 42, 3) := by decide +kernel
theorem dX10_byTurns_38 : decode cX10_byTurns 38 = .ok (.aload_n 0, 1) := by decide +kernel
theorem dX10_byTurns_39 : decode cX10_byTurns 39 = .ok (.getfield 19, 3) := by decide +kernel
theorem dX10_byTurns_42 : decode cX10_byTurns 42 = .ok (.aload_n 0, 1) := by decide +kernel
theorem dX10_byTurns_43 : decode cX10_byTurns 43 = .ok (.getfield 29, 3) := by decide +kernel
theorem dX10_byTurns_46 : decode cX10_byTurns 46 = .ok (.iconst 1, 1) := by decide +kernel
theorem dX10_byTurns_47 : decode cX10_byTurns 47 = .ok (.aload_n 0, 1) := by decide +kernel
theorem dX10_byTurns_48 : decode cX10_byTurns 48 = .ok (.getfield 19, 3) := by decide +kernel
theorem dX10_byTurns_51 : decode cX10_byTurns 51 = .ok (.getfield 129, 3) := by decide +kernel
theorem dX10_byTurns_54 : decode cX10_byTurns 54 = .ok (.invokevirtual 132, 3) := by decide +kernel
theorem dX10_byTurns_57 : decode cX10_byTurns 57 = .ok (.iload_n 3, 1) := by decide +kernel
theorem dX10_byTurns_58 : decode cX10_byTurns 58 = .ok (.iload_n 1, 1) := by decide +kernel
theorem dX10_byTurns_59 : decode cX10_byTurns 59 = .ok (.iconst 0, 1) := by decide +kernel
theorem dX10_byTurns_60 : decode cX10_byTurns 60 = .ok (.invokevirtual 181, 3) := by decide +kernel
theorem dX10_byTurns_63 : decode cX10_byTurns 63 = .ok (.istore 4, 2) := by decide +kernel
theorem dX10_byTurns_65 : decode cX10_byTurns 65 = .ok (.iload_n 2, 1) := by decide +kernel
theorem dX10_byTurns_66 : decode cX10_byTurns 66 = .ok (.iconst 2, 1) := by decide +kernel
theorem dX10_byTurns_67 : decode cX10_byTurns 67 = .ok (.if_icmp .ne 23, 3) := by decide +kernel
theorem dX10_byTurns_70 : decode cX10_byTurns 70 = .ok (.iload 4, 2) := by decide +kernel
theorem dX10_byTurns_72 : decode cX10_byTurns 72 = .ok (.bipush 64, 2) := by decide +kernel
theorem dX10_byTurns_74 : decode cX10_byTurns 74 = .ok (.if_icmp .ge 8, 3) := by decide +kernel
theorem dX10_byTurns_77 : decode cX10_byTurns 77 = .ok (.bipush (-9), 2) := by decide +kernel
theorem dX10_byTurns_79 : decode cX10_byTurns 79 = .ok (.goto 10, 3) := by decide +kernel
theorem dX10_byTurns_82 : decode cX10_byTurns 82 = .ok (.iload 4, 2) := by decide +kernel
theorem dX10_byTurns_84 : decode cX10_byTurns 84 = .ok (.bipush 64, 2) := by decide +kernel
theorem dX10_byTurns_86 : decode cX10_byTurns 86 = .ok (.idiv, 1) := by decide +kernel
theorem dX10_byTurns_87 : decode cX10_byTurns 87 = .ok (.iconst 1, 1) := by decide +kernel
theorem dX10_byTurns_88 : decode cX10_byTurns 88 = .ok (.isub, 1) := by decide +kernel
theorem dX10_byTurns_89 : decode cX10_byTurns 89 = .ok (.ireturn, 1) := by decide +kernel
theorem dX10_byTurns_90 : decode cX10_byTurns 90 = .ok (.aload_n 0, 1) := by decide +kernel
theorem dX10_byTurns_91 : decode cX10_byTurns 91 = .ok (.getfield 19, 3) := by decide +kernel
theorem dX10_byTurns_94 : decode cX10_byTurns 94 = .ok (.iload_n 2, 1) := by decide +kernel
theorem dX10_byTurns_95 : decode cX10_byTurns 95 = .ok (.aload_n 0, 1) := by decide +kernel
theorem dX10_byTurns_96 : decode cX10_byTurns 96 = .ok (.getfield 19, 3) := by decide +kernel
theorem dX10_byTurns_99 : decode cX10_byTurns 99 = .ok (.iload_n 2, 1) := by decide +kernel
theorem dX10_byTurns_100 : decode cX10_byTurns 100 = .ok (.iload 4, 2) := by decide +kernel
theorem dX10_byTurns_102 : decode cX10_byTurns 102 = .ok (.bipush 64, 2) := by decide +kernel
theorem dX10_byTurns_104 : decode cX10_byTurns 104 = .ok (.irem, 1) := by decide +kernel
theorem dX10_byTurns_105 : decode cX10_byTurns 105 = .ok (.invokevirtual 185, 3) := by decide +kernel
theorem dX10_byTurns_108 : decode cX10_byTurns 108 = .ok (.invokevirtual 120, 3) := by decide +kernel
theorem dX10_byTurns_111 : decode cX10_byTurns 111 = .ok (.ireturn, 1) := by decide +kernel
theorem dX10_lies_0 : decode cX10_lies 0 = .ok (.iload_n 1, 1) := by decide +kernel
theorem dX10_lies_1 : decode cX10_lies 1 = .ok (.invokestatic 113, 3) := by decide +kernel
theorem dX10_lies_4 : decode cX10_lies 4 = .ok (.ifCond .eq 12, 3) := by decide +kernel
theorem dX10_lies_7 : decode cX10_lies 7 = .ok (.iload_n 2, 1) := by decide +kernel
theorem dX10_lies_8 : decode cX10_lies 8 = .ok (.ifCond .lt 8, 3) := by decide +kernel
theorem dX10_lies_11 : decode cX10_lies 11 = .ok (.iload_n 2, 1) := by decide +kernel
theorem dX10_lies_12 : decode cX10_lies 12 = .ok (.iconst 1, 1) := by decide +kernel
theorem dX10_lies_13 : decode cX10_lies 13 = .ok (.if_icmp .le 5, 3) := by decide +kernel
theorem dX10_lies_16 : decode cX10_lies 16 = .ok (.iconst (-1), 1) := by decide +kernel
theorem dX10_lies_17 : decode cX10_lies 17 = .ok (.ireturn, 1) := by decide +kernel
theorem dX10_lies_18 : decode cX10_lies 18 = .ok (.aload_n 0, 1) := by decide +kernel
theorem dX10_lies_19 : decode cX10_lies 19 = .ok (.getfield 42, 3) := by decide +kernel
theorem dX10_lies_22 : decode cX10_lies 22 = .ok (.aload_n 0, 1) := by decide +kernel
theorem dX10_lies_23 : decode cX10_lies 23 = .ok (.getfield 19, 3) := by decide +kernel
theorem dX10_lies_26 : decode cX10_lies 26 = .ok (.iload_n 1, 1) := by decide +kernel
theorem dX10_lies_27 : decode cX10_lies 27 = .ok (.invokevirtual 188, 3) := by decide +kernel
theorem dX10_lies_30 : decode cX10_lies 30 = .ok (.iload_n 2, 1) := by decide +kernel
theorem dX10_lies_31 : decode cX10_lies 31 = .ok (.ifCond .ne 13, 3) := by decide +kernel
theorem dX10_lies_34 : decode cX10_lies 34 = .ok (.aload_n 0, 1) := by decide +kernel
theorem dX10_lies_35 : decode cX10_lies 35 = .ok (.getfield 42, 3) := by decide +kernel
theorem dX10_lies_38 : decode cX10_lies 38 = .ok (.getfield 192, 3) := by decide +kernel
theorem dX10_lies_41 : decode cX10_lies 41 = .ok (.goto 10, 3) := by decide +kernel
theorem dX10_lies_44 : decode cX10_lies 44 = .ok (.aload_n 0, 1) := by decide +kernel
theorem dX10_lies_45 : decode cX10_lies 45 = .ok (.getfield 42, 3) := by decide +kernel
theorem dX10_lies_48 : decode cX10_lies 48 = .ok (.getfield 195, 3) := by decide +kernel
theorem dX10_lies_51 : decode cX10_lies 51 = .ok (.ireturn, 1) := by decide +kernel
theorem dX10_sell_0 : decode cX10_sell 0 = .ok (.iload_n 1, 1) := by decide +kernel
theorem dX10_sell_1 : decode cX10_sell 1 = .ok (.ifCond .lt 9, 3) := by decide +kernel
theorem dX10_sell_4 : decode cX10_sell 4 = .ok (.iload_n 1, 1) := by decide +kernel
theorem dX10_sell_5 : decode cX10_sell 5 = .ok (.bipush 9, 2) := by decide +kernel
theorem dX10_sell_7 : decode cX10_sell 7 = .ok (.if_icmp .le 7, 3) := by decide +kernel
theorem dX10_sell_10 : decode cX10_sell 10 = .ok (.iconst (-1), 1) := by decide +kernel
theorem dX10_sell_11 : decode cX10_sell 11 = .ok (.goto 15, 3) := by decide +kernel
theorem dX10_sell_14 : decode cX10_sell 14 = .ok (.aload_n 0, 1) := by decide +kernel
theorem dX10_sell_15 : decode cX10_sell 15 = .ok (.getfield 42, 3) := by decide +kernel
theorem dX10_sell_18 : decode cX10_sell 18 = .ok (.aload_n 0, 1) := by decide +kernel
theorem dX10_sell_19 : decode cX10_sell 19 = .ok (.getfield 19, 3) := by decide +kernel
theorem dX10_sell_22 : decode cX10_sell 22 = .ok (.iload_n 1, 1) := by decide +kernel
theorem dX10_sell_23 : decode cX10_sell 23 = .ok (.invokevirtual 198, 3) := by decide +kernel
theorem dX10_sell_26 : decode cX10_sell 26 = .ok (.ireturn, 1) := by decide +kernel
theorem dX10_adds_0 : decode cX10_adds 0 = .ok (.iload_n 1, 1) := by decide +kernel
theorem dX10_adds_1 : decode cX10_adds 1 = .ok (.invokestatic 113, 3) := by decide +kernel
theorem dX10_adds_4 : decode cX10_adds 4 = .ok (.ifCond .ne 5, 3) := by decide +kernel
theorem dX10_adds_7 : decode cX10_adds 7 = .ok (.iconst (-1), 1) := by decide +kernel
theorem dX10_adds_8 : decode cX10_adds 8 = .ok (.ireturn, 1) := by decide +kernel
theorem dX10_adds_9 : decode cX10_adds 9 = .ok (.aload_n 0, 1) := by decide +kernel
theorem dX10_adds_10 : decode cX10_adds 10 = .ok (.getfield 19, 3) := by decide +kernel
theorem dX10_adds_13 : decode cX10_adds 13 = .ok (.iload_n 1, 1) := by decide +kernel
theorem dX10_adds_14 : decode cX10_adds 14 = .ok (.aload_n 0, 1) := by decide +kernel
theorem dX10_adds_15 : decode cX10_adds 15 = .ok (.getfield 19, 3) := by decide +kernel
theorem dX10_adds_18 : decode cX10_adds 18 = .ok (.invokevirtual 116, 3) := by decide +kernel
theorem dX10_adds_21 : decode cX10_adds 21 = .ok (.invokevirtual 120, 3) := by decide +kernel
theorem dX10_adds_24 : decode cX10_adds 24 = .ok (.aload_n 0, 1) := by decide +kernel
theorem dX10_adds_25 : decode cX10_adds 25 = .ok (.getfield 19, 3) := by decide +kernel
theorem dX10_adds_28 : decode cX10_adds 28 = .ok (.iload_n 1, 1) := by decide +kernel
theorem dX10_adds_29 : decode cX10_adds 29 = .ok (.aload_n 0, 1) := by decide +kernel
theorem dX10_adds_30 : decode cX10_adds 30 = .ok (.getfield 19, 3) := by decide +kernel
theorem dX10_adds_33 : decode cX10_adds 33 = .ok (.invokevirtual 116, 3) := by decide +kernel
theorem dX10_adds_36 : decode cX10_adds 36 = .ok (.invokevirtual 201, 3) := by decide +kernel
theorem dX10_adds_39 : decode cX10_adds 39 = .ok (.if_icmp .gt 7, 3) := by decide +kernel
theorem dX10_adds_42 : decode cX10_adds 42 = .ok (.iconst 1, 1) := by decide +kernel
theorem dX10_adds_43 : decode cX10_adds 43 = .ok (.goto 4, 3) := by decide +kernel
theorem dX10_adds_46 : decode cX10_adds 46 = .ok (.iconst 0, 1) := by decide +kernel
theorem dX10_adds_47 : decode cX10_adds 47 = .ok (.ireturn, 1) := by decide +kernel
theorem dX10_odds_0 : decode cX10_odds 0 = .ok (.iload_n 1, 1) := by decide +kernel
theorem dX10_odds_1 : decode cX10_odds 1 = .ok (.ifCond .lt 18, 3) := by decide +kernel
theorem dX10_odds_4 : decode cX10_odds 4 = .ok (.iload_n 1, 1) := by decide +kernel
theorem dX10_odds_5 : decode cX10_odds 5 = .ok (.bipush 10, 2) := by decide +kernel
theorem dX10_odds_7 : decode cX10_odds 7 = .ok (.if_icmp .gt 12, 3) := by decide +kernel
theorem dX10_odds_10 : decode cX10_odds 10 = .ok (.iload_n 2, 1) := by decide +kernel
theorem dX10_odds_11 : decode cX10_odds 11 = .ok (.ifCond .lt 8, 3) := by decide +kernel
theorem dX10_odds_14 : decode cX10_odds 14 = .ok (.iload_n 2, 1) := by decide +kernel
theorem dX10_odds_15 : decode cX10_odds 15 = .ok (.iconst 1, 1) := by decide +kernel
theorem dX10_odds_16 : decode cX10_odds 16 = .ok (.if_icmp .le 5, 3) := by decide +kernel
theorem dX10_odds_19 : decode cX10_odds 19 = .ok (.iconst (-1), 1) := by decide +kernel
theorem dX10_odds_20 : decode cX10_odds 20 = .ok (.ireturn, 1) := by decide +kernel
theorem dX10_odds_21 : decode cX10_odds 21 = .ok (.aload_n 0, 1) := by decide +kernel
theorem dX10_odds_22 : decode cX10_odds 22 = .ok (.getfield 42, 3) := by decide +kernel
theorem dX10_odds_25 : decode cX10_odds 25 = .ok (.aload_n 0, 1) := by decide +kernel
theorem dX10_odds_26 : decode cX10_odds 26 = .ok (.getfield 19, 3) := by decide +kernel
theorem dX10_odds_29 : decode cX10_odds 29 = .ok (.iload_n 1, 1) := by decide +kernel
theorem dX10_odds_30 : decode cX10_odds 30 = .ok (.invokevirtual 204, 3) := by decide +kernel
theorem dX10_odds_33 : decode cX10_odds 33 = .ok (.istore_n 3, 1) := by decide +kernel
theorem dX10_odds_34 : decode cX10_odds 34 = .ok (.bipush 10, 2) := by decide +kernel
theorem dX10_odds_36 : decode cX10_odds 36 = .ok (.aload_n 0, 1) := by decide +kernel
theorem dX10_odds_37 : decode cX10_odds 37 = .ok (.getfield 19, 3) := by decide +kernel
theorem dX10_odds_40 : decode cX10_odds 40 = .ok (.getfield 129, 3) := by decide +kernel
theorem dX10_odds_43 : decode cX10_odds 43 = .ok (.invokestatic 207, 3) := by decide +kernel
theorem dX10_odds_46 : decode cX10_odds 46 = .ok (.istore 4, 2) := by decide +kernel
theorem dX10_odds_48 : decode cX10_odds 48 = .ok (.iload_n 3, 1) := by decide +kernel
theorem dX10_odds_49 : decode cX10_odds 49 = .ok (.iload 4, 2) := by decide +kernel
theorem dX10_odds_51 : decode cX10_odds 51 = .ok (.invokestatic 210, 3) := by decide +kernel
theorem dX10_odds_54 : decode cX10_odds 54 = .ok (.istore 5, 2) := by decide +kernel
theorem dX10_odds_56 : decode cX10_odds 56 = .ok (.iload 5, 2) := by decide +kernel
theorem dX10_odds_58 : decode cX10_odds 58 = .ok (.iconst 1, 1) := by decide +kernel
theorem dX10_odds_59 : decode cX10_odds 59 = .ok (.if_icmp .ge 6, 3) := by decide +kernel
theorem dX10_odds_62 : decode cX10_odds 62 = .ok (.iconst 1, 1) := by decide +kernel
theorem dX10_odds_63 : decode cX10_odds 63 = .ok (.istore 5, 2) := by decide +kernel
theorem dX10_odds_65 : decode cX10_odds 65 = .ok (.iload_n 2, 1) := by decide +kernel
theorem dX10_odds_66 : decode cX10_odds 66 = .ok (.ifCond .ne 7, 3) := by decide +kernel
theorem dX10_odds_69 : decode cX10_odds 69 = .ok (.iload_n 3, 1) := by decide +kernel
theorem dX10_odds_70 : decode cX10_odds 70 = .ok (.goto 5, 3) := by decide +kernel
theorem dX10_odds_73 : decode cX10_odds 73 = .ok (.iload 4, 2) := by decide +kernel
theorem dX10_odds_75 : decode cX10_odds 75 = .ok (.iload 5, 2) := by decide +kernel
theorem dX10_odds_77 : decode cX10_odds 77 = .ok (.idiv, 1) := by decide +kernel
theorem dX10_odds_78 : decode cX10_odds 78 = .ok (.ireturn, 1) := by decide +kernel
theorem dX10_foot_0 : decode cX10_foot 0 = .ok (.iload_n 1, 1) := by decide +kernel
theorem dX10_foot_1 : decode cX10_foot 1 = .ok (.ifCond .lt 14, 3) := by decide +kernel
theorem dX10_foot_4 : decode cX10_foot 4 = .ok (.iload_n 1, 1) := by decide +kernel
theorem dX10_foot_5 : decode cX10_foot 5 = .ok (.aload_n 0, 1) := by decide +kernel
theorem dX10_foot_6 : decode cX10_foot 6 = .ok (.getfield 29, 3) := by decide +kernel
theorem dX10_foot_9 : decode cX10_foot 9 = .ok (.getfield 123, 3) := by decide +kernel
theorem dX10_foot_12 : decode cX10_foot 12 = .ok (.if_icmp .lt 7, 3) := by decide +kernel
theorem dX10_foot_15 : decode cX10_foot 15 = .ok (.iconst (-1), 1) := by decide +kernel
theorem dX10_foot_16 : decode cX10_foot 16 = .ok (.goto 11, 3) := by decide +kernel
theorem dX10_foot_19 : decode cX10_foot 19 = .ok (.aload_n 0, 1) := by decide +kernel
theorem dX10_foot_20 : decode cX10_foot 20 = .ok (.getfield 29, 3) := by decide +kernel
theorem dX10_foot_23 : decode cX10_foot 23 = .ok (.iload_n 1, 1) := by decide +kernel
theorem dX10_foot_24 : decode cX10_foot 24 = .ok (.invokevirtual 213, 3) := by decide +kernel
theorem dX10_foot_27 : decode cX10_foot 27 = .ok (.ireturn, 1) := by decide +kernel
theorem dX10_worn_0 : decode cX10_worn 0 = .ok (.iload_n 1, 1) := by decide +kernel
theorem dX10_worn_1 : decode cX10_worn 1 = .ok (.invokestatic 113, 3) := by decide +kernel
theorem dX10_worn_4 : decode cX10_worn 4 = .ok (.ifCond .eq 11, 3) := by decide +kernel
theorem dX10_worn_7 : decode cX10_worn 7 = .ok (.aload_n 0, 1) := by decide +kernel
theorem dX10_worn_8 : decode cX10_worn 8 = .ok (.iload_n 2, 1) := by decide +kernel
theorem dX10_worn_9 : decode cX10_worn 9 = .ok (.invokevirtual 216, 3) := by decide +kernel
theorem dX10_worn_12 : decode cX10_worn 12 = .ok (.ifCond .ne 5, 3) := by decide +kernel
theorem dX10_worn_15 : decode cX10_worn 15 = .ok (.iconst (-1), 1) := by decide +kernel
theorem dX10_worn_16 : decode cX10_worn 16 = .ok (.ireturn, 1) := by decide +kernel
theorem dX10_worn_17 : decode cX10_worn 17 = .ok (.aload_n 0, 1) := by decide +kernel
theorem dX10_worn_18 : decode cX10_worn 18 = .ok (.getfield 19, 3) := by decide +kernel
theorem dX10_worn_21 : decode cX10_worn 21 = .ok (.aload_n 0, 1) := by decide +kernel
theorem dX10_worn_22 : decode cX10_worn 22 = .ok (.getfield 29, 3) := by decide +kernel
theorem dX10_worn_25 : decode cX10_worn 25 = .ok (.iload_n 1, 1) := by decide +kernel
theorem dX10_worn_26 : decode cX10_worn 26 = .ok (.invokevirtual 143, 3) := by decide +kernel
theorem dX10_worn_29 : decode cX10_worn 29 = .ok (.iload_n 2, 1) := by decide +kernel
theorem dX10_worn_30 : decode cX10_worn 30 = .ok (.invokevirtual 152, 3) := by decide +kernel
theorem dX10_worn_33 : decode cX10_worn 33 = .ok (.ireturn, 1) := by decide +kernel
theorem dX10_judge_0 : decode cX10_judge 0 = .ok (.iload_n 1, 1) := by decide +kernel
theorem dX10_judge_1 : decode cX10_judge 1 = .ok (.ifCond .lt 8, 3) := by decide +kernel
theorem dX10_judge_4 : decode cX10_judge 4 = .ok (.iload_n 1, 1) := by decide +kernel
theorem dX10_judge_5 : decode cX10_judge 5 = .ok (.iconst 2, 1) := by decide +kernel
theorem dX10_judge_6 : decode cX10_judge 6 = .ok (.if_icmp .le 5, 3) := by decide +kernel
theorem dX10_judge_9 : decode cX10_judge 9 = .ok (.iconst (-1), 1) := by decide +kernel
theorem dX10_judge_10 : decode cX10_judge 10 = .ok (.ireturn, 1) := by decide +kernel
theorem dX10_judge_11 : decode cX10_judge 11 = .ok (.iload_n 1, 1) := by decide +kernel
theorem dX10_judge_12 : decode cX10_judge 12 = .ok (.ifCond .ne 20, 3) := by decide +kernel
theorem dX10_judge_15 : decode cX10_judge 15 = .ok (.aload_n 0, 1) := by decide +kernel
theorem dX10_judge_16 : decode cX10_judge 16 = .ok (.getfield 29, 3) := by decide +kernel
theorem dX10_judge_19 : decode cX10_judge 19 = .ok (.aload_n 0, 1) := by decide +kernel
theorem dX10_judge_20 : decode cX10_judge 20 = .ok (.getfield 19, 3) := by decide +kernel
theorem dX10_judge_23 : decode cX10_judge 23 = .ok (.getfield 219, 3) := by decide +kernel
theorem dX10_judge_26 : decode cX10_judge 26 = .ok (.iconst 1, 1) := by decide +kernel
theorem dX10_judge_27 : decode cX10_judge 27 = .ok (.iadd, 1) := by decide +kernel
theorem dX10_judge_28 : decode cX10_judge 28 = .ok (.invokevirtual 222, 3) := by decide +kernel
theorem dX10_judge_31 : decode cX10_judge 31 = .ok (.ireturn, 1) := by decide +kernel
theorem dX10_judge_32 : decode cX10_judge 32 = .ok (.iload_n 1, 1) := by decide +kernel
theorem dX10_judge_33 : decode cX10_judge 33 = .ok (.iconst 1, 1) := by decide +kernel
theorem dX10_judge_34 : decode cX10_judge 34 = .ok (.if_icmp .ne 13, 3) := by decide +kernel
theorem dX10_judge_37 : decode cX10_judge 37 = .ok (.aload_n 0, 1) := by decide +kernel
theorem dX10_judge_38 : decode cX10_judge 38 = .ok (.getfield 29, 3) := by decide +kernel
theorem dX10_judge_41 : decode cX10_judge 41 = .ok (.invokevirtual 225, 3) := by decide +kernel
theorem dX10_judge_44 : decode cX10_judge 44 = .ok (.goto 10, 3) := by decide +kernel
theorem dX10_judge_47 : decode cX10_judge 47 = .ok (.aload_n 0, 1) := by decide +kernel
theorem dX10_judge_48 : decode cX10_judge 48 = .ok (.getfield 29, 3) := by decide +kernel
theorem dX10_judge_51 : decode cX10_judge 51 = .ok (.invokevirtual 228, 3) := by decide +kernel
theorem dX10_judge_54 : decode cX10_judge 54 = .ok (.ireturn, 1) := by decide +kernel
theorem dX10_saw_0 : decode cX10_saw 0 = .ok (.iload_n 1, 1) := by decide +kernel
theorem dX10_saw_1 : decode cX10_saw 1 = .ok (.invokestatic 113, 3) := by decide +kernel
theorem dX10_saw_4 : decode cX10_saw 4 = .ok (.ifCond .eq 21, 3) := by decide +kernel
theorem dX10_saw_7 : decode cX10_saw 7 = .ok (.aload_n 0, 1) := by decide +kernel
theorem dX10_saw_8 : decode cX10_saw 8 = .ok (.iload_n 2, 1) := by decide +kernel
theorem dX10_saw_9 : decode cX10_saw 9 = .ok (.invokevirtual 216, 3) := by decide +kernel
theorem dX10_saw_12 : decode cX10_saw 12 = .ok (.ifCond .eq 13, 3) := by decide +kernel
theorem dX10_saw_15 : decode cX10_saw 15 = .ok (.iload_n 3, 1) := by decide +kernel
theorem dX10_saw_16 : decode cX10_saw 16 = .ok (.ifCond .lt 9, 3) := by decide +kernel
theorem dX10_saw_19 : decode cX10_saw 19 = .ok (.iload_n 3, 1) := by decide +kernel
theorem dX10_saw_20 : decode cX10_saw 20 = .ok (.bipush 60, 2) := by decide +kernel
theorem dX10_saw_22 : decode cX10_saw 22 = .ok (.if_icmp .le 5, 3) := by decide +kernel
theorem dX10_saw_25 : decode cX10_saw 25 = .ok (.iconst (-1), 1) := by decide +kernel
theorem dX10_saw_26 : decode cX10_saw 26 = .ok (.ireturn, 1) := by decide +kernel
theorem dX10_saw_27 : decode cX10_saw 27 = .ok (.aload_n 0, 1) := by decide +kernel
theorem dX10_saw_28 : decode cX10_saw 28 = .ok (.getfield 231, 3) := by decide +kernel
theorem dX10_saw_31 : decode cX10_saw 31 = .ok (.ifCond .lt 12, 3) := by decide +kernel
theorem dX10_saw_34 : decode cX10_saw 34 = .ok (.aload_n 0, 1) := by decide +kernel
theorem dX10_saw_35 : decode cX10_saw 35 = .ok (.getfield 231, 3) := by decide +kernel
theorem dX10_saw_38 : decode cX10_saw 38 = .ok (.bipush 6, 2) := by decide +kernel
theorem dX10_saw_40 : decode cX10_saw 40 = .ok (.if_icmp .lt 6, 3) := by decide +kernel
theorem dX10_saw_43 : decode cX10_saw 43 = .ok (.bipush (-3), 2) := by decide +kernel
theorem dX10_saw_45 : decode cX10_saw 45 = .ok (.ireturn, 1) := by decide +kernel
theorem dX10_saw_46 : decode cX10_saw 46 = .ok (.aload_n 0, 1) := by decide +kernel
theorem dX10_saw_47 : decode cX10_saw 47 = .ok (.getfield 56, 3) := by decide +kernel
theorem dX10_saw_50 : decode cX10_saw 50 = .ok (.aload_n 0, 1) := by decide +kernel
theorem dX10_saw_51 : decode cX10_saw 51 = .ok (.getfield 231, 3) := by decide +kernel
theorem dX10_saw_54 : decode cX10_saw 54 = .ok (.iload_n 1, 1) := by decide +kernel
theorem dX10_saw_55 : decode cX10_saw 55 = .ok (.iastore, 1) := by decide +kernel
theorem dX10_saw_56 : decode cX10_saw 56 = .ok (.aload_n 0, 1) := by decide +kernel
theorem dX10_saw_57 : decode cX10_saw 57 = .ok (.getfield 59, 3) := by decide +kernel
theorem dX10_saw_60 : decode cX10_saw 60 = .ok (.aload_n 0, 1) := by decide +kernel
theorem dX10_saw_61 : decode cX10_saw 61 = .ok (.getfield 231, 3) := by decide +kernel
theorem dX10_saw_64 : decode cX10_saw 64 = .ok (.iload_n 2, 1) := by decide +kernel
theorem dX10_saw_65 : decode cX10_saw 65 = .ok (.iastore, 1) := by decide +kernel
theorem dX10_saw_66 : decode cX10_saw 66 = .ok (.aload_n 0, 1) := by decide +kernel
theorem dX10_saw_67 : decode cX10_saw 67 = .ok (.getfield 62, 3) := by decide +kernel
theorem dX10_saw_70 : decode cX10_saw 70 = .ok (.aload_n 0, 1) := by decide +kernel
theorem dX10_saw_71 : decode cX10_saw 71 = .ok (.getfield 231, 3) := by decide +kernel
theorem dX10_saw_74 : decode cX10_saw 74 = .ok (.iload_n 3, 1) := by decide +kernel
theorem dX10_saw_75 : decode cX10_saw 75 = .ok (.iastore, 1) := by decide +kernel
theorem dX10_saw_76 : decode cX10_saw 76 = .ok (.aload_n 0, 1) := by decide +kernel
theorem dX10_saw_77 : decode cX10_saw 77 = .ok (.dup, 1) := by decide +kernel
theorem dX10_saw_78 : decode cX10_saw 78 = .ok (.getfield 231, 3) := by decide +kernel
theorem dX10_saw_81 : decode cX10_saw 81 = .ok (.iconst 1, 1) := by decide +kernel
theorem dX10_saw_82 : decode cX10_saw 82 = .ok (.iadd, 1) := by decide +kernel
theorem dX10_saw_83 : decode cX10_saw 83 = .ok (.putfield 231, 3) := by decide +kernel
theorem dX10_saw_86 : decode cX10_saw 86 = .ok (.aload_n 0, 1) := by decide +kernel
theorem dX10_saw_87 : decode cX10_saw 87 = .ok (.getfield 231, 3) := by decide +kernel
theorem dX10_saw_90 : decode cX10_saw 90 = .ok (.ireturn, 1) := by decide +kernel
theorem dX10_forget_0 : decode cX10_forget 0 = .ok (.aload_n 0, 1) := by decide +kernel
theorem dX10_forget_1 : decode cX10_forget 1 = .ok (.getfield 231, 3) := by decide +kernel
theorem dX10_forget_4 : decode cX10_forget 4 = .ok (.istore_n 1, 1) := by decide +kernel
theorem dX10_forget_5 : decode cX10_forget 5 = .ok (.aload_n 0, 1) := by decide +kernel
theorem dX10_forget_6 : decode cX10_forget 6 = .ok (.iconst 0, 1) := by decide +kernel
theorem dX10_forget_7 : decode cX10_forget 7 = .ok (.putfield 231, 3) := by decide +kernel
theorem dX10_forget_10 : decode cX10_forget 10 = .ok (.iload_n 1, 1) := by decide +kernel
theorem dX10_forget_11 : decode cX10_forget 11 = .ok (.ireturn, 1) := by decide +kernel
theorem dX10_wrong_0 : decode cX10_wrong 0 = .ok (.iload_n 1, 1) := by decide +kernel
theorem dX10_wrong_1 : decode cX10_wrong 1 = .ok (.ifCond .lt 8, 3) := by decide +kernel
theorem dX10_wrong_4 : decode cX10_wrong 4 = .ok (.iload_n 1, 1) := by decide +kernel
theorem dX10_wrong_5 : decode cX10_wrong 5 = .ok (.iconst 1, 1) := by decide +kernel
theorem dX10_wrong_6 : decode cX10_wrong 6 = .ok (.if_icmp .le 5, 3) := by decide +kernel
theorem dX10_wrong_9 : decode cX10_wrong 9 = .ok (.iconst (-1), 1) := by decide +kernel
theorem dX10_wrong_10 : decode cX10_wrong 10 = .ok (.ireturn, 1) := by decide +kernel
theorem dX10_wrong_11 : decode cX10_wrong 11 = .ok (.aload_n 0, 1) := by decide +kernel
theorem dX10_wrong_12 : decode cX10_wrong 12 = .ok (.getfield 29, 3) := by decide +kernel
theorem dX10_wrong_15 : decode cX10_wrong 15 = .ok (.iconst 0, 1) := by decide +kernel
theorem dX10_wrong_16 : decode cX10_wrong 16 = .ok (.invokevirtual 143, 3) := by decide +kernel
theorem dX10_wrong_19 : decode cX10_wrong 19 = .ok (.istore_n 2, 1) := by decide +kernel
theorem dX10_wrong_20 : decode cX10_wrong 20 = .ok (.aload_n 0, 1) := by decide +kernel
theorem dX10_wrong_21 : decode cX10_wrong 21 = .ok (.getfield 29, 3) := by decide +kernel
theorem dX10_wrong_24 : decode cX10_wrong 24 = .ok (.iconst 1, 1) := by decide +kernel
theorem dX10_wrong_25 : decode cX10_wrong 25 = .ok (.invokevirtual 143, 3) := by decide +kernel
theorem dX10_wrong_28 : decode cX10_wrong 28 = .ok (.istore_n 3, 1) := by decide +kernel
theorem dX10_wrong_29 : decode cX10_wrong 29 = .ok (.aload_n 0, 1) := by decide +kernel
theorem dX10_wrong_30 : decode cX10_wrong 30 = .ok (.iload_n 2, 1) := by decide +kernel
theorem dX10_wrong_31 : decode cX10_wrong 31 = .ok (.iconst 1, 1) := by decide +kernel
theorem dX10_wrong_32 : decode cX10_wrong 32 = .ok (.isub, 1) := by decide +kernel
theorem dX10_wrong_33 : decode cX10_wrong 33 = .ok (.iload_n 3, 1) := by decide +kernel
theorem dX10_wrong_34 : decode cX10_wrong 34 = .ok (.iconst 1, 1) := by decide +kernel
theorem dX10_wrong_35 : decode cX10_wrong 35 = .ok (.iadd, 1) := by decide +kernel
theorem dX10_wrong_36 : decode cX10_wrong 36 = .ok (.invokevirtual 234, 3) := by decide +kernel
theorem dX10_wrong_39 : decode cX10_wrong 39 = .ok (.istore 4, 2) := by decide +kernel
theorem dX10_wrong_41 : decode cX10_wrong 41 = .ok (.aload_n 0, 1) := by decide +kernel
theorem dX10_wrong_42 : decode cX10_wrong 42 = .ok (.iload_n 2, 1) := by decide +kernel
theorem dX10_wrong_43 : decode cX10_wrong 43 = .ok (.iconst 1, 1) := by decide +kernel
theorem dX10_wrong_44 : decode cX10_wrong 44 = .ok (.iadd, 1) := by decide +kernel
theorem dX10_wrong_45 : decode cX10_wrong 45 = .ok (.iload_n 3, 1) := by decide +kernel
theorem dX10_wrong_46 : decode cX10_wrong 46 = .ok (.iconst 1, 1) := by decide +kernel
theorem dX10_wrong_47 : decode cX10_wrong 47 = .ok (.isub, 1) := by decide +kernel
theorem dX10_wrong_48 : decode cX10_wrong 48 = .ok (.invokevirtual 234, 3) := by decide +kernel
theorem dX10_wrong_51 : decode cX10_wrong 51 = .ok (.istore 5, 2) := by decide +kernel
theorem dX10_wrong_53 : decode cX10_wrong 53 = .ok (.iload_n 1, 1) := by decide +kernel
theorem dX10_wrong_54 : decode cX10_wrong 54 = .ok (.bipush 30, 2) := by decide +kernel
theorem dX10_wrong_56 : decode cX10_wrong 56 = .ok (.imul, 1) := by decide +kernel
theorem dX10_wrong_57 : decode cX10_wrong 57 = .ok (.istore 6, 2) := by decide +kernel
theorem dX10_wrong_59 : decode cX10_wrong 59 = .ok (.iconst 0, 1) := by decide +kernel
theorem dX10_wrong_60 : decode cX10_wrong 60 = .ok (.istore 7, 2) := by decide +kernel
theorem dX10_wrong_62 : decode cX10_wrong 62 = .ok (.iconst 0, 1) := by decide +kernel
theorem dX10_wrong_63 : decode cX10_wrong 63 = .ok (.istore 8, 2) := by decide +kernel
theorem dX10_wrong_65 : decode cX10_wrong 65 = .ok (.iload 8, 2) := by decide +kernel
theorem dX10_wrong_67 : decode cX10_wrong 67 = .ok (.bipush 30, 2) := by decide +kernel
theorem dX10_wrong_69 : decode cX10_wrong 69 = .ok (.if_icmp .ge 62, 3) := by decide +kernel
theorem dX10_wrong_72 : decode cX10_wrong 72 = .ok (.iload 6, 2) := by decide +kernel
theorem dX10_wrong_74 : decode cX10_wrong 74 = .ok (.iload 8, 2) := by decide +kernel
theorem dX10_wrong_76 : decode cX10_wrong 76 = .ok (.iadd, 1) := by decide +kernel
theorem dX10_wrong_77 : decode cX10_wrong 77 = .ok (.aload_n 0, 1) := by decide +kernel
theorem dX10_wrong_78 : decode cX10_wrong 78 = .ok (.getfield 29, 3) := by decide +kernel
theorem dX10_wrong_81 : decode cX10_wrong 81 = .ok (.getfield 123, 3) := by decide +kernel
theorem dX10_wrong_84 : decode cX10_wrong 84 = .ok (.if_icmp .ge 47, 3) := by decide +kernel
theorem dX10_wrong_87 : decode cX10_wrong 87 = .ok (.aload_n 0, 1) := by decide +kernel
theorem dX10_wrong_88 : decode cX10_wrong 88 = .ok (.getfield 29, 3) := by decide +kernel
theorem dX10_wrong_91 : decode cX10_wrong 91 = .ok (.iload 6, 2) := by decide +kernel
theorem dX10_wrong_93 : decode cX10_wrong 93 = .ok (.iload 8, 2) := by decide +kernel
theorem dX10_wrong_95 : decode cX10_wrong 95 = .ok (.iadd, 1) := by decide +kernel
theorem dX10_wrong_96 : decode cX10_wrong 96 = .ok (.invokevirtual 213, 3) := by decide +kernel
theorem dX10_wrong_99 : decode cX10_wrong 99 = .ok (.iconst 1, 1) := by decide +kernel
theorem dX10_wrong_100 : decode cX10_wrong 100 = .ok (.if_icmp .ne 11, 3) := by decide +kernel
theorem dX10_wrong_103 : decode cX10_wrong 103 = .ok (.iload 5, 2) := by decide +kernel
theorem dX10_wrong_105 : decode cX10_wrong 105 = .ok (.ifCond .eq 20, 3) := by decide +kernel
theorem dX10_wrong_108 : decode cX10_wrong 108 = .ok (.goto 8, 3) := by decide +kernel
theorem dX10_wrong_111 : decode cX10_wrong 111 = .ok (.iload 4, 2) := by decide +kernel
theorem dX10_wrong_113 : decode cX10_wrong 113 = .ok (.ifCond .eq 12, 3) := by decide +kernel
theorem dX10_wrong_116 : decode cX10_wrong 116 = .ok (.iload 7, 2) := by decide +kernel
theorem dX10_wrong_118 : decode cX10_wrong 118 = .ok (.iconst 1, 1) := by decide +kernel
theorem dX10_wrong_119 : decode cX10_wrong 119 = .ok (.iload 8, 2) := by decide +kernel
theorem dX10_wrong_121 : decode cX10_wrong 121 = .ok (.ishl, 1) := by decide +kernel
theorem dX10_wrong_122 : decode cX10_wrong 122 = .ok (.ior, 1) := by decide +kernel
theorem dX10_wrong_123 : decode cX10_wrong 123 = .ok (.istore 7, 2) := by decide +kernel
theorem dX10_wrong_125 : decode cX10_wrong 125 = .ok (.iinc 8 1, 3) := by decide +kernel
theorem dX10_wrong_128 : decode cX10_wrong 128 = .ok (.goto (-63), 3) := by decide +kernel
theorem dX10_wrong_131 : decode cX10_wrong 131 = .ok (.iload 7, 2) := by decide +kernel
theorem dX10_wrong_133 : decode cX10_wrong 133 = .ok (.ireturn, 1) := by decide +kernel
theorem dX10_asTold_0 : decode cX10_asTold 0 = .ok (.aload_n 0, 1) := by decide +kernel
theorem dX10_asTold_1 : decode cX10_asTold 1 = .ok (.aload_n 0, 1) := by decide +kernel
theorem dX10_asTold_2 : decode cX10_asTold 2 = .ok (.getfield 29, 3) := by decide +kernel
theorem dX10_asTold_5 : decode cX10_asTold 5 = .ok (.iconst 0, 1) := by decide +kernel
theorem dX10_asTold_6 : decode cX10_asTold 6 = .ok (.invokevirtual 143, 3) := by decide +kernel
theorem dX10_asTold_9 : decode cX10_asTold 9 = .ok (.aload_n 0, 1) := by decide +kernel
theorem dX10_asTold_10 : decode cX10_asTold 10 = .ok (.getfield 29, 3) := by decide +kernel
theorem dX10_asTold_13 : decode cX10_asTold 13 = .ok (.iconst 1, 1) := by decide +kernel
theorem dX10_asTold_14 : decode cX10_asTold 14 = .ok (.invokevirtual 143, 3) := by decide +kernel
theorem dX10_asTold_17 : decode cX10_asTold 17 = .ok (.invokevirtual 234, 3) := by decide +kernel
theorem dX10_asTold_20 : decode cX10_asTold 20 = .ok (.ifCond .eq 7, 3) := by decide +kernel
theorem dX10_asTold_23 : decode cX10_asTold 23 = .ok (.iconst 1, 1) := by decide +kernel
theorem dX10_asTold_24 : decode cX10_asTold 24 = .ok (.goto 4, 3) := by decide +kernel
theorem dX10_asTold_27 : decode cX10_asTold 27 = .ok (.iconst 0, 1) := by decide +kernel
theorem dX10_asTold_28 : decode cX10_asTold 28 = .ok (.ireturn, 1) := by decide +kernel
theorem dX10_soonest_0 : decode cX10_soonest 0 = .ok (.iload_n 1, 1) := by decide +kernel
theorem dX10_soonest_1 : decode cX10_soonest 1 = .ok (.iconst 1, 1) := by decide +kernel
theorem dX10_soonest_2 : decode cX10_soonest 2 = .ok (.if_icmp .lt 31, 3) := by decide +kernel
theorem dX10_soonest_5 : decode cX10_soonest 5 = .ok (.iload_n 1, 1) := by decide +kernel
theorem dX10_soonest_6 : decode cX10_soonest 6 = .ok (.bipush 99, 2) := by decide +kernel
theorem dX10_soonest_8 : decode cX10_soonest 8 = .ok (.if_icmp .gt 25, 3) := by decide +kernel
theorem dX10_soonest_11 : decode cX10_soonest 11 = .ok (.iload_n 2, 1) := by decide +kernel
theorem dX10_soonest_12 : decode cX10_soonest 12 = .ok (.iconst 1, 1) := by decide +kernel
theorem dX10_soonest_13 : decode cX10_soonest 13 = .ok (.if_icmp .lt 20, 3) := by decide +kernel
theorem dX10_soonest_16 : decode cX10_soonest 16 = .ok (.iload_n 2, 1) := by decide +kernel
theorem dX10_soonest_17 : decode cX10_soonest 17 = .ok (.bipush 9, 2) := by decide +kernel
theorem dX10_soonest_19 : decode cX10_soonest 19 = .ok (.if_icmp .gt 14, 3) := by decide +kernel
theorem dX10_soonest_22 : decode cX10_soonest 22 = .ok (.iload_n 3, 1) := by decide +kernel
theorem dX10_soonest_23 : decode cX10_soonest 23 = .ok (.iconst 1, 1) := by decide +kernel
theorem dX10_soonest_24 : decode cX10_soonest 24 = .ok (.if_icmp .lt 9, 3) := by decide +kernel
theorem dX10_soonest_27 : decode cX10_soonest 27 = .ok (.iload_n 3, 1) := by decide +kernel
theorem dX10_soonest_28 : decode cX10_soonest 28 = .ok (.bipush 9, 2) := by decide +kernel
theorem dX10_soonest_30 : decode cX10_soonest 30 = .ok (.if_icmp .le 5, 3) := by decide +kernel
theorem dX10_soonest_33 : decode cX10_soonest 33 = .ok (.iconst (-1), 1) := by decide +kernel
theorem dX10_soonest_34 : decode cX10_soonest 34 = .ok (.ireturn, 1) := by decide +kernel
theorem dX10_soonest_35 : decode cX10_soonest 35 = .ok (.bipush (-9), 2) := by decide +kernel
theorem dX10_soonest_37 : decode cX10_soonest 37 = .ok (.istore 4, 2) := by decide +kernel
theorem dX10_soonest_39 : decode cX10_soonest 39 = .ok (.iconst 0, 1) := by decide +kernel
theorem dX10_soonest_40 : decode cX10_soonest 40 = .ok (.istore 5, 2) := by decide +kernel
theorem dX10_soonest_42 : decode cX10_soonest 42 = .ok (.iload 5, 2) := by decide +kernel
theorem dX10_soonest_44 : decode cX10_soonest 44 = .ok (.bipush 60, 2) := by decide +kernel
theorem dX10_soonest_46 : decode cX10_soonest 46 = .ok (.if_icmp .gt 83, 3) := by decide +kernel
theorem dX10_soonest_49 : decode cX10_soonest 49 = .ok (.iload 5, 2) := by decide +kernel
theorem dX10_soonest_51 : decode cX10_soonest 51 = .ok (.iload_n 2, 1) := by decide +kernel
theorem dX10_soonest_52 : decode cX10_soonest 52 = .ok (.imul, 1) := by decide +kernel
theorem dX10_soonest_53 : decode cX10_soonest 53 = .ok (.iload_n 1, 1) := by decide +kernel
theorem dX10_soonest_54 : decode cX10_soonest 54 = .ok (.if_icmp .gt 75, 3) := by decide +kernel
theorem dX10_soonest_57 : decode cX10_soonest 57 = .ok (.iload_n 1, 1) := by decide +kernel
theorem dX10_soonest_58 : decode cX10_soonest 58 = .ok (.iload 5, 2) := by decide +kernel
theorem dX10_soonest_60 : decode cX10_soonest 60 = .ok (.iload_n 2, 1) := by decide +kernel
theorem dX10_soonest_61 : decode cX10_soonest 61 = .ok (.imul, 1) := by decide +kernel
theorem dX10_soonest_62 : decode cX10_soonest 62 = .ok (.isub, 1) := by decide +kernel
theorem dX10_soonest_63 : decode cX10_soonest 63 = .ok (.istore 6, 2) := by decide +kernel
theorem dX10_soonest_65 : decode cX10_soonest 65 = .ok (.iload 6, 2) := by decide +kernel
theorem dX10_soonest_67 : decode cX10_soonest 67 = .ok (.iload_n 3, 1) := by decide +kernel
theorem dX10_soonest_68 : decode cX10_soonest 68 = .ok (.idiv, 1) := by decide +kernel
theorem dX10_soonest_69 : decode cX10_soonest 69 = .ok (.istore 7, 2) := by decide +kernel
theorem dX10_soonest_71 : decode cX10_soonest 71 = .ok (.iload 5, 2) := by decide +kernel
theorem dX10_soonest_73 : decode cX10_soonest 73 = .ok (.iload 7, 2) := by decide +kernel
theorem dX10_soonest_75 : decode cX10_soonest 75 = .ok (.iadd, 1) := by decide +kernel
theorem dX10_soonest_76 : decode cX10_soonest 76 = .ok (.istore 8, 2) := by decide +kernel
theorem dX10_soonest_78 : decode cX10_soonest 78 = .ok (.iload 7, 2) := by decide +kernel
theorem dX10_soonest_80 : decode cX10_soonest 80 = .ok (.iload_n 3, 1) := by decide +kernel
theorem dX10_soonest_81 : decode cX10_soonest 81 = .ok (.imul, 1) := by decide +kernel
theorem dX10_soonest_82 : decode cX10_soonest 82 = .ok (.iload 6, 2) := by decide +kernel
theorem dX10_soonest_84 : decode cX10_soonest 84 = .ok (.if_icmp .ne 39, 3) := by decide +kernel
theorem dX10_soonest_87 : decode cX10_soonest 87 = .ok (.iload 8, 2) := by decide +kernel
theorem dX10_soonest_89 : decode cX10_soonest 89 = .ok (.bipush 60, 2) := by decide +kernel
theorem dX10_soonest_91 : decode cX10_soonest 91 = .ok (.if_icmp .gt 32, 3) := by decide +kernel
theorem dX10_soonest_94 : decode cX10_soonest 94 = .ok (.aload_n 0, 1) := by decide +kernel
theorem dX10_soonest_95 : decode cX10_soonest 95 = .ok (.iload 5, 2) := by decide +kernel
theorem dX10_soonest_97 : decode cX10_soonest 97 = .ok (.iload 7, 2) := by decide +kernel
theorem dX10_soonest_99 : decode cX10_soonest 99 = .ok (.invokevirtual 238, 3) := by decide +kernel
theorem dX10_soonest_102 : decode cX10_soonest 102 = .ok (.ifCond .eq 21, 3) := by decide +kernel
theorem dX10_soonest_105 : decode cX10_soonest 105 = .ok (.iload 4, 2) := by decide +kernel
theorem dX10_soonest_107 : decode cX10_soonest 107 = .ok (.bipush (-9), 2) := by decide +kernel
theorem dX10_soonest_109 : decode cX10_soonest 109 = .ok (.if_icmp .eq 10, 3) := by decide +kernel
theorem dX10_soonest_112 : decode cX10_soonest 112 = .ok (.iload 8, 2) := by decide +kernel
theorem dX10_soonest_114 : decode cX10_soonest 114 = .ok (.iload 4, 2) := by decide +kernel
theorem dX10_soonest_116 : decode cX10_soonest 116 = .ok (.if_icmp .ge 7, 3) := by decide +kernel
theorem dX10_soonest_119 : decode cX10_soonest 119 = .ok (.iload 8, 2) := by decide +kernel
theorem dX10_soonest_121 : decode cX10_soonest 121 = .ok (.istore 4, 2) := by decide +kernel
theorem dX10_soonest_123 : decode cX10_soonest 123 = .ok (.iinc 5 1, 3) := by decide +kernel
theorem dX10_soonest_126 : decode cX10_soonest 126 = .ok (.goto (-84), 3) := by decide +kernel
theorem dX10_soonest_129 : decode cX10_soonest 129 = .ok (.iload 4, 2) := by decide +kernel
theorem dX10_soonest_131 : decode cX10_soonest 131 = .ok (.ireturn, 1) := by decide +kernel
theorem dX10_rate_0 : decode cX10_rate 0 = .ok (.iload_n 1, 1) := by decide +kernel
theorem dX10_rate_1 : decode cX10_rate 1 = .ok (.ifCond .lt 16, 3) := by decide +kernel
theorem dX10_rate_4 : decode cX10_rate 4 = .ok (.iload_n 1, 1) := by decide +kernel
theorem dX10_rate_5 : decode cX10_rate 5 = .ok (.bipush 6, 2) := by decide +kernel
theorem dX10_rate_7 : decode cX10_rate 7 = .ok (.if_icmp .ge 10, 3) := by decide +kernel
theorem dX10_rate_10 : decode cX10_rate 10 = .ok (.iload_n 2, 1) := by decide +kernel
theorem dX10_rate_11 : decode cX10_rate 11 = .ok (.invokestatic 113, 3) := by decide +kernel
theorem dX10_rate_14 : decode cX10_rate 14 = .ok (.ifCond .ne 6, 3) := by decide +kernel
theorem dX10_rate_17 : decode cX10_rate 17 = .ok (.ldc 241, 2) := by decide +kernel
theorem dX10_rate_19 : decode cX10_rate 19 = .ok (.ireturn, 1) := by decide +kernel
theorem dX10_rate_20 : decode cX10_rate 20 = .ok (.aload_n 0, 1) := by decide +kernel
theorem dX10_rate_21 : decode cX10_rate 21 = .ok (.getfield 48, 3) := by decide +kernel
theorem dX10_rate_24 : decode cX10_rate 24 = .ok (.iload_n 1, 1) := by decide +kernel
theorem dX10_rate_25 : decode cX10_rate 25 = .ok (.aaload, 1) := by decide +kernel
theorem dX10_rate_26 : decode cX10_rate 26 = .ok (.astore_n 3, 1) := by decide +kernel
theorem dX10_rate_27 : decode cX10_rate 27 = .ok (.aload_n 3, 1) := by decide +kernel
theorem dX10_rate_28 : decode cX10_rate 28 = .ok (.ifnonnull 8, 3) := by decide +kernel
theorem dX10_rate_31 : decode cX10_rate 31 = .ok (.ldc 241, 2) := by decide +kernel
theorem dX10_rate_33 : decode cX10_rate 33 = .ok (.goto 9, 3) := by decide +kernel
theorem dX10_rate_36 : decode cX10_rate 36 = .ok (.aload_n 3, 1) := by decide +kernel
theorem dX10_rate_37 : decode cX10_rate 37 = .ok (.aload_n 0, 1) := by decide +kernel
theorem dX10_rate_38 : decode cX10_rate 38 = .ok (.iload_n 2, 1) := by decide +kernel
theorem dX10_rate_39 : decode cX10_rate 39 = .ok (.invokevirtual 242, 3) := by decide +kernel
theorem dX10_rate_42 : decode cX10_rate 42 = .ok (.ireturn, 1) := by decide +kernel
theorem dX10_keep_0 : decode cX10_keep 0 = .ok (.iload_n 1, 1) := by decide +kernel
theorem dX10_keep_1 : decode cX10_keep 1 = .ok (.ifCond .lt 8, 3) := by decide +kernel
theorem dX10_keep_4 : decode cX10_keep 4 = .ok (.iload_n 1, 1) := by decide +kernel
theorem dX10_keep_5 : decode cX10_keep 5 = .ok (.iconst 1, 1) := by decide +kernel
theorem dX10_keep_6 : decode cX10_keep 6 = .ok (.if_icmp .le 5, 3) := by decide +kernel
theorem dX10_keep_9 : decode cX10_keep 9 = .ok (.iconst (-1), 1) := by decide +kernel
theorem dX10_keep_10 : decode cX10_keep 10 = .ok (.ireturn, 1) := by decide +kernel
theorem dX10_keep_11 : decode cX10_keep 11 = .ok (.aload_n 0, 1) := by decide +kernel
theorem dX10_keep_12 : decode cX10_keep 12 = .ok (.iload_n 1, 1) := by decide +kernel
theorem dX10_keep_13 : decode cX10_keep 13 = .ok (.invokevirtual 246, 3) := by decide +kernel
theorem dX10_keep_16 : decode cX10_keep 16 = .ok (.astore_n 2, 1) := by decide +kernel
theorem dX10_keep_17 : decode cX10_keep 17 = .ok (.aload_n 2, 1) := by decide +kernel
theorem dX10_keep_18 : decode cX10_keep 18 = .ok (.aload_n 0, 1) := by decide +kernel
theorem dX10_keep_19 : decode cX10_keep 19 = .ok (.getfield 29, 3) := by decide +kernel
theorem dX10_keep_22 : decode cX10_keep 22 = .ok (.invokevirtual 250, 3) := by decide +kernel
theorem dX10_keep_25 : decode cX10_keep 25 = .ok (.aload_n 2, 1) := by decide +kernel
theorem dX10_keep_26 : decode cX10_keep 26 = .ok (.iconst 1, 1) := by decide +kernel
theorem dX10_keep_27 : decode cX10_keep 27 = .ok (.putfield 254, 3) := by decide +kernel
theorem dX10_keep_30 : decode cX10_keep 30 = .ok (.aload_n 2, 1) := by decide +kernel
theorem dX10_keep_31 : decode cX10_keep 31 = .ok (.getfield 123, 3) := by decide +kernel
theorem dX10_keep_34 : decode cX10_keep 34 = .ok (.ireturn, 1) := by decide +kernel
theorem dX10_back_0 : decode cX10_back 0 = .ok (.iload_n 1, 1) := by decide +kernel
theorem dX10_back_1 : decode cX10_back 1 = .ok (.ifCond .lt 8, 3) := by decide +kernel
theorem dX10_back_4 : decode cX10_back 4 = .ok (.iload_n 1, 1) := by decide +kernel
theorem dX10_back_5 : decode cX10_back 5 = .ok (.iconst 1, 1) := by decide +kernel
theorem dX10_back_6 : decode cX10_back 6 = .ok (.if_icmp .le 5, 3) := by decide +kernel
theorem dX10_back_9 : decode cX10_back 9 = .ok (.iconst (-1), 1) := by decide +kernel
theorem dX10_back_10 : decode cX10_back 10 = .ok (.ireturn, 1) := by decide +kernel
theorem dX10_back_11 : decode cX10_back 11 = .ok (.aload_n 0, 1) := by decide +kernel
theorem dX10_back_12 : decode cX10_back 12 = .ok (.iload_n 1, 1) := by decide +kernel
theorem dX10_back_13 : decode cX10_back 13 = .ok (.invokevirtual 246, 3) := by decide +kernel
theorem dX10_back_16 : decode cX10_back 16 = .ok (.astore_n 2, 1) := by decide +kernel
theorem dX10_back_17 : decode cX10_back 17 = .ok (.aload_n 2, 1) := by decide +kernel
theorem dX10_back_18 : decode cX10_back 18 = .ok (.getfield 254, 3) := by decide +kernel
theorem dX10_back_21 : decode cX10_back 21 = .ok (.ifCond .ne 6, 3) := by decide +kernel
theorem dX10_back_24 : decode cX10_back 24 = .ok (.bipush (-2), 2) := by decide +kernel
theorem dX10_back_26 : decode cX10_back 26 = .ok (.ireturn, 1) := by decide +kernel
theorem dX10_back_27 : decode cX10_back 27 = .ok (.aload_n 0, 1) := by decide +kernel
theorem dX10_back_28 : decode cX10_back 28 = .ok (.getfield 29, 3) := by decide +kernel
theorem dX10_back_31 : decode cX10_back 31 = .ok (.aload_n 2, 1) := by decide +kernel
theorem dX10_back_32 : decode cX10_back 32 = .ok (.invokevirtual 250, 3) := by decide +kernel
theorem dX10_back_35 : decode cX10_back 35 = .ok (.aload_n 0, 1) := by decide +kernel
theorem dX10_back_36 : decode cX10_back 36 = .ok (.iconst 0, 1) := by decide +kernel
theorem dX10_back_37 : decode cX10_back 37 = .ok (.putfield 126, 3) := by decide +kernel
theorem dX10_back_40 : decode cX10_back 40 = .ok (.aload_n 0, 1) := by decide +kernel
theorem dX10_back_41 : decode cX10_back 41 = .ok (.getfield 29, 3) := by decide +kernel
theorem dX10_back_44 : decode cX10_back 44 = .ok (.getfield 123, 3) := by decide +kernel
theorem dX10_back_47 : decode cX10_back 47 = .ok (.ireturn, 1) := by decide +kernel
theorem dX10_count_0 : decode cX10_count 0 = .ok (.iload_n 1, 1) := by decide +kernel
theorem dX10_count_1 : decode cX10_count 1 = .ok (.tableswitch 84 0 5 #[39, 47, 55, 63, 71, 76], 39) := by decide +kernel
theorem dX10_count_40 : decode cX10_count 40 = .ok (.aload_n 0, 1) := by decide +kernel
theorem dX10_count_41 : decode cX10_count 41 = .ok (.getfield 19, 3) := by decide +kernel
theorem dX10_count_44 : decode cX10_count 44 = .ok (.getfield 129, 3) := by decide +kernel
theorem dX10_count_47 : decode cX10_count 47 = .ok (.ireturn, 1) := by decide +kernel
theorem dX10_count_48 : decode cX10_count 48 = .ok (.aload_n 0, 1) := by decide +kernel
theorem dX10_count_49 : decode cX10_count 49 = .ok (.getfield 19, 3) := by decide +kernel
theorem dX10_count_52 : decode cX10_count 52 = .ok (.getfield 258, 3) := by decide +kernel
theorem dX10_count_55 : decode cX10_count 55 = .ok (.ireturn, 1) := by decide +kernel
theorem dX10_count_56 : decode cX10_count 56 = .ok (.aload_n 0, 1) := by decide +kernel
theorem dX10_count_57 : decode cX10_count 57 = .ok (.getfield 19, 3) := by decide +kernel
theorem dX10_count_60 : decode cX10_count 60 = .ok (.getfield 219, 3) := by decide +kernel
theorem dX10_count_63 : decode cX10_count 63 = .ok (.ireturn, 1) := by decide +kernel
theorem dX10_count_64 : decode cX10_count 64 = .ok (.aload_n 0, 1) := by decide +kernel
theorem dX10_count_65 : decode cX10_count 65 = .ok (.getfield 19, 3) := by decide +kernel
theorem dX10_count_68 : decode cX10_count 68 = .ok (.getfield 261, 3) := by decide +kernel
theorem dX10_count_71 : decode cX10_count 71 = .ok (.ireturn, 1) := by decide +kernel
theorem dX10_count_72 : decode cX10_count 72 = .ok (.aload_n 0, 1) := by decide +kernel
theorem dX10_count_73 : decode cX10_count 73 = .ok (.getfield 231, 3) := by decide +kernel
theorem dX10_count_76 : decode cX10_count 76 = .ok (.ireturn, 1) := by decide +kernel
theorem dX10_count_77 : decode cX10_count 77 = .ok (.aload_n 0, 1) := by decide +kernel
theorem dX10_count_78 : decode cX10_count 78 = .ok (.getfield 12, 3) := by decide +kernel
theorem dX10_count_81 : decode cX10_count 81 = .ok (.getfield 88, 3) := by decide +kernel
theorem dX10_count_84 : decode cX10_count 84 = .ok (.ireturn, 1) := by decide +kernel
theorem dX10_count_85 : decode cX10_count 85 = .ok (.iconst (-1), 1) := by decide +kernel
theorem dX10_count_86 : decode cX10_count 86 = .ok (.ireturn, 1) := by decide +kernel
theorem dX10_trace_0 : decode cX10_trace 0 = .ok (.aload_n 0, 1) := by decide +kernel
theorem dX10_trace_1 : decode cX10_trace 1 = .ok (.getfield 264, 3) := by decide +kernel
theorem dX10_trace_4 : decode cX10_trace 4 = .ok (.lreturn, 1) := by decide +kernel
theorem dX10_beginAnew_0 : decode cX10_beginAnew 0 = .ok (.aload_n 0, 1) := by decide +kernel
theorem dX10_beginAnew_1 : decode cX10_beginAnew 1 = .ok (.getfield 29, 3) := by decide +kernel
theorem dX10_beginAnew_4 : decode cX10_beginAnew 4 = .ok (.invokevirtual 268, 3) := by decide +kernel
theorem dX10_beginAnew_7 : decode cX10_beginAnew 7 = .ok (.aload_n 0, 1) := by decide +kernel
theorem dX10_beginAnew_8 : decode cX10_beginAnew 8 = .ok (.getfield 33, 3) := by decide +kernel
theorem dX10_beginAnew_11 : decode cX10_beginAnew 11 = .ok (.iconst 0, 1) := by decide +kernel
theorem dX10_beginAnew_12 : decode cX10_beginAnew 12 = .ok (.putfield 254, 3) := by decide +kernel
theorem dX10_beginAnew_15 : decode cX10_beginAnew 15 = .ok (.aload_n 0, 1) := by decide +kernel
theorem dX10_beginAnew_16 : decode cX10_beginAnew 16 = .ok (.getfield 36, 3) := by decide +kernel
theorem dX10_beginAnew_19 : decode cX10_beginAnew 19 = .ok (.iconst 0, 1) := by decide +kernel
theorem dX10_beginAnew_20 : decode cX10_beginAnew 20 = .ok (.putfield 254, 3) := by decide +kernel
theorem dX10_beginAnew_23 : decode cX10_beginAnew 23 = .ok (.aload_n 0, 1) := by decide +kernel
theorem dX10_beginAnew_24 : decode cX10_beginAnew 24 = .ok (.iconst 0, 1) := by decide +kernel
theorem dX10_beginAnew_25 : decode cX10_beginAnew 25 = .ok (.putfield 126, 3) := by decide +kernel
theorem dX10_beginAnew_28 : decode cX10_beginAnew 28 = .ok (.aload_n 0, 1) := by decide +kernel
theorem dX10_beginAnew_29 : decode cX10_beginAnew 29 = .ok (.iconst 0, 1) := by decide +kernel
theorem dX10_beginAnew_30 : decode cX10_beginAnew 30 = .ok (.putfield 231, 3) := by decide +kernel
theorem dX10_beginAnew_33 : decode cX10_beginAnew 33 = .ok (.return_, 1) := by decide +kernel
theorem dX10_isGood_0 : decode cX10_isGood 0 = .ok (.iload_n 1, 1) := by decide +kernel
theorem dX10_isGood_1 : decode cX10_isGood 1 = .ok (.ifCond .lt 18, 3) := by decide +kernel
theorem dX10_isGood_4 : decode cX10_isGood 4 = .ok (.iload_n 1, 1) := by decide +kernel
theorem dX10_isGood_5 : decode cX10_isGood 5 = .ok (.aload_n 0, 1) := by decide +kernel
theorem dX10_isGood_6 : decode cX10_isGood 6 = .ok (.getfield 19, 3) := by decide +kernel
theorem dX10_isGood_9 : decode cX10_isGood 9 = .ok (.getfield 129, 3) := by decide +kernel
theorem dX10_isGood_12 : decode cX10_isGood 12 = .ok (.if_icmp .ge 7, 3) := by decide +kernel
theorem dX10_isGood_15 : decode cX10_isGood 15 = .ok (.iconst 1, 1) := by decide +kernel
theorem dX10_isGood_16 : decode cX10_isGood 16 = .ok (.goto 4, 3) := by decide +kernel
theorem dX10_isGood_19 : decode cX10_isGood 19 = .ok (.iconst 0, 1) := by decide +kernel
theorem dX10_isGood_20 : decode cX10_isGood 20 = .ok (.ireturn, 1) := by decide +kernel
theorem dX10_isCell_0 : decode cX10_isCell 0 = .ok (.iload_n 1, 1) := by decide +kernel
theorem dX10_isCell_1 : decode cX10_isCell 1 = .ok (.ifCond .lt 18, 3) := by decide +kernel
theorem dX10_isCell_4 : decode cX10_isCell 4 = .ok (.iload_n 1, 1) := by decide +kernel
theorem dX10_isCell_5 : decode cX10_isCell 5 = .ok (.aload_n 0, 1) := by decide +kernel
theorem dX10_isCell_6 : decode cX10_isCell 6 = .ok (.getfield 19, 3) := by decide +kernel
theorem dX10_isCell_9 : decode cX10_isCell 9 = .ok (.getfield 261, 3) := by decide +kernel
theorem dX10_isCell_12 : decode cX10_isCell 12 = .ok (.if_icmp .ge 7, 3) := by decide +kernel
theorem dX10_isCell_15 : decode cX10_isCell 15 = .ok (.iconst 1, 1) := by decide +kernel
theorem dX10_isCell_16 : decode cX10_isCell 16 = .ok (.goto 4, 3) := by decide +kernel
theorem dX10_isCell_19 : decode cX10_isCell 19 = .ok (.iconst 0, 1) := by decide +kernel
theorem dX10_isCell_20 : decode cX10_isCell 20 = .ok (.ireturn, 1) := by decide +kernel
theorem dX10_isSide_0 : decode cX10_isSide 0 = .ok (.iload_n 0, 1) := by decide +kernel
theorem dX10_isSide_1 : decode cX10_isSide 1 = .ok (.ifCond .eq 8, 3) := by decide +kernel
theorem dX10_isSide_4 : decode cX10_isSide 4 = .ok (.iload_n 0, 1) := by decide +kernel
theorem dX10_isSide_5 : decode cX10_isSide 5 = .ok (.iconst 1, 1) := by decide +kernel
theorem dX10_isSide_6 : decode cX10_isSide 6 = .ok (.if_icmp .ne 7, 3) := by decide +kernel
theorem dX10_isSide_9 : decode cX10_isSide 9 = .ok (.iconst 1, 1) := by decide +kernel
theorem dX10_isSide_10 : decode cX10_isSide 10 = .ok (.goto 4, 3) := by decide +kernel
theorem dX10_isSide_13 : decode cX10_isSide 13 = .ok (.iconst 0, 1) := by decide +kernel
theorem dX10_isSide_14 : decode cX10_isSide 14 = .ok (.ireturn, 1) := by decide +kernel
theorem dX10_imageOf_0 : decode cX10_imageOf 0 = .ok (.iload_n 1, 1) := by decide +kernel
theorem dX10_imageOf_1 : decode cX10_imageOf 1 = .ok (.ifCond .ne 10, 3) := by decide +kernel
theorem dX10_imageOf_4 : decode cX10_imageOf 4 = .ok (.aload_n 0, 1) := by decide +kernel
theorem dX10_imageOf_5 : decode cX10_imageOf 5 = .ok (.getfield 33, 3) := by decide +kernel
theorem dX10_imageOf_8 : decode cX10_imageOf 8 = .ok (.goto 7, 3) := by decide +kernel
theorem dX10_imageOf_11 : decode cX10_imageOf 11 = .ok (.aload_n 0, 1) := by decide +kernel
theorem dX10_imageOf_12 : decode cX10_imageOf 12 = .ok (.getfield 36, 3) := by decide +kernel
theorem dX10_imageOf_15 : decode cX10_imageOf 15 = .ok (.areturn, 1) := by decide +kernel
theorem dX10_remember_0 : decode cX10_remember 0 = .ok (.aload_n 0, 1) := by decide +kernel
theorem dX10_remember_1 : decode cX10_remember 1 = .ok (.getfield 126, 3) := by decide +kernel
theorem dX10_remember_4 : decode cX10_remember 4 = .ok (.bipush 10, 2) := by decide +kernel
theorem dX10_remember_6 : decode cX10_remember 6 = .ok (.if_icmp .lt 24, 3) := by decide +kernel
theorem dX10_remember_9 : decode cX10_remember 9 = .ok (.aload_n 0, 1) := by decide +kernel
theorem dX10_remember_10 : decode cX10_remember 10 = .ok (.getfield 52, 3) := by decide +kernel
theorem dX10_remember_13 : decode cX10_remember 13 = .ok (.iconst 1, 1) := by decide +kernel
theorem dX10_remember_14 : decode cX10_remember 14 = .ok (.aload_n 0, 1) := by decide +kernel
theorem dX10_remember_15 : decode cX10_remember 15 = .ok (.getfield 52, 3) := by decide +kernel
theorem dX10_remember_18 : decode cX10_remember 18 = .ok (.iconst 0, 1) := by decide +kernel
theorem dX10_remember_19 : decode cX10_remember 19 = .ok (.bipush 9, 2) := by decide +kernel
theorem dX10_remember_21 : decode cX10_remember 21 = .ok (.invokestatic 271, 3) := by decide +kernel
theorem dX10_remember_24 : decode cX10_remember 24 = .ok (.aload_n 0, 1) := by decide +kernel
theorem dX10_remember_25 : decode cX10_remember 25 = .ok (.bipush 9, 2) := by decide +kernel
theorem dX10_remember_27 : decode cX10_remember 27 = .ok (.putfield 126, 3) := by decide +kernel
theorem dX10_remember_30 : decode cX10_remember 30 = .ok (.aload_n 0, 1) := by decide +kernel
theorem dX10_remember_31 : decode cX10_remember 31 = .ok (.getfield 126, 3) := by decide +kernel
theorem dX10_remember_34 : decode cX10_remember 34 = .ok (.ifCond .lt 23, 3) := by decide +kernel
theorem dX10_remember_37 : decode cX10_remember 37 = .ok (.aload_n 0, 1) := by decide +kernel
theorem dX10_remember_38 : decode cX10_remember 38 = .ok (.getfield 52, 3) := by decide +kernel
theorem dX10_remember_41 : decode cX10_remember 41 = .ok (.aload_n 0, 1) := by decide +kernel
theorem dX10_remember_42 : decode cX10_remember 42 = .ok (.getfield 126, 3) := by decide +kernel
theorem dX10_remember_45 : decode cX10_remember 45 = .ok (.iload_n 1, 1) := by decide +kernel
theorem dX10_remember_46 : decode cX10_remember 46 = .ok (.iastore, 1) := by decide +kernel
theorem dX10_remember_47 : decode cX10_remember 47 = .ok (.aload_n 0, 1) := by decide +kernel
theorem dX10_remember_48 : decode cX10_remember 48 = .ok (.dup, 1) := by decide +kernel
theorem dX10_remember_49 : decode cX10_remember 49 = .ok (.getfield 126, 3) := by decide +kernel
theorem dX10_remember_52 : decode cX10_remember 52 = .ok (.iconst 1, 1) := by decide +kernel
theorem dX10_remember_53 : decode cX10_remember 53 = .ok (.iadd, 1) := by decide +kernel
theorem dX10_remember_54 : decode cX10_remember 54 = .ok (.putfield 126, 3) := by decide +kernel
theorem dX10_remember_57 : decode cX10_remember 57 = .ok (.return_, 1) := by decide +kernel
theorem dX10_ownValue_0 : decode cX10_ownValue 0 = .ok (.aload_n 0, 1) := by decide +kernel
theorem dX10_ownValue_1 : decode cX10_ownValue 1 = .ok (.getfield 19, 3) := by decide +kernel
theorem dX10_ownValue_4 : decode cX10_ownValue 4 = .ok (.iload_n 1, 1) := by decide +kernel
theorem dX10_ownValue_5 : decode cX10_ownValue 5 = .ok (.aload_n 0, 1) := by decide +kernel
theorem dX10_ownValue_6 : decode cX10_ownValue 6 = .ok (.getfield 29, 3) := by decide +kernel
theorem dX10_ownValue_9 : decode cX10_ownValue 9 = .ok (.iload_n 1, 1) := by decide +kernel
theorem dX10_ownValue_10 : decode cX10_ownValue 10 = .ok (.aload_n 0, 1) := by decide +kernel
theorem dX10_ownValue_11 : decode cX10_ownValue 11 = .ok (.getfield 19, 3) := by decide +kernel
theorem dX10_ownValue_14 : decode cX10_ownValue 14 = .ok (.getfield 129, 3) := by decide +kernel
theorem dX10_ownValue_17 : decode cX10_ownValue 17 = .ok (.invokevirtual 132, 3) := by decide +kernel
theorem dX10_ownValue_20 : decode cX10_ownValue 20 = .ok (.invokevirtual 120, 3) := by decide +kernel
theorem dX10_ownValue_23 : decode cX10_ownValue 23 = .ok (.ireturn, 1) := by decide +kernel
theorem dX10_envyOf_0 : decode cX10_envyOf 0 = .ok (.aload_n 0, 1) := by decide +kernel
theorem dX10_envyOf_1 : decode cX10_envyOf 1 = .ok (.getfield 19, 3) := by decide +kernel
theorem dX10_envyOf_4 : decode cX10_envyOf 4 = .ok (.iload_n 1, 1) := by decide +kernel
theorem dX10_envyOf_5 : decode cX10_envyOf 5 = .ok (.aload_n 0, 1) := by decide +kernel
theorem dX10_envyOf_6 : decode cX10_envyOf 6 = .ok (.getfield 29, 3) := by decide +kernel
theorem dX10_envyOf_9 : decode cX10_envyOf 9 = .ok (.iconst 1, 1) := by decide +kernel
theorem dX10_envyOf_10 : decode cX10_envyOf 10 = .ok (.iload_n 1, 1) := by decide +kernel
theorem dX10_envyOf_11 : decode cX10_envyOf 11 = .ok (.isub, 1) := by decide +kernel
theorem dX10_envyOf_12 : decode cX10_envyOf 12 = .ok (.aload_n 0, 1) := by decide +kernel
theorem dX10_envyOf_13 : decode cX10_envyOf 13 = .ok (.getfield 19, 3) := by decide +kernel
theorem dX10_envyOf_16 : decode cX10_envyOf 16 = .ok (.getfield 129, 3) := by decide +kernel
theorem dX10_envyOf_19 : decode cX10_envyOf 19 = .ok (.invokevirtual 132, 3) := by decide +kernel
theorem dX10_envyOf_22 : decode cX10_envyOf 22 = .ok (.invokevirtual 120, 3) := by decide +kernel
theorem dX10_envyOf_25 : decode cX10_envyOf 25 = .ok (.istore_n 2, 1) := by decide +kernel
theorem dX10_envyOf_26 : decode cX10_envyOf 26 = .ok (.iconst 0, 1) := by decide +kernel
theorem dX10_envyOf_27 : decode cX10_envyOf 27 = .ok (.iload_n 2, 1) := by decide +kernel
theorem dX10_envyOf_28 : decode cX10_envyOf 28 = .ok (.aload_n 0, 1) := by decide +kernel
theorem dX10_envyOf_29 : decode cX10_envyOf 29 = .ok (.iload_n 1, 1) := by decide +kernel
theorem dX10_envyOf_30 : decode cX10_envyOf 30 = .ok (.invokevirtual 277, 3) := by decide +kernel
theorem dX10_envyOf_33 : decode cX10_envyOf 33 = .ok (.isub, 1) := by decide +kernel
theorem dX10_envyOf_34 : decode cX10_envyOf 34 = .ok (.invokestatic 280, 3) := by decide +kernel
theorem dX10_envyOf_37 : decode cX10_envyOf 37 = .ok (.ireturn, 1) := by decide +kernel
theorem dX10_agrees_0 : decode cX10_agrees 0 = .ok (.iconst 0, 1) := by decide +kernel
theorem dX10_agrees_1 : decode cX10_agrees 1 = .ok (.istore_n 3, 1) := by decide +kernel
theorem dX10_agrees_2 : decode cX10_agrees 2 = .ok (.iload_n 3, 1) := by decide +kernel
theorem dX10_agrees_3 : decode cX10_agrees 3 = .ok (.aload_n 0, 1) := by decide +kernel
theorem dX10_agrees_4 : decode cX10_agrees 4 = .ok (.getfield 231, 3) := by decide +kernel
theorem dX10_agrees_7 : decode cX10_agrees 7 = .ok (.if_icmp .ge 58, 3) := by decide +kernel
theorem dX10_agrees_10 : decode cX10_agrees 10 = .ok (.iload_n 3, 1) := by decide +kernel
theorem dX10_agrees_11 : decode cX10_agrees 11 = .ok (.bipush 6, 2) := by decide +kernel
theorem dX10_agrees_13 : decode cX10_agrees 13 = .ok (.if_icmp .ge 52, 3) := by decide +kernel
theorem dX10_agrees_16 : decode cX10_agrees 16 = .ok (.aload_n 0, 1) := by decide +kernel
theorem dX10_agrees_17 : decode cX10_agrees 17 = .ok (.getfield 56, 3) := by decide +kernel
theorem dX10_agrees_20 : decode cX10_agrees 20 = .ok (.iload_n 3, 1) := by decide +kernel
theorem dX10_agrees_21 : decode cX10_agrees 21 = .ok (.iaload, 1) := by decide +kernel
theorem dX10_agrees_22 : decode cX10_agrees 22 = .ok (.iconst 1, 1) := by decide +kernel
theorem dX10_agrees_23 : decode cX10_agrees 23 = .ok (.if_icmp .ne 7, 3) := by decide +kernel
theorem dX10_agrees_26 : decode cX10_agrees 26 = .ok (.iload_n 2, 1) := by decide +kernel
theorem dX10_agrees_27 : decode cX10_agrees 27 = .ok (.goto 4, 3) := by decide +kernel
theorem dX10_agrees_30 : decode cX10_agrees 30 = .ok (.iload_n 1, 1) := by decide +kernel
theorem dX10_agrees_31 : decode cX10_agrees 31 = .ok (.istore 4, 2) := by decide +kernel
theorem dX10_agrees_33 : decode cX10_agrees 33 = .ok (.aload_n 0, 1) := by decide +kernel
theorem dX10_agrees_34 : decode cX10_agrees 34 = .ok (.getfield 19, 3) := by decide +kernel
theorem dX10_agrees_37 : decode cX10_agrees 37 = .ok (.iload 4, 2) := by decide +kernel
theorem dX10_agrees_39 : decode cX10_agrees 39 = .ok (.aload_n 0, 1) := by decide +kernel
theorem dX10_agrees_40 : decode cX10_agrees 40 = .ok (.getfield 59, 3) := by decide +kernel
theorem dX10_agrees_43 : decode cX10_agrees 43 = .ok (.iload_n 3, 1) := by decide +kernel
theorem dX10_agrees_44 : decode cX10_agrees 44 = .ok (.iaload, 1) := by decide +kernel
theorem dX10_agrees_45 : decode cX10_agrees 45 = .ok (.invokevirtual 152, 3) := by decide +kernel
theorem dX10_agrees_48 : decode cX10_agrees 48 = .ok (.aload_n 0, 1) := by decide +kernel
theorem dX10_agrees_49 : decode cX10_agrees 49 = .ok (.getfield 62, 3) := by decide +kernel
theorem dX10_agrees_52 : decode cX10_agrees 52 = .ok (.iload_n 3, 1) := by decide +kernel
theorem dX10_agrees_53 : decode cX10_agrees 53 = .ok (.iaload, 1) := by decide +kernel
theorem dX10_agrees_54 : decode cX10_agrees 54 = .ok (.if_icmp .eq 5, 3) := by decide +kernel
theorem dX10_agrees_57 : decode cX10_agrees 57 = .ok (.iconst 0, 1) := by decide +kernel
theorem dX10_agrees_58 : decode cX10_agrees 58 = .ok (.ireturn, 1) := by decide +kernel
theorem dX10_agrees_59 : decode cX10_agrees 59 = .ok (.iinc 3 1, 3) := by decide +kernel
theorem dX10_agrees_62 : decode cX10_agrees 62 = .ok (.goto (-60), 3) := by decide +kernel
theorem dX10_agrees_65 : decode cX10_agrees 65 = .ok (.iconst 1, 1) := by decide +kernel
theorem dX10_agrees_66 : decode cX10_agrees 66 = .ok (.ireturn, 1) := by decide +kernel
theorem dX10_canBeWalked_0 : decode cX10_canBeWalked 0 = .ok (.aload_n 0, 1) := by decide +kernel
theorem dX10_canBeWalked_1 : decode cX10_canBeWalked 1 = .ok (.getfield 19, 3) := by decide +kernel
theorem dX10_canBeWalked_4 : decode cX10_canBeWalked 4 = .ok (.getfield 219, 3) := by decide +kernel
theorem dX10_canBeWalked_7 : decode cX10_canBeWalked 7 = .ok (.iconst 1, 1) := by decide +kernel
theorem dX10_canBeWalked_8 : decode cX10_canBeWalked 8 = .ok (.iadd, 1) := by decide +kernel
theorem dX10_canBeWalked_9 : decode cX10_canBeWalked 9 = .ok (.istore_n 3, 1) := by decide +kernel
theorem dX10_canBeWalked_10 : decode cX10_canBeWalked 10 = .ok (.iload_n 1, 1) := by decide +kernel
theorem dX10_canBeWalked_11 : decode cX10_canBeWalked 11 = .ok (.iload_n 2, 1) := by decide +kernel
theorem dX10_canBeWalked_12 : decode cX10_canBeWalked 12 = .ok (.iconst 1, 1) := by decide +kernel
theorem dX10_canBeWalked_13 : decode cX10_canBeWalked 13 = .ok (.iadd, 1) := by decide +kernel
theorem dX10_canBeWalked_14 : decode cX10_canBeWalked 14 = .ok (.iload_n 3, 1) := by decide +kernel
theorem dX10_canBeWalked_15 : decode cX10_canBeWalked 15 = .ok (.imul, 1) := by decide +kernel
theorem dX10_canBeWalked_16 : decode cX10_canBeWalked 16 = .ok (.if_icmp .gt 16, 3) := by decide +kernel
theorem dX10_canBeWalked_19 : decode cX10_canBeWalked 19 = .ok (.iload_n 2, 1) := by decide +kernel
theorem dX10_canBeWalked_20 : decode cX10_canBeWalked 20 = .ok (.iload_n 1, 1) := by decide +kernel
theorem dX10_canBeWalked_21 : decode cX10_canBeWalked 21 = .ok (.iconst 1, 1) := by decide +kernel
theorem dX10_canBeWalked_22 : decode cX10_canBeWalked 22 = .ok (.iadd, 1) := by decide +kernel
theorem dX10_canBeWalked_23 : decode cX10_canBeWalked 23 = .ok (.iload_n 3, 1) := by decide +kernel
theorem dX10_canBeWalked_24 : decode cX10_canBeWalked 24 = .ok (.imul, 1) := by decide +kernel
theorem dX10_canBeWalked_25 : decode cX10_canBeWalked 25 = .ok (.if_icmp .gt 7, 3) := by decide +kernel
theorem dX10_canBeWalked_28 : decode cX10_canBeWalked 28 = .ok (.iconst 1, 1) := by decide +kernel
theorem dX10_canBeWalked_29 : decode cX10_canBeWalked 29 = .ok (.goto 4, 3) := by decide +kernel
theorem dX10_canBeWalked_32 : decode cX10_canBeWalked 32 = .ok (.iconst 0, 1) := by decide +kernel
theorem dX10_canBeWalked_33 : decode cX10_canBeWalked 33 = .ok (.ireturn, 1) := by decide +kernel
theorem dX10_power_0 : decode cX10_power 0 = .ok (.iconst 1, 1) := by decide +kernel
theorem dX10_power_1 : decode cX10_power 1 = .ok (.istore_n 2, 1) := by decide +kernel
theorem dX10_power_2 : decode cX10_power 2 = .ok (.iconst 0, 1) := by decide +kernel
theorem dX10_power_3 : decode cX10_power 3 = .ok (.istore_n 3, 1) := by decide +kernel
theorem dX10_power_4 : decode cX10_power 4 = .ok (.iload_n 3, 1) := by decide +kernel
theorem dX10_power_5 : decode cX10_power 5 = .ok (.iload_n 1, 1) := by decide +kernel
theorem dX10_power_6 : decode cX10_power 6 = .ok (.if_icmp .ge 19, 3) := by decide +kernel
theorem dX10_power_9 : decode cX10_power 9 = .ok (.iload_n 3, 1) := by decide +kernel
theorem dX10_power_10 : decode cX10_power 10 = .ok (.bipush 6, 2) := by decide +kernel
theorem dX10_power_12 : decode cX10_power 12 = .ok (.if_icmp .ge 13, 3) := by decide +kernel
theorem dX10_power_15 : decode cX10_power 15 = .ok (.iload_n 2, 1) := by decide +kernel
theorem dX10_power_16 : decode cX10_power 16 = .ok (.iload_n 0, 1) := by decide +kernel
theorem dX10_power_17 : decode cX10_power 17 = .ok (.imul, 1) := by decide +kernel
theorem dX10_power_18 : decode cX10_power 18 = .ok (.istore_n 2, 1) := by decide +kernel
theorem dX10_power_19 : decode cX10_power 19 = .ok (.iinc 3 1, 3) := by decide +kernel
theorem dX10_power_22 : decode cX10_power 22 = .ok (.goto (-18), 3) := by decide +kernel
theorem dX10_power_25 : decode cX10_power 25 = .ok (.iload_n 2, 1) := by decide +kernel
theorem dX10_power_26 : decode cX10_power 26 = .ok (.ireturn, 1) := by decide +kernel
theorem dX10_greatestDivisor_0 : decode cX10_greatestDivisor 0 = .ok (.iload_n 0, 1) := by decide +kernel
theorem dX10_greatestDivisor_1 : decode cX10_greatestDivisor 1 = .ok (.istore_n 2, 1) := by decide +kernel
theorem dX10_greatestDivisor_2 : decode cX10_greatestDivisor 2 = .ok (.iload_n 1, 1) := by decide +kernel
theorem dX10_greatestDivisor_3 : decode cX10_greatestDivisor 3 = .ok (.istore_n 3, 1) := by decide +kernel
theorem dX10_greatestDivisor_4 : decode cX10_greatestDivisor 4 = .ok (.iconst 0, 1) := by decide +kernel
theorem dX10_greatestDivisor_5 : decode cX10_greatestDivisor 5 = .ok (.istore 4, 2) := by decide +kernel
theorem dX10_greatestDivisor_7 : decode cX10_greatestDivisor 7 = .ok (.iload 4, 2) := by decide +kernel
theorem dX10_greatestDivisor_9 : decode cX10_greatestDivisor 9 = .ok (.ldc_w 285, 3) := by decide +kernel
theorem dX10_greatestDivisor_12 : decode cX10_greatestDivisor 12 = .ok (.if_icmp .ge 23, 3) := by decide +kernel
theorem dX10_greatestDivisor_15 : decode cX10_greatestDivisor 15 = .ok (.iload_n 3, 1) := by decide +kernel
theorem dX10_greatestDivisor_16 : decode cX10_greatestDivisor 16 = .ok (.ifCond .le 19, 3) := by decide +kernel
theorem dX10_greatestDivisor_19 : decode cX10_greatestDivisor 19 = .ok (.iload_n 2, 1) := by decide +kernel
theorem dX10_greatestDivisor_20 : decode cX10_greatestDivisor 20 = .ok (.iload_n 3, 1) := by decide +kernel
theorem dX10_greatestDivisor_21 : decode cX10_greatestDivisor 21 = .ok (.irem, 1) := by decide +kernel
theorem dX10_greatestDivisor_22 : decode cX10_greatestDivisor 22 = .ok (.istore 5, 2) := by decide +kernel
theorem dX10_greatestDivisor_24 : decode cX10_greatestDivisor 24 = .ok (.iload_n 3, 1) := by decide +kernel
theorem dX10_greatestDivisor_25 : decode cX10_greatestDivisor 25 = .ok (.istore_n 2, 1) := by decide +kernel
theorem dX10_greatestDivisor_26 : decode cX10_greatestDivisor 26 = .ok (.iload 5, 2) := by decide +kernel
theorem dX10_greatestDivisor_28 : decode cX10_greatestDivisor 28 = .ok (.istore_n 3, 1) := by decide +kernel
theorem dX10_greatestDivisor_29 : decode cX10_greatestDivisor 29 = .ok (.iinc 4 1, 3) := by decide +kernel
theorem dX10_greatestDivisor_32 : decode cX10_greatestDivisor 32 = .ok (.goto (-25), 3) := by decide +kernel
theorem dX10_greatestDivisor_35 : decode cX10_greatestDivisor 35 = .ok (.iload_n 2, 1) := by decide +kernel
theorem dX10_greatestDivisor_36 : decode cX10_greatestDivisor 36 = .ok (.ireturn, 1) := by decide +kernel
theorem dX11_init_0 : decode cX11_init 0 = .ok (.aload_n 0, 1) := by decide +kernel
theorem dX11_init_1 : decode cX11_init 1 = .ok (.invokespecial 1, 3) := by decide +kernel
theorem dX11_init_4 : decode cX11_init 4 = .ok (.aload_n 0, 1) := by decide +kernel
theorem dX11_init_5 : decode cX11_init 5 = .ok (.bipush 32, 2) := by decide +kernel
theorem dX11_init_7 : decode cX11_init 7 = .ok (.newarray .int, 2) := by decide +kernel
theorem dX11_init_9 : decode cX11_init 9 = .ok (.putfield 7, 3) := by decide +kernel
theorem dX11_init_12 : decode cX11_init 12 = .ok (.aload_n 0, 1) := by decide +kernel
theorem dX11_init_13 : decode cX11_init 13 = .ok (.bipush 32, 2) := by decide +kernel
theorem dX11_init_15 : decode cX11_init 15 = .ok (.newarray .int, 2) := by decide +kernel
theorem dX11_init_17 : decode cX11_init 17 = .ok (.putfield 13, 3) := by decide +kernel
theorem dX11_init_20 : decode cX11_init 20 = .ok (.aload_n 0, 1) := by decide +kernel
theorem dX11_init_21 : decode cX11_init 21 = .ok (.bipush 9, 2) := by decide +kernel
theorem dX11_init_23 : decode cX11_init 23 = .ok (.newarray .int, 2) := by decide +kernel
theorem dX11_init_25 : decode cX11_init 25 = .ok (.putfield 16, 3) := by decide +kernel
theorem dX11_init_28 : decode cX11_init 28 = .ok (.aload_n 0, 1) := by decide +kernel
theorem dX11_init_29 : decode cX11_init 29 = .ok (.bipush 90, 2) := by decide +kernel
theorem dX11_init_31 : decode cX11_init 31 = .ok (.newarray .int, 2) := by decide +kernel
theorem dX11_init_33 : decode cX11_init 33 = .ok (.putfield 19, 3) := by decide +kernel
theorem dX11_init_36 : decode cX11_init 36 = .ok (.aload_n 0, 1) := by decide +kernel
theorem dX11_init_37 : decode cX11_init 37 = .ok (.bipush 18, 2) := by decide +kernel
theorem dX11_init_39 : decode cX11_init 39 = .ok (.newarray .int, 2) := by decide +kernel
theorem dX11_init_41 : decode cX11_init 41 = .ok (.putfield 22, 3) := by decide +kernel
theorem dX11_init_44 : decode cX11_init 44 = .ok (.aload_n 0, 1) := by decide +kernel
theorem dX11_init_45 : decode cX11_init 45 = .ok (.iconst 2, 1) := by decide +kernel
theorem dX11_init_46 : decode cX11_init 46 = .ok (.newarray .boolean, 2) := by decide +kernel
theorem dX11_init_48 : decode cX11_init 48 = .ok (.putfield 25, 3) := by decide +kernel
theorem dX11_init_51 : decode cX11_init 51 = .ok (.aload_n 0, 1) := by decide +kernel
theorem dX11_init_52 : decode cX11_init 52 = .ok (.sipush 200, 3) := by decide +kernel
theorem dX11_init_55 : decode cX11_init 55 = .ok (.newarray .int, 2) := by decide +kernel
theorem dX11_init_57 : decode cX11_init 57 = .ok (.putfield 29, 3) := by decide +kernel
theorem dX11_init_60 : decode cX11_init 60 = .ok (.aload_n 0, 1) := by decide +kernel
theorem dX11_init_61 : decode cX11_init 61 = .ok (.bipush 18, 2) := by decide +kernel
theorem dX11_init_63 : decode cX11_init 63 = .ok (.newarray .int, 2) := by decide +kernel
theorem dX11_init_65 : decode cX11_init 65 = .ok (.putfield 32, 3) := by decide +kernel
theorem dX11_init_68 : decode cX11_init 68 = .ok (.aload_n 0, 1) := by decide +kernel
theorem dX11_init_69 : decode cX11_init 69 = .ok (.sipush 4096, 3) := by decide +kernel
theorem dX11_init_72 : decode cX11_init 72 = .ok (.newarray .int, 2) := by decide +kernel
theorem dX11_init_74 : decode cX11_init 74 = .ok (.putfield 35, 3) := by decide +kernel
theorem dX11_init_77 : decode cX11_init 77 = .ok (.aload_n 0, 1) := by decide +kernel
theorem dX11_init_78 : decode cX11_init 78 = .ok (.sipush 4096, 3) := by decide +kernel
theorem dX11_init_81 : decode cX11_init 81 = .ok (.newarray .int, 2) := by decide +kernel
theorem dX11_init_83 : decode cX11_init 83 = .ok (.putfield 38, 3) := by decide +kernel
theorem dX11_init_86 : decode cX11_init 86 = .ok (.aload_n 0, 1) := by decide +kernel
theorem dX11_init_87 : decode cX11_init 87 = .ok (.sipush 4096, 3) := by decide +kernel
theorem dX11_init_90 : decode cX11_init 90 = .ok (.newarray .int, 2) := by decide +kernel
theorem dX11_init_92 : decode cX11_init 92 = .ok (.putfield 41, 3) := by decide +kernel
theorem dX11_init_95 : decode cX11_init 95 = .ok (.aload_n 0, 1) := by decide +kernel
theorem dX11_init_96 : decode cX11_init 96 = .ok (.sipush 1000, 3) := by decide +kernel
theorem dX11_init_99 : decode cX11_init 99 = .ok (.newarray .boolean, 2) := by decide +kernel
theorem dX11_init_101 : decode cX11_init 101 = .ok (.putfield 44, 3) := by decide +kernel
theorem dX11_init_104 : decode cX11_init 104 = .ok (.aload_n 0, 1) := by decide +kernel
theorem dX11_init_105 : decode cX11_init 105 = .ok (.sipush 1000, 3) := by decide +kernel
theorem dX11_init_108 : decode cX11_init 108 = .ok (.newarray .boolean, 2) := by decide +kernel
theorem dX11_init_110 : decode cX11_init 110 = .ok (.putfield 47, 3) := by decide +kernel
theorem dX11_init_113 : decode cX11_init 113 = .ok (.aload_n 0, 1) := by decide +kernel
theorem dX11_init_114 : decode cX11_init 114 = .ok (.getfield 7, 3) := by decide +kernel
theorem dX11_init_117 : decode cX11_init 117 = .ok (.invokestatic 50, 3) := by decide +kernel
theorem dX11_init_120 : decode cX11_init 120 = .ok (.aload_n 0, 1) := by decide +kernel
theorem dX11_init_121 : decode cX11_init 121 = .ok (.invokevirtual 54, 3) := by decide +kernel
theorem dX11_init_124 : decode cX11_init 124 = .ok (.return_, 1) := by decide +kernel
theorem dX11_in_0 : decode cX11_in 0 = .ok (.lload_n 0, 1) := by decide +kernel
theorem dX11_in_1 : decode cX11_in 1 = .ok (.lload_n 2, 1) := by decide +kernel
theorem dX11_in_2 : decode cX11_in 2 = .ok (.lcmp, 1) := by decide +kernel
theorem dX11_in_3 : decode cX11_in 3 = .ok (.ifCond .lt 14, 3) := by decide +kernel
theorem dX11_in_6 : decode cX11_in 6 = .ok (.lload_n 0, 1) := by decide +kernel
theorem dX11_in_7 : decode cX11_in 7 = .ok (.lload 4, 2) := by decide +kernel
theorem dX11_in_9 : decode cX11_in 9 = .ok (.lcmp, 1) := by decide +kernel
theorem dX11_in_10 : decode cX11_in 10 = .ok (.ifCond .gt 7, 3) := by decide +kernel
theorem dX11_in_13 : decode cX11_in 13 = .ok (.iconst 1, 1) := by decide +kernel
theorem dX11_in_14 : decode cX11_in 14 = .ok (.goto 4, 3) := by decide +kernel
theorem dX11_in_17 : decode cX11_in 17 = .ok (.iconst 0, 1) := by decide +kernel
theorem dX11_in_18 : decode cX11_in 18 = .ok (.ireturn, 1) := by decide +kernel
theorem dX11_isTwo_0 : decode cX11_isTwo 0 = .ok (.iload_n 0, 1) := by decide +kernel
theorem dX11_isTwo_1 : decode cX11_isTwo 1 = .ok (.i2l, 1) := by decide +kernel
theorem dX11_isTwo_2 : decode cX11_isTwo 2 = .ok (.lconst 0, 1) := by decide +kernel
theorem dX11_isTwo_3 : decode cX11_isTwo 3 = .ok (.lconst 1, 1) := by decide +kernel
theorem dX11_isTwo_4 : decode cX11_isTwo 4 = .ok (.invokestatic 57, 3) := by decide +kernel
theorem dX11_isTwo_7 : decode cX11_isTwo 7 = .ok (.ireturn, 1) := by decide +kernel
theorem dX11_has_0 : decode cX11_has 0 = .ok (.iload_n 0, 1) := by decide +kernel
theorem dX11_has_1 : decode cX11_has 1 = .ok (.iload_n 1, 1) := by decide +kernel
theorem dX11_has_2 : decode cX11_has 2 = .ok (.ishr, 1) := by decide +kernel
theorem dX11_has_3 : decode cX11_has 3 = .ok (.iconst 1, 1) := by decide +kernel
theorem dX11_has_4 : decode cX11_has 4 = .ok (.iand, 1) := by decide +kernel
theorem dX11_has_5 : decode cX11_has 5 = .ok (.iconst 1, 1) := by decide +kernel
theorem dX11_has_6 : decode cX11_has 6 = .ok (.if_icmp .ne 7, 3) := by decide +kernel
theorem dX11_has_9 : decode cX11_has 9 = .ok (.iconst 1, 1) := by decide +kernel
theorem dX11_has_10 : decode cX11_has 10 = .ok (.goto 4, 3) := by decide +kernel
theorem dX11_has_13 : decode cX11_has 13 = .ok (.iconst 0, 1) := by decide +kernel
theorem dX11_has_14 : decode cX11_has 14 = .ok (.ireturn, 1) := by decide +kernel
theorem dX11_bits_0 : decode cX11_bits 0 = .ok (.iconst 0, 1) := by decide +kernel
theorem dX11_bits_1 : decode cX11_bits 1 = .ok (.istore_n 1, 1) := by decide +kernel
theorem dX11_bits_2 : decode cX11_bits 2 = .ok (.iload_n 0, 1) := by decide +kernel
theorem dX11_bits_3 : decode cX11_bits 3 = .ok (.istore_n 2, 1) := by decide +kernel
theorem dX11_bits_4 : decode cX11_bits 4 = .ok (.iload_n 2, 1) := by decide +kernel
theorem dX11_bits_5 : decode cX11_bits 5 = .ok (.ifCond .eq 15, 3) := by decide +kernel
theorem dX11_bits_8 : decode cX11_bits 8 = .ok (.iinc 1 1, 3) := by decide +kernel
theorem dX11_bits_11 : decode cX11_bits 11 = .ok (.iload_n 2, 1) := by decide +kernel
theorem dX11_bits_12 : decode cX11_bits 12 = .ok (.iload_n 2, 1) := by decide +kernel
theorem dX11_bits_13 : decode cX11_bits 13 = .ok (.iconst 1, 1) := by decide +kernel
theorem dX11_bits_14 : decode cX11_bits 14 = .ok (.isub, 1) := by decide +kernel
theorem dX11_bits_15 : decode cX11_bits 15 = .ok (.iand, 1) := by decide +kernel
theorem dX11_bits_16 : decode cX11_bits 16 = .ok (.istore_n 2, 1) := by decide +kernel
theorem dX11_bits_17 : decode cX11_bits 17 = .ok (.goto (-13), 3) := by decide +kernel
theorem dX11_bits_20 : decode cX11_bits 20 = .ok (.iload_n 1, 1) := by decide +kernel
theorem dX11_bits_21 : decode cX11_bits 21 = .ok (.ireturn, 1) := by decide +kernel
theorem dX11_clean_0 : decode cX11_clean 0 = .ok (.iconst 0, 1) := by decide +kernel
theorem dX11_clean_1 : decode cX11_clean 1 = .ok (.istore_n 1, 1) := by decide +kernel
theorem dX11_clean_2 : decode cX11_clean 2 = .ok (.iload_n 1, 1) := by decide +kernel
theorem dX11_clean_3 : decode cX11_clean 3 = .ok (.bipush 32, 2) := by decide +kernel
theorem dX11_clean_5 : decode cX11_clean 5 = .ok (.if_icmp .ge 13, 3) := by decide +kernel
theorem dX11_clean_8 : decode cX11_clean 8 = .ok (.aload_n 0, 1) := by decide +kernel
theorem dX11_clean_9 : decode cX11_clean 9 = .ok (.iload_n 1, 1) := by decide +kernel
theorem dX11_clean_10 : decode cX11_clean 10 = .ok (.iconst 0, 1) := by decide +kernel
theorem dX11_clean_11 : decode cX11_clean 11 = .ok (.iastore, 1) := by decide +kernel
theorem dX11_clean_12 : decode cX11_clean 12 = .ok (.iinc 1 1, 3) := by decide +kernel
theorem dX11_clean_15 : decode cX11_clean 15 = .ok (.goto (-13), 3) := by decide +kernel
theorem dX11_clean_18 : decode cX11_clean 18 = .ok (.aload_n 0, 1) := by decide +kernel
theorem dX11_clean_19 : decode cX11_clean 19 = .ok (.iconst 2, 1) := by decide +kernel
theorem dX11_clean_20 : decode cX11_clean 20 = .ok (.iconst 1, 1) := by decide +kernel
theorem dX11_clean_21 : decode cX11_clean 21 = .ok (.iastore, 1) := by decide +kernel
theorem dX11_clean_22 : decode cX11_clean 22 = .ok (.aload_n 0, 1) := by decide +kernel
theorem dX11_clean_23 : decode cX11_clean 23 = .ok (.iconst 3, 1) := by decide +kernel
theorem dX11_clean_24 : decode cX11_clean 24 = .ok (.bipush 6, 2) := by decide +kernel
theorem dX11_clean_26 : decode cX11_clean 26 = .ok (.iastore, 1) := by decide +kernel
theorem dX11_clean_27 : decode cX11_clean 27 = .ok (.return_, 1) := by decide +kernel
theorem dX11_begins_0 : decode cX11_begins 0 = .ok (.iconst 0, 1) := by decide +kernel
theorem dX11_begins_1 : decode cX11_begins 1 = .ok (.istore_n 1, 1) := by decide +kernel
theorem dX11_begins_2 : decode cX11_begins 2 = .ok (.iload_n 1, 1) := by decide +kernel
theorem dX11_begins_3 : decode cX11_begins 3 = .ok (.bipush 9, 2) := by decide +kernel
theorem dX11_begins_5 : decode cX11_begins 5 = .ok (.if_icmp .ge 26, 3) := by decide +kernel
theorem dX11_begins_8 : decode cX11_begins 8 = .ok (.aload_n 0, 1) := by decide +kernel
theorem dX11_begins_9 : decode cX11_begins 9 = .ok (.getfield 16, 3) := by decide +kernel
theorem dX11_begins_12 : decode cX11_begins 12 = .ok (.iload_n 1, 1) := by decide +kernel
theorem dX11_begins_13 : decode cX11_begins 13 = .ok (.iload_n 1, 1) := by decide +kernel
theorem dX11_begins_14 : decode cX11_begins 14 = .ok (.bipush 6, 2) := by decide +kernel
theorem dX11_begins_16 : decode cX11_begins 16 = .ok (.if_icmp .ge 7, 3) := by decide +kernel
theorem dX11_begins_19 : decode cX11_begins 19 = .ok (.iconst 2, 1) := by decide +kernel
theorem dX11_begins_20 : decode cX11_begins 20 = .ok (.goto 4, 3) := by decide +kernel
theorem dX11_begins_23 : decode cX11_begins 23 = .ok (.iconst 0, 1) := by decide +kernel
theorem dX11_begins_24 : decode cX11_begins 24 = .ok (.iastore, 1) := by decide +kernel
theorem dX11_begins_25 : decode cX11_begins 25 = .ok (.iinc 1 1, 3) := by decide +kernel
theorem dX11_begins_28 : decode cX11_begins 28 = .ok (.goto (-26), 3) := by decide +kernel
theorem dX11_begins_31 : decode cX11_begins 31 = .ok (.aload_n 0, 1) := by decide +kernel
theorem dX11_begins_32 : decode cX11_begins 32 = .ok (.iconst 0, 1) := by decide +kernel
theorem dX11_begins_33 : decode cX11_begins 33 = .ok (.putfield 61, 3) := by decide +kernel
theorem dX11_begins_36 : decode cX11_begins 36 = .ok (.aload_n 0, 1) := by decide +kernel
theorem dX11_begins_37 : decode cX11_begins 37 = .ok (.iconst 0, 1) := by decide +kernel
theorem dX11_begins_38 : decode cX11_begins 38 = .ok (.putfield 65, 3) := by decide +kernel
theorem dX11_begins_41 : decode cX11_begins 41 = .ok (.aload_n 0, 1) := by decide +kernel
theorem dX11_begins_42 : decode cX11_begins 42 = .ok (.getfield 25, 3) := by decide +kernel
theorem dX11_begins_45 : decode cX11_begins 45 = .ok (.iconst 0, 1) := by decide +kernel
theorem dX11_begins_46 : decode cX11_begins 46 = .ok (.iconst 0, 1) := by decide +kernel
theorem dX11_begins_47 : decode cX11_begins 47 = .ok (.bastore, 1) := by decide +kernel
theorem dX11_begins_48 : decode cX11_begins 48 = .ok (.aload_n 0, 1) := by decide +kernel
theorem dX11_begins_49 : decode cX11_begins 49 = .ok (.getfield 25, 3) := by decide +kernel
theorem dX11_begins_52 : decode cX11_begins 52 = .ok (.iconst 1, 1) := by decide +kernel
theorem dX11_begins_53 : decode cX11_begins 53 = .ok (.iconst 0, 1) := by decide +kernel
theorem dX11_begins_54 : decode cX11_begins 54 = .ok (.bastore, 1) := by decide +kernel
theorem dX11_begins_55 : decode cX11_begins 55 = .ok (.return_, 1) := by decide +kernel
theorem dX11_type_0 : decode cX11_type 0 = .ok (.iload_n 1, 1) := by decide +kernel
theorem dX11_type_1 : decode cX11_type 1 = .ok (.i2l, 1) := by decide +kernel
theorem dX11_type_2 : decode cX11_type 2 = .ok (.lconst 0, 1) := by decide +kernel
theorem dX11_type_3 : decode cX11_type 3 = .ok (.ldc2_w 68, 3) := by decide +kernel
theorem dX11_type_6 : decode cX11_type 6 = .ok (.invokestatic 57, 3) := by decide +kernel
theorem dX11_type_9 : decode cX11_type 9 = .ok (.ifCond .ne 5, 3) := by decide +kernel
theorem dX11_type_12 : decode cX11_type 12 = .ok (.iconst (-1), 1) := by decide +kernel
theorem dX11_type_13 : decode cX11_type 13 = .ok (.ireturn, 1) := by decide +kernel
theorem dX11_type_14 : decode cX11_type 14 = .ok (.aload_n 0, 1) := by decide +kernel
theorem dX11_type_15 : decode cX11_type 15 = .ok (.getfield 70, 3) := by decide +kernel
theorem dX11_type_18 : decode cX11_type 18 = .ok (.sipush 200, 3) := by decide +kernel
theorem dX11_type_21 : decode cX11_type 21 = .ok (.if_icmp .ne 6, 3) := by decide +kernel
theorem dX11_type_24 : decode cX11_type 24 = .ok (.bipush (-3), 2) := by decide +kernel
theorem dX11_type_26 : decode cX11_type 26 = .ok (.ireturn, 1) := by decide +kernel
theorem dX11_type_27 : decode cX11_type 27 = .ok (.aload_n 0, 1) := by decide +kernel
theorem dX11_type_28 : decode cX11_type 28 = .ok (.getfield 29, 3) := by decide +kernel
theorem dX11_type_31 : decode cX11_type 31 = .ok (.aload_n 0, 1) := by decide +kernel
theorem dX11_type_32 : decode cX11_type 32 = .ok (.getfield 70, 3) := by decide +kernel
theorem dX11_type_35 : decode cX11_type 35 = .ok (.iload_n 1, 1) := by decide +kernel
theorem dX11_type_36 : decode cX11_type 36 = .ok (.iastore, 1) := by decide +kernel
theorem dX11_type_37 : decode cX11_type 37 = .ok (.aload_n 0, 1) := by decide +kernel
theorem dX11_type_38 : decode cX11_type 38 = .ok (.dup, 1) := by decide +kernel
theorem dX11_type_39 : decode cX11_type 39 = .ok (.getfield 70, 3) := by decide +kernel
theorem dX11_type_42 : decode cX11_type 42 = .ok (.iconst 1, 1) := by decide +kernel
theorem dX11_type_43 : decode cX11_type 43 = .ok (.iadd, 1) := by decide +kernel
theorem dX11_type_44 : decode cX11_type 44 = .ok (.putfield 70, 3) := by decide +kernel
theorem dX11_type_47 : decode cX11_type 47 = .ok (.aload_n 0, 1) := by decide +kernel
theorem dX11_type_48 : decode cX11_type 48 = .ok (.getfield 70, 3) := by decide +kernel
theorem dX11_type_51 : decode cX11_type 51 = .ok (.ireturn, 1) := by decide +kernel
theorem dX11_clear_0 : decode cX11_clear 0 = .ok (.aload_n 0, 1) := by decide +kernel
theorem dX11_clear_1 : decode cX11_clear 1 = .ok (.getfield 70, 3) := by decide +kernel
theorem dX11_clear_4 : decode cX11_clear 4 = .ok (.istore_n 1, 1) := by decide +kernel
theorem dX11_clear_5 : decode cX11_clear 5 = .ok (.aload_n 0, 1) := by decide +kernel
theorem dX11_clear_6 : decode cX11_clear 6 = .ok (.iconst 0, 1) := by decide +kernel
theorem dX11_clear_7 : decode cX11_clear 7 = .ok (.putfield 70, 3) := by decide +kernel
theorem dX11_clear_10 : decode cX11_clear 10 = .ok (.iload_n 1, 1) := by decide +kernel
theorem dX11_clear_11 : decode cX11_clear 11 = .ok (.ireturn, 1) := by decide +kernel
end
section
theorem dX11_first_0 : decode cX11_first 0 = .ok (.aload_n 0, 1) := by decide +kernel
theorem dX11_first_1 : decode cX11_first 1 = .ok (.getfield 73, 3) := by decide +kernel
theorem dX11_first_4 : decode cX11_first 4 = .ok (.aload_n 0, 1) := by decide +kernel
theorem dX11_first_5 : decode cX11_first 5 = .ok (.getfield 70, 3) := by decide +kernel
theorem dX11_first_8 : decode cX11_first 8 = .ok (.if_icmp .ge 30, 3) := by decide +kernel
theorem dX11_first_11 : decode cX11_first 11 = .ok (.aload_n 0, 1) := by decide +kernel
theorem dX11_first_12 : decode cX11_first 12 = .ok (.getfield 29, 3) := by decide +kernel
theorem dX11_first_15 : decode cX11_first 15 = .ok (.aload_n 0, 1) := by decide +kernel
theorem dX11_first_16 : decode cX11_first 16 = .ok (.getfield 73, 3) := by decide +kernel
theorem dX11_first_19 : decode cX11_first 19 = .ok (.iaload, 1) := by decide +kernel
theorem dX11_first_20 : decode cX11_first 20 = .ok (.bipush 32, 2) := by decide +kernel
theorem dX11_first_22 : decode cX11_first 22 = .ok (.if_icmp .ne 16, 3) := by decide +kernel
theorem dX11_first_25 : decode cX11_first 25 = .ok (.aload_n 0, 1) := by decide +kernel
theorem dX11_first_26 : decode cX11_first 26 = .ok (.dup, 1) := by decide +kernel
theorem dX11_first_27 : decode cX11_first 27 = .ok (.getfield 73, 3) := by decide +kernel
theorem dX11_first_30 : decode cX11_first 30 = .ok (.iconst 1, 1) := by decide +kernel
theorem dX11_first_31 : decode cX11_first 31 = .ok (.iadd, 1) := by decide +kernel
theorem dX11_first_32 : decode cX11_first 32 = .ok (.putfield 73, 3) := by decide +kernel
theorem dX11_first_35 : decode cX11_first 35 = .ok (.goto (-35), 3) := by decide +kernel
theorem dX11_first_38 : decode cX11_first 38 = .ok (.aload_n 0, 1) := by decide +kernel
theorem dX11_first_39 : decode cX11_first 39 = .ok (.aload_n 0, 1) := by decide +kernel
theorem dX11_first_40 : decode cX11_first 40 = .ok (.getfield 73, 3) := by decide +kernel
theorem dX11_first_43 : decode cX11_first 43 = .ok (.putfield 76, 3) := by decide +kernel
theorem dX11_first_46 : decode cX11_first 46 = .ok (.aload_n 0, 1) := by decide +kernel
theorem dX11_first_47 : decode cX11_first 47 = .ok (.getfield 73, 3) := by decide +kernel
theorem dX11_first_50 : decode cX11_first 50 = .ok (.aload_n 0, 1) := by decide +kernel
theorem dX11_first_51 : decode cX11_first 51 = .ok (.getfield 70, 3) := by decide +kernel
theorem dX11_first_54 : decode cX11_first 54 = .ok (.if_icmp .ge 15, 3) := by decide +kernel
theorem dX11_first_57 : decode cX11_first 57 = .ok (.aload_n 0, 1) := by decide +kernel
theorem dX11_first_58 : decode cX11_first 58 = .ok (.getfield 29, 3) := by decide +kernel
theorem dX11_first_61 : decode cX11_first 61 = .ok (.aload_n 0, 1) := by decide +kernel
theorem dX11_first_62 : decode cX11_first 62 = .ok (.getfield 73, 3) := by decide +kernel
theorem dX11_first_65 : decode cX11_first 65 = .ok (.iaload, 1) := by decide +kernel
theorem dX11_first_66 : decode cX11_first 66 = .ok (.goto 4, 3) := by decide +kernel
theorem dX11_first_69 : decode cX11_first 69 = .ok (.iconst (-1), 1) := by decide +kernel
theorem dX11_first_70 : decode cX11_first 70 = .ok (.ireturn, 1) := by decide +kernel
theorem dX11_number_0 : decode cX11_number 0 = .ok (.aload_n 0, 1) := by decide +kernel
theorem dX11_number_1 : decode cX11_number 1 = .ok (.invokevirtual 79, 3) := by decide +kernel
theorem dX11_number_4 : decode cX11_number 4 = .ok (.istore 4, 2) := by decide +kernel
theorem dX11_number_6 : decode cX11_number 6 = .ok (.iload 4, 2) := by decide +kernel
theorem dX11_number_8 : decode cX11_number 8 = .ok (.i2l, 1) := by decide +kernel
theorem dX11_number_9 : decode cX11_number 9 = .ok (.ldc2_w 83, 3) := by decide +kernel
theorem dX11_number_12 : decode cX11_number 12 = .ok (.ldc2_w 85, 3) := by decide +kernel
theorem dX11_number_15 : decode cX11_number 15 = .ok (.invokestatic 57, 3) := by decide +kernel
theorem dX11_number_18 : decode cX11_number 18 = .ok (.ifCond .ne 5, 3) := by decide +kernel
theorem dX11_number_21 : decode cX11_number 21 = .ok (.iconst 0, 1) := by decide +kernel
theorem dX11_number_22 : decode cX11_number 22 = .ok (.ireturn, 1) := by decide +kernel
theorem dX11_number_23 : decode cX11_number 23 = .ok (.iconst 0, 1) := by decide +kernel
theorem dX11_number_24 : decode cX11_number 24 = .ok (.istore 5, 2) := by decide +kernel
theorem dX11_number_26 : decode cX11_number 26 = .ok (.aload_n 0, 1) := by decide +kernel
theorem dX11_number_27 : decode cX11_number 27 = .ok (.getfield 73, 3) := by decide +kernel
theorem dX11_number_30 : decode cX11_number 30 = .ok (.aload_n 0, 1) := by decide +kernel
theorem dX11_number_31 : decode cX11_number 31 = .ok (.getfield 70, 3) := by decide +kernel
theorem dX11_number_34 : decode cX11_number 34 = .ok (.if_icmp .ge 70, 3) := by decide +kernel
theorem dX11_number_37 : decode cX11_number 37 = .ok (.aload_n 0, 1) := by decide +kernel
theorem dX11_number_38 : decode cX11_number 38 = .ok (.getfield 29, 3) := by decide +kernel
theorem dX11_number_41 : decode cX11_number 41 = .ok (.aload_n 0, 1) := by decide +kernel
theorem dX11_number_42 : decode cX11_number 42 = .ok (.getfield 73, 3) := by decide +kernel
theorem dX11_number_45 : decode cX11_number 45 = .ok (.iaload, 1) := by decide +kernel
theorem dX11_number_46 : decode cX11_number 46 = .ok (.i2l, 1) := by decide +kernel
theorem dX11_number_47 : decode cX11_number 47 = .ok (.ldc2_w 83, 3) := by decide +kernel
theorem dX11_number_50 : decode cX11_number 50 = .ok (.ldc2_w 85, 3) := by decide +kernel
theorem dX11_number_53 : decode cX11_number 53 = .ok (.invokestatic 57, 3) := by decide +kernel
theorem dX11_number_56 : decode cX11_number 56 = .ok (.ifCond .eq 48, 3) := by decide +kernel
theorem dX11_number_59 : decode cX11_number 59 = .ok (.iload 5, 2) := by decide +kernel
theorem dX11_number_61 : decode cX11_number 61 = .ok (.bipush 99, 2) := by decide +kernel
theorem dX11_number_63 : decode cX11_number 63 = .ok (.if_icmp .le 8, 3) := by decide +kernel
theorem dX11_number_66 : decode cX11_number 66 = .ok (.iload 5, 2) := by decide +kernel
theorem dX11_number_68 : decode cX11_number 68 = .ok (.goto 21, 3) := by decide +kernel
theorem dX11_number_71 : decode cX11_number 71 = .ok (.bipush 10, 2) := by decide +kernel
theorem dX11_number_73 : decode cX11_number 73 = .ok (.iload 5, 2) := by decide +kernel
theorem dX11_number_75 : decode cX11_number 75 = .ok (.imul, 1) := by decide +kernel
theorem dX11_number_76 : decode cX11_number 76 = .ok (.aload_n 0, 1) := by decide +kernel
theorem dX11_number_77 : decode cX11_number 77 = .ok (.getfield 29, 3) := by decide +kernel
theorem dX11_number_80 : decode cX11_number 80 = .ok (.aload_n 0, 1) := by decide +kernel
theorem dX11_number_81 : decode cX11_number 81 = .ok (.getfield 73, 3) := by decide +kernel
theorem dX11_number_84 : decode cX11_number 84 = .ok (.iaload, 1) := by decide +kernel
theorem dX11_number_85 : decode cX11_number 85 = .ok (.iadd, 1) := by decide +kernel
theorem dX11_number_86 : decode cX11_number 86 = .ok (.bipush 48, 2) := by decide +kernel
theorem dX11_number_88 : decode cX11_number 88 = .ok (.isub, 1) := by decide +kernel
theorem dX11_number_89 : decode cX11_number 89 = .ok (.istore 5, 2) := by decide +kernel
theorem dX11_number_91 : decode cX11_number 91 = .ok (.aload_n 0, 1) := by decide +kernel
theorem dX11_number_92 : decode cX11_number 92 = .ok (.dup, 1) := by decide +kernel
theorem dX11_number_93 : decode cX11_number 93 = .ok (.getfield 73, 3) := by decide +kernel
theorem dX11_number_96 : decode cX11_number 96 = .ok (.iconst 1, 1) := by decide +kernel
theorem dX11_number_97 : decode cX11_number 97 = .ok (.iadd, 1) := by decide +kernel
theorem dX11_number_98 : decode cX11_number 98 = .ok (.putfield 73, 3) := by decide +kernel
theorem dX11_number_101 : decode cX11_number 101 = .ok (.goto (-75), 3) := by decide +kernel
theorem dX11_number_104 : decode cX11_number 104 = .ok (.iload 4, 2) := by decide +kernel
theorem dX11_number_106 : decode cX11_number 106 = .ok (.bipush 48, 2) := by decide +kernel
theorem dX11_number_108 : decode cX11_number 108 = .ok (.if_icmp .ne 16, 3) := by decide +kernel
theorem dX11_number_111 : decode cX11_number 111 = .ok (.aload_n 0, 1) := by decide +kernel
theorem dX11_number_112 : decode cX11_number 112 = .ok (.getfield 73, 3) := by decide +kernel
theorem dX11_number_115 : decode cX11_number 115 = .ok (.aload_n 0, 1) := by decide +kernel
theorem dX11_number_116 : decode cX11_number 116 = .ok (.getfield 76, 3) := by decide +kernel
theorem dX11_number_119 : decode cX11_number 119 = .ok (.isub, 1) := by decide +kernel
theorem dX11_number_120 : decode cX11_number 120 = .ok (.iconst 1, 1) := by decide +kernel
theorem dX11_number_121 : decode cX11_number 121 = .ok (.if_icmp .gt 16, 3) := by decide +kernel
theorem dX11_number_124 : decode cX11_number 124 = .ok (.iload 5, 2) := by decide +kernel
theorem dX11_number_126 : decode cX11_number 126 = .ok (.i2l, 1) := by decide +kernel
theorem dX11_number_127 : decode cX11_number 127 = .ok (.iload_n 2, 1) := by decide +kernel
theorem dX11_number_128 : decode cX11_number 128 = .ok (.i2l, 1) := by decide +kernel
theorem dX11_number_129 : decode cX11_number 129 = .ok (.iload_n 3, 1) := by decide +kernel
theorem dX11_number_130 : decode cX11_number 130 = .ok (.i2l, 1) := by decide +kernel
theorem dX11_number_131 : decode cX11_number 131 = .ok (.invokestatic 57, 3) := by decide +kernel
theorem dX11_number_134 : decode cX11_number 134 = .ok (.ifCond .ne 5, 3) := by decide +kernel
theorem dX11_number_137 : decode cX11_number 137 = .ok (.iconst 0, 1) := by decide +kernel
theorem dX11_number_138 : decode cX11_number 138 = .ok (.ireturn, 1) := by decide +kernel
theorem dX11_number_139 : decode cX11_number 139 = .ok (.aload_n 0, 1) := by decide +kernel
theorem dX11_number_140 : decode cX11_number 140 = .ok (.getfield 13, 3) := by decide +kernel
theorem dX11_number_143 : decode cX11_number 143 = .ok (.iload_n 1, 1) := by decide +kernel
theorem dX11_number_144 : decode cX11_number 144 = .ok (.iload 5, 2) := by decide +kernel
theorem dX11_number_146 : decode cX11_number 146 = .ok (.iastore, 1) := by decide +kernel
theorem dX11_number_147 : decode cX11_number 147 = .ok (.iconst 1, 1) := by decide +kernel
theorem dX11_number_148 : decode cX11_number 148 = .ok (.ireturn, 1) := by decide +kernel
theorem dX11_ends_0 : decode cX11_ends 0 = .ok (.aload_n 0, 1) := by decide +kernel
theorem dX11_ends_1 : decode cX11_ends 1 = .ok (.invokevirtual 79, 3) := by decide +kernel
theorem dX11_ends_4 : decode cX11_ends 4 = .ok (.bipush 59, 2) := by decide +kernel
theorem dX11_ends_6 : decode cX11_ends 6 = .ok (.if_icmp .eq 5, 3) := by decide +kernel
theorem dX11_ends_9 : decode cX11_ends 9 = .ok (.iconst 0, 1) := by decide +kernel
theorem dX11_ends_10 : decode cX11_ends 10 = .ok (.ireturn, 1) := by decide +kernel
theorem dX11_ends_11 : decode cX11_ends 11 = .ok (.aload_n 0, 1) := by decide +kernel
theorem dX11_ends_12 : decode cX11_ends 12 = .ok (.dup, 1) := by decide +kernel
theorem dX11_ends_13 : decode cX11_ends 13 = .ok (.getfield 73, 3) := by decide +kernel
theorem dX11_ends_16 : decode cX11_ends 16 = .ok (.iconst 1, 1) := by decide +kernel
theorem dX11_ends_17 : decode cX11_ends 17 = .ok (.iadd, 1) := by decide +kernel
theorem dX11_ends_18 : decode cX11_ends 18 = .ok (.putfield 73, 3) := by decide +kernel
theorem dX11_ends_21 : decode cX11_ends 21 = .ok (.iconst 1, 1) := by decide +kernel
theorem dX11_ends_22 : decode cX11_ends 22 = .ok (.ireturn, 1) := by decide +kernel
theorem dX11_takesGood_0 : decode cX11_takesGood 0 = .ok (.aload_n 0, 1) := by decide +kernel
theorem dX11_takesGood_1 : decode cX11_takesGood 1 = .ok (.getfield 13, 3) := by decide +kernel
theorem dX11_takesGood_4 : decode cX11_takesGood 4 = .ok (.iconst 0, 1) := by decide +kernel
theorem dX11_takesGood_5 : decode cX11_takesGood 5 = .ok (.iaload, 1) := by decide +kernel
theorem dX11_takesGood_6 : decode cX11_takesGood 6 = .ok (.istore_n 1, 1) := by decide +kernel
theorem dX11_takesGood_7 : decode cX11_takesGood 7 = .ok (.iload_n 1, 1) := by decide +kernel
theorem dX11_takesGood_8 : decode cX11_takesGood 8 = .ok (.bipush 6, 2) := by decide +kernel
theorem dX11_takesGood_10 : decode cX11_takesGood 10 = .ok (.if_icmp .ne 5, 3) := by decide +kernel
theorem dX11_takesGood_13 : decode cX11_takesGood 13 = .ok (.iconst 0, 1) := by decide +kernel
theorem dX11_takesGood_14 : decode cX11_takesGood 14 = .ok (.ireturn, 1) := by decide +kernel
theorem dX11_takesGood_15 : decode cX11_takesGood 15 = .ok (.aload_n 0, 1) := by decide +kernel
theorem dX11_takesGood_16 : decode cX11_takesGood 16 = .ok (.dup, 1) := by decide +kernel
theorem dX11_takesGood_17 : decode cX11_takesGood 17 = .ok (.getfield 73, 3) := by decide +kernel
theorem dX11_takesGood_20 : decode cX11_takesGood 20 = .ok (.iconst 1, 1) := by decide +kernel
theorem dX11_takesGood_21 : decode cX11_takesGood 21 = .ok (.iadd, 1) := by decide +kernel
theorem dX11_takesGood_22 : decode cX11_takesGood 22 = .ok (.putfield 73, 3) := by decide +kernel
theorem dX11_takesGood_25 : decode cX11_takesGood 25 = .ok (.aload_n 0, 1) := by decide +kernel
theorem dX11_takesGood_26 : decode cX11_takesGood 26 = .ok (.iconst 4, 1) := by decide +kernel
theorem dX11_takesGood_27 : decode cX11_takesGood 27 = .ok (.iload_n 1, 1) := by decide +kernel
theorem dX11_takesGood_28 : decode cX11_takesGood 28 = .ok (.iadd, 1) := by decide +kernel
theorem dX11_takesGood_29 : decode cX11_takesGood 29 = .ok (.iconst 0, 1) := by decide +kernel
theorem dX11_takesGood_30 : decode cX11_takesGood 30 = .ok (.bipush 20, 2) := by decide +kernel
theorem dX11_takesGood_32 : decode cX11_takesGood 32 = .ok (.invokevirtual 87, 3) := by decide +kernel
theorem dX11_takesGood_35 : decode cX11_takesGood 35 = .ok (.ifCond .eq 17, 3) := by decide +kernel
theorem dX11_takesGood_38 : decode cX11_takesGood 38 = .ok (.aload_n 0, 1) := by decide +kernel
theorem dX11_takesGood_39 : decode cX11_takesGood 39 = .ok (.bipush 10, 2) := by decide +kernel
theorem dX11_takesGood_41 : decode cX11_takesGood 41 = .ok (.iload_n 1, 1) := by decide +kernel
theorem dX11_takesGood_42 : decode cX11_takesGood 42 = .ok (.iadd, 1) := by decide +kernel
theorem dX11_takesGood_43 : decode cX11_takesGood 43 = .ok (.iconst 0, 1) := by decide +kernel
theorem dX11_takesGood_44 : decode cX11_takesGood 44 = .ok (.bipush 20, 2) := by decide +kernel
theorem dX11_takesGood_46 : decode cX11_takesGood 46 = .ok (.invokevirtual 87, 3) := by decide +kernel
theorem dX11_takesGood_49 : decode cX11_takesGood 49 = .ok (.ifCond .ne 5, 3) := by decide +kernel
theorem dX11_takesGood_52 : decode cX11_takesGood 52 = .ok (.iconst 0, 1) := by decide +kernel
theorem dX11_takesGood_53 : decode cX11_takesGood 53 = .ok (.ireturn, 1) := by decide +kernel
theorem dX11_takesGood_54 : decode cX11_takesGood 54 = .ok (.aload_n 0, 1) := by decide +kernel
theorem dX11_takesGood_55 : decode cX11_takesGood 55 = .ok (.getfield 13, 3) := by decide +kernel
theorem dX11_takesGood_58 : decode cX11_takesGood 58 = .ok (.iconst 0, 1) := by decide +kernel
theorem dX11_takesGood_59 : decode cX11_takesGood 59 = .ok (.dup2, 1) := by decide +kernel
theorem dX11_takesGood_60 : decode cX11_takesGood 60 = .ok (.iaload, 1) := by decide +kernel
theorem dX11_takesGood_61 : decode cX11_takesGood 61 = .ok (.iconst 1, 1) := by decide +kernel
theorem dX11_takesGood_62 : decode cX11_takesGood 62 = .ok (.iadd, 1) := by decide +kernel
theorem dX11_takesGood_63 : decode cX11_takesGood 63 = .ok (.iastore, 1) := by decide +kernel
theorem dX11_takesGood_64 : decode cX11_takesGood 64 = .ok (.aload_n 0, 1) := by decide +kernel
theorem dX11_takesGood_65 : decode cX11_takesGood 65 = .ok (.invokevirtual 91, 3) := by decide +kernel
theorem dX11_takesGood_68 : decode cX11_takesGood 68 = .ok (.ireturn, 1) := by decide +kernel
theorem dX11_takesPair_0 : decode cX11_takesPair 0 = .ok (.aload_n 0, 1) := by decide +kernel
theorem dX11_takesPair_1 : decode cX11_takesPair 1 = .ok (.getfield 13, 3) := by decide +kernel
theorem dX11_takesPair_4 : decode cX11_takesPair 4 = .ok (.iconst 1, 1) := by decide +kernel
theorem dX11_takesPair_5 : decode cX11_takesPair 5 = .ok (.iaload, 1) := by decide +kernel
theorem dX11_takesPair_6 : decode cX11_takesPair 6 = .ok (.istore_n 1, 1) := by decide +kernel
theorem dX11_takesPair_7 : decode cX11_takesPair 7 = .ok (.iload_n 1, 1) := by decide +kernel
theorem dX11_takesPair_8 : decode cX11_takesPair 8 = .ok (.iconst 4, 1) := by decide +kernel
theorem dX11_takesPair_9 : decode cX11_takesPair 9 = .ok (.if_icmp .ne 5, 3) := by decide +kernel
theorem dX11_takesPair_12 : decode cX11_takesPair 12 = .ok (.iconst 0, 1) := by decide +kernel
theorem dX11_takesPair_13 : decode cX11_takesPair 13 = .ok (.ireturn, 1) := by decide +kernel
theorem dX11_takesPair_14 : decode cX11_takesPair 14 = .ok (.aload_n 0, 1) := by decide +kernel
theorem dX11_takesPair_15 : decode cX11_takesPair 15 = .ok (.dup, 1) := by decide +kernel
theorem dX11_takesPair_16 : decode cX11_takesPair 16 = .ok (.getfield 73, 3) := by decide +kernel
theorem dX11_takesPair_19 : decode cX11_takesPair 19 = .ok (.iconst 1, 1) := by decide +kernel
theorem dX11_takesPair_20 : decode cX11_takesPair 20 = .ok (.iadd, 1) := by decide +kernel
theorem dX11_takesPair_21 : decode cX11_takesPair 21 = .ok (.putfield 73, 3) := by decide +kernel
theorem dX11_takesPair_24 : decode cX11_takesPair 24 = .ok (.aload_n 0, 1) := by decide +kernel
theorem dX11_takesPair_25 : decode cX11_takesPair 25 = .ok (.getfield 13, 3) := by decide +kernel
theorem dX11_takesPair_28 : decode cX11_takesPair 28 = .ok (.iconst 0, 1) := by decide +kernel
theorem dX11_takesPair_29 : decode cX11_takesPair 29 = .ok (.iaload, 1) := by decide +kernel
theorem dX11_takesPair_30 : decode cX11_takesPair 30 = .ok (.iconst 1, 1) := by decide +kernel
theorem dX11_takesPair_31 : decode cX11_takesPair 31 = .ok (.isub, 1) := by decide +kernel
theorem dX11_takesPair_32 : decode cX11_takesPair 32 = .ok (.istore_n 2, 1) := by decide +kernel
theorem dX11_takesPair_33 : decode cX11_takesPair 33 = .ok (.aload_n 0, 1) := by decide +kernel
theorem dX11_takesPair_34 : decode cX11_takesPair 34 = .ok (.bipush 16, 2) := by decide +kernel
theorem dX11_takesPair_36 : decode cX11_takesPair 36 = .ok (.iload_n 1, 1) := by decide +kernel
theorem dX11_takesPair_37 : decode cX11_takesPair 37 = .ok (.iadd, 1) := by decide +kernel
theorem dX11_takesPair_38 : decode cX11_takesPair 38 = .ok (.iconst 0, 1) := by decide +kernel
theorem dX11_takesPair_39 : decode cX11_takesPair 39 = .ok (.iload_n 2, 1) := by decide +kernel
theorem dX11_takesPair_40 : decode cX11_takesPair 40 = .ok (.invokevirtual 87, 3) := by decide +kernel
theorem dX11_takesPair_43 : decode cX11_takesPair 43 = .ok (.ifCond .eq 65, 3) := by decide +kernel
theorem dX11_takesPair_46 : decode cX11_takesPair 46 = .ok (.aload_n 0, 1) := by decide +kernel
theorem dX11_takesPair_47 : decode cX11_takesPair 47 = .ok (.bipush 20, 2) := by decide +kernel
theorem dX11_takesPair_49 : decode cX11_takesPair 49 = .ok (.iload_n 1, 1) := by decide +kernel
theorem dX11_takesPair_50 : decode cX11_takesPair 50 = .ok (.iadd, 1) := by decide +kernel
theorem dX11_takesPair_51 : decode cX11_takesPair 51 = .ok (.iconst 0, 1) := by decide +kernel
theorem dX11_takesPair_52 : decode cX11_takesPair 52 = .ok (.iload_n 2, 1) := by decide +kernel
theorem dX11_takesPair_53 : decode cX11_takesPair 53 = .ok (.invokevirtual 87, 3) := by decide +kernel
theorem dX11_takesPair_56 : decode cX11_takesPair 56 = .ok (.ifCond .eq 52, 3) := by decide +kernel
theorem dX11_takesPair_59 : decode cX11_takesPair 59 = .ok (.aload_n 0, 1) := by decide +kernel
theorem dX11_takesPair_60 : decode cX11_takesPair 60 = .ok (.getfield 13, 3) := by decide +kernel
theorem dX11_takesPair_63 : decode cX11_takesPair 63 = .ok (.bipush 20, 2) := by decide +kernel
theorem dX11_takesPair_65 : decode cX11_takesPair 65 = .ok (.iload_n 1, 1) := by decide +kernel
theorem dX11_takesPair_66 : decode cX11_takesPair 66 = .ok (.iadd, 1) := by decide +kernel
theorem dX11_takesPair_67 : decode cX11_takesPair 67 = .ok (.iaload, 1) := by decide +kernel
theorem dX11_takesPair_68 : decode cX11_takesPair 68 = .ok (.aload_n 0, 1) := by decide +kernel
theorem dX11_takesPair_69 : decode cX11_takesPair 69 = .ok (.getfield 13, 3) := by decide +kernel
theorem dX11_takesPair_72 : decode cX11_takesPair 72 = .ok (.bipush 16, 2) := by decide +kernel
theorem dX11_takesPair_74 : decode cX11_takesPair 74 = .ok (.iload_n 1, 1) := by decide +kernel
theorem dX11_takesPair_75 : decode cX11_takesPair 75 = .ok (.iadd, 1) := by decide +kernel
theorem dX11_takesPair_76 : decode cX11_takesPair 76 = .ok (.iaload, 1) := by decide +kernel
theorem dX11_takesPair_77 : decode cX11_takesPair 77 = .ok (.if_icmp .eq 31, 3) := by decide +kernel
theorem dX11_takesPair_80 : decode cX11_takesPair 80 = .ok (.aload_n 0, 1) := by decide +kernel
theorem dX11_takesPair_81 : decode cX11_takesPair 81 = .ok (.bipush 24, 2) := by decide +kernel
theorem dX11_takesPair_83 : decode cX11_takesPair 83 = .ok (.iload_n 1, 1) := by decide +kernel
theorem dX11_takesPair_84 : decode cX11_takesPair 84 = .ok (.iadd, 1) := by decide +kernel
theorem dX11_takesPair_85 : decode cX11_takesPair 85 = .ok (.iconst 0, 1) := by decide +kernel
theorem dX11_takesPair_86 : decode cX11_takesPair 86 = .ok (.bipush 20, 2) := by decide +kernel
theorem dX11_takesPair_88 : decode cX11_takesPair 88 = .ok (.invokevirtual 87, 3) := by decide +kernel
theorem dX11_takesPair_91 : decode cX11_takesPair 91 = .ok (.ifCond .eq 17, 3) := by decide +kernel
theorem dX11_takesPair_94 : decode cX11_takesPair 94 = .ok (.aload_n 0, 1) := by decide +kernel
theorem dX11_takesPair_95 : decode cX11_takesPair 95 = .ok (.bipush 28, 2) := by decide +kernel
theorem dX11_takesPair_97 : decode cX11_takesPair 97 = .ok (.iload_n 1, 1) := by decide +kernel
theorem dX11_takesPair_98 : decode cX11_takesPair 98 = .ok (.iadd, 1) := by decide +kernel
theorem dX11_takesPair_99 : decode cX11_takesPair 99 = .ok (.iconst 0, 1) := by decide +kernel
theorem dX11_takesPair_100 : decode cX11_takesPair 100 = .ok (.bipush 20, 2) := by decide +kernel
theorem dX11_takesPair_102 : decode cX11_takesPair 102 = .ok (.invokevirtual 87, 3) := by decide +kernel
theorem dX11_takesPair_105 : decode cX11_takesPair 105 = .ok (.ifCond .ne 5, 3) := by decide +kernel
theorem dX11_takesPair_108 : decode cX11_takesPair 108 = .ok (.iconst 0, 1) := by decide +kernel
theorem dX11_takesPair_109 : decode cX11_takesPair 109 = .ok (.ireturn, 1) := by decide +kernel
theorem dX11_takesPair_110 : decode cX11_takesPair 110 = .ok (.aload_n 0, 1) := by decide +kernel
theorem dX11_takesPair_111 : decode cX11_takesPair 111 = .ok (.getfield 13, 3) := by decide +kernel
theorem dX11_takesPair_114 : decode cX11_takesPair 114 = .ok (.iconst 1, 1) := by decide +kernel
theorem dX11_takesPair_115 : decode cX11_takesPair 115 = .ok (.dup2, 1) := by decide +kernel
theorem dX11_takesPair_116 : decode cX11_takesPair 116 = .ok (.iaload, 1) := by decide +kernel
theorem dX11_takesPair_117 : decode cX11_takesPair 117 = .ok (.iconst 1, 1) := by decide +kernel
theorem dX11_takesPair_118 : decode cX11_takesPair 118 = .ok (.iadd, 1) := by decide +kernel
theorem dX11_takesPair_119 : decode cX11_takesPair 119 = .ok (.iastore, 1) := by decide +kernel
theorem dX11_takesPair_120 : decode cX11_takesPair 120 = .ok (.aload_n 0, 1) := by decide +kernel
theorem dX11_takesPair_121 : decode cX11_takesPair 121 = .ok (.invokevirtual 91, 3) := by decide +kernel
theorem dX11_takesPair_124 : decode cX11_takesPair 124 = .ok (.ireturn, 1) := by decide +kernel
theorem dX11_takesOne_0 : decode cX11_takesOne 0 = .ok (.aload_n 0, 1) := by decide +kernel
theorem dX11_takesOne_1 : decode cX11_takesOne 1 = .ok (.getfield 94, 3) := by decide +kernel
theorem dX11_takesOne_4 : decode cX11_takesOne 4 = .ok (.iload_n 1, 1) := by decide +kernel
theorem dX11_takesOne_5 : decode cX11_takesOne 5 = .ok (.invokestatic 97, 3) := by decide +kernel
theorem dX11_takesOne_8 : decode cX11_takesOne 8 = .ok (.ifCond .eq 5, 3) := by decide +kernel
theorem dX11_takesOne_11 : decode cX11_takesOne 11 = .ok (.iconst 0, 1) := by decide +kernel
theorem dX11_takesOne_12 : decode cX11_takesOne 12 = .ok (.ireturn, 1) := by decide +kernel
theorem dX11_takesOne_13 : decode cX11_takesOne 13 = .ok (.aload_n 0, 1) := by decide +kernel
theorem dX11_takesOne_14 : decode cX11_takesOne 14 = .ok (.dup, 1) := by decide +kernel
theorem dX11_takesOne_15 : decode cX11_takesOne 15 = .ok (.getfield 73, 3) := by decide +kernel
theorem dX11_takesOne_18 : decode cX11_takesOne 18 = .ok (.iconst 1, 1) := by decide +kernel
theorem dX11_takesOne_19 : decode cX11_takesOne 19 = .ok (.iadd, 1) := by decide +kernel
theorem dX11_takesOne_20 : decode cX11_takesOne 20 = .ok (.putfield 73, 3) := by decide +kernel
theorem dX11_takesOne_23 : decode cX11_takesOne 23 = .ok (.aload_n 0, 1) := by decide +kernel
theorem dX11_takesOne_24 : decode cX11_takesOne 24 = .ok (.dup, 1) := by decide +kernel
theorem dX11_takesOne_25 : decode cX11_takesOne 25 = .ok (.getfield 94, 3) := by decide +kernel
theorem dX11_takesOne_28 : decode cX11_takesOne 28 = .ok (.iconst 1, 1) := by decide +kernel
theorem dX11_takesOne_29 : decode cX11_takesOne 29 = .ok (.iload_n 1, 1) := by decide +kernel
theorem dX11_takesOne_30 : decode cX11_takesOne 30 = .ok (.ishl, 1) := by decide +kernel
theorem dX11_takesOne_31 : decode cX11_takesOne 31 = .ok (.ior, 1) := by decide +kernel
theorem dX11_takesOne_32 : decode cX11_takesOne 32 = .ok (.putfield 94, 3) := by decide +kernel
theorem dX11_takesOne_35 : decode cX11_takesOne 35 = .ok (.aload_n 0, 1) := by decide +kernel
theorem dX11_takesOne_36 : decode cX11_takesOne 36 = .ok (.iload_n 1, 1) := by decide +kernel
theorem dX11_takesOne_37 : decode cX11_takesOne 37 = .ok (.iload_n 2, 1) := by decide +kernel
theorem dX11_takesOne_38 : decode cX11_takesOne 38 = .ok (.iload_n 3, 1) := by decide +kernel
theorem dX11_takesOne_39 : decode cX11_takesOne 39 = .ok (.invokevirtual 87, 3) := by decide +kernel
theorem dX11_takesOne_42 : decode cX11_takesOne 42 = .ok (.ifCond .eq 14, 3) := by decide +kernel
theorem dX11_takesOne_45 : decode cX11_takesOne 45 = .ok (.aload_n 0, 1) := by decide +kernel
theorem dX11_takesOne_46 : decode cX11_takesOne 46 = .ok (.invokevirtual 91, 3) := by decide +kernel
theorem dX11_takesOne_49 : decode cX11_takesOne 49 = .ok (.ifCond .eq 7, 3) := by decide +kernel
theorem dX11_takesOne_52 : decode cX11_takesOne 52 = .ok (.iconst 1, 1) := by decide +kernel
theorem dX11_takesOne_53 : decode cX11_takesOne 53 = .ok (.goto 4, 3) := by decide +kernel
theorem dX11_takesOne_56 : decode cX11_takesOne 56 = .ok (.iconst 0, 1) := by decide +kernel
theorem dX11_takesOne_57 : decode cX11_takesOne 57 = .ok (.ireturn, 1) := by decide +kernel
theorem dX11_takesItem_0 : decode cX11_takesItem 0 = .ok (.iload_n 1, 1) := by decide +kernel
theorem dX11_takesItem_1 : decode cX11_takesItem 1 = .ok (.lookupswitch 70 #[(99, 61), (103, 43), (104, 53), (112, 48)], 43) := by decide +kernel
theorem dX11_takesItem_44 : decode cX11_takesItem 44 = .ok (.aload_n 0, 1) := by decide +kernel
theorem dX11_takesItem_45 : decode cX11_takesItem 45 = .ok (.invokevirtual 101, 3) := by decide +kernel
theorem dX11_takesItem_48 : decode cX11_takesItem 48 = .ok (.ireturn, 1) := by decide +kernel
theorem dX11_takesItem_49 : decode cX11_takesItem 49 = .ok (.aload_n 0, 1) := by decide +kernel
theorem dX11_takesItem_50 : decode cX11_takesItem 50 = .ok (.invokevirtual 104, 3) := by decide +kernel
theorem dX11_takesItem_53 : decode cX11_takesItem 53 = .ok (.ireturn, 1) := by decide +kernel
theorem dX11_takesItem_54 : decode cX11_takesItem 54 = .ok (.aload_n 0, 1) := by decide +kernel
theorem dX11_takesItem_55 : decode cX11_takesItem 55 = .ok (.iconst 2, 1) := by decide +kernel
theorem dX11_takesItem_56 : decode cX11_takesItem 56 = .ok (.iconst 0, 1) := by decide +kernel
theorem dX11_takesItem_57 : decode cX11_takesItem 57 = .ok (.iconst 3, 1) := by decide +kernel
theorem dX11_takesItem_58 : decode cX11_takesItem 58 = .ok (.invokevirtual 107, 3) := by decide +kernel
theorem dX11_takesItem_61 : decode cX11_takesItem 61 = .ok (.ireturn, 1) := by decide +kernel
theorem dX11_takesItem_62 : decode cX11_takesItem 62 = .ok (.aload_n 0, 1) := by decide +kernel
theorem dX11_takesItem_63 : decode cX11_takesItem 63 = .ok (.iconst 3, 1) := by decide +kernel
theorem dX11_takesItem_64 : decode cX11_takesItem 64 = .ok (.iconst 1, 1) := by decide +kernel
theorem dX11_takesItem_65 : decode cX11_takesItem 65 = .ok (.bipush 6, 2) := by decide +kernel
theorem dX11_takesItem_67 : decode cX11_takesItem 67 = .ok (.invokevirtual 107, 3) := by decide +kernel
theorem dX11_takesItem_70 : decode cX11_takesItem 70 = .ok (.ireturn, 1) := by decide +kernel
theorem dX11_takesItem_71 : decode cX11_takesItem 71 = .ok (.iconst 0, 1) := by decide +kernel
theorem dX11_takesItem_72 : decode cX11_takesItem 72 = .ok (.ireturn, 1) := by decide +kernel
theorem dX11_suit_0 : decode cX11_suit 0 = .ok (.aload_n 0, 1) := by decide +kernel
theorem dX11_suit_1 : decode cX11_suit 1 = .ok (.getfield 13, 3) := by decide +kernel
theorem dX11_suit_4 : decode cX11_suit 4 = .ok (.invokestatic 50, 3) := by decide +kernel
theorem dX11_suit_7 : decode cX11_suit 7 = .ok (.aload_n 0, 1) := by decide +kernel
theorem dX11_suit_8 : decode cX11_suit 8 = .ok (.iconst 0, 1) := by decide +kernel
theorem dX11_suit_9 : decode cX11_suit 9 = .ok (.putfield 73, 3) := by decide +kernel
theorem dX11_suit_12 : decode cX11_suit 12 = .ok (.aload_n 0, 1) := by decide +kernel
theorem dX11_suit_13 : decode cX11_suit 13 = .ok (.iconst 0, 1) := by decide +kernel
theorem dX11_suit_14 : decode cX11_suit 14 = .ok (.putfield 94, 3) := by decide +kernel
theorem dX11_suit_17 : decode cX11_suit 17 = .ok (.iconst 0, 1) := by decide +kernel
theorem dX11_suit_18 : decode cX11_suit 18 = .ok (.istore_n 1, 1) := by decide +kernel
theorem dX11_suit_19 : decode cX11_suit 19 = .ok (.aload_n 0, 1) := by decide +kernel
theorem dX11_suit_20 : decode cX11_suit 20 = .ok (.invokevirtual 79, 3) := by decide +kernel
theorem dX11_suit_23 : decode cX11_suit 23 = .ok (.istore_n 2, 1) := by decide +kernel
theorem dX11_suit_24 : decode cX11_suit 24 = .ok (.iload_n 2, 1) := by decide +kernel
theorem dX11_suit_25 : decode cX11_suit 25 = .ok (.ifCond .lt 30, 3) := by decide +kernel
theorem dX11_suit_28 : decode cX11_suit 28 = .ok (.aload_n 0, 1) := by decide +kernel
theorem dX11_suit_29 : decode cX11_suit 29 = .ok (.iload_n 2, 1) := by decide +kernel
theorem dX11_suit_30 : decode cX11_suit 30 = .ok (.invokevirtual 110, 3) := by decide +kernel
theorem dX11_suit_33 : decode cX11_suit 33 = .ok (.ifCond .ne 11, 3) := by decide +kernel
theorem dX11_suit_36 : decode cX11_suit 36 = .ok (.bipush (-10), 2) := by decide +kernel
theorem dX11_suit_38 : decode cX11_suit 38 = .ok (.aload_n 0, 1) := by decide +kernel
theorem dX11_suit_39 : decode cX11_suit 39 = .ok (.getfield 76, 3) := by decide +kernel
theorem dX11_suit_42 : decode cX11_suit 42 = .ok (.isub, 1) := by decide +kernel
theorem dX11_suit_43 : decode cX11_suit 43 = .ok (.ireturn, 1) := by decide +kernel
theorem dX11_suit_44 : decode cX11_suit 44 = .ok (.iinc 1 1, 3) := by decide +kernel
theorem dX11_suit_47 : decode cX11_suit 47 = .ok (.aload_n 0, 1) := by decide +kernel
theorem dX11_suit_48 : decode cX11_suit 48 = .ok (.invokevirtual 79, 3) := by decide +kernel
theorem dX11_suit_51 : decode cX11_suit 51 = .ok (.istore_n 2, 1) := by decide +kernel
theorem dX11_suit_52 : decode cX11_suit 52 = .ok (.goto (-28), 3) := by decide +kernel
theorem dX11_suit_55 : decode cX11_suit 55 = .ok (.iconst 0, 1) := by decide +kernel
theorem dX11_suit_56 : decode cX11_suit 56 = .ok (.istore_n 3, 1) := by decide +kernel
theorem dX11_suit_57 : decode cX11_suit 57 = .ok (.iload_n 3, 1) := by decide +kernel
theorem dX11_suit_58 : decode cX11_suit 58 = .ok (.bipush 32, 2) := by decide +kernel
theorem dX11_suit_60 : decode cX11_suit 60 = .ok (.if_icmp .ge 21, 3) := by decide +kernel
theorem dX11_suit_63 : decode cX11_suit 63 = .ok (.aload_n 0, 1) := by decide +kernel
theorem dX11_suit_64 : decode cX11_suit 64 = .ok (.getfield 7, 3) := by decide +kernel
theorem dX11_suit_67 : decode cX11_suit 67 = .ok (.iload_n 3, 1) := by decide +kernel
theorem dX11_suit_68 : decode cX11_suit 68 = .ok (.aload_n 0, 1) := by decide +kernel
theorem dX11_suit_69 : decode cX11_suit 69 = .ok (.getfield 13, 3) := by decide +kernel
theorem dX11_suit_72 : decode cX11_suit 72 = .ok (.iload_n 3, 1) := by decide +kernel
theorem dX11_suit_73 : decode cX11_suit 73 = .ok (.iaload, 1) := by decide +kernel
theorem dX11_suit_74 : decode cX11_suit 74 = .ok (.iastore, 1) := by decide +kernel
theorem dX11_suit_75 : decode cX11_suit 75 = .ok (.iinc 3 1, 3) := by decide +kernel
theorem dX11_suit_78 : decode cX11_suit 78 = .ok (.goto (-21), 3) := by decide +kernel
theorem dX11_suit_81 : decode cX11_suit 81 = .ok (.aload_n 0, 1) := by decide +kernel
theorem dX11_suit_82 : decode cX11_suit 82 = .ok (.iconst 0, 1) := by decide +kernel
theorem dX11_suit_83 : decode cX11_suit 83 = .ok (.putfield 70, 3) := by decide +kernel
theorem dX11_suit_86 : decode cX11_suit 86 = .ok (.aload_n 0, 1) := by decide +kernel
theorem dX11_suit_87 : decode cX11_suit 87 = .ok (.invokevirtual 54, 3) := by decide +kernel
theorem dX11_suit_90 : decode cX11_suit 90 = .ok (.iload_n 1, 1) := by decide +kernel
theorem dX11_suit_91 : decode cX11_suit 91 = .ok (.ireturn, 1) := by decide +kernel
theorem dX11_isGood_0 : decode cX11_isGood 0 = .ok (.iload_n 1, 1) := by decide +kernel
theorem dX11_isGood_1 : decode cX11_isGood 1 = .ok (.i2l, 1) := by decide +kernel
theorem dX11_isGood_2 : decode cX11_isGood 2 = .ok (.lconst 0, 1) := by decide +kernel
theorem dX11_isGood_3 : decode cX11_isGood 3 = .ok (.aload_n 0, 1) := by decide +kernel
theorem dX11_isGood_4 : decode cX11_isGood 4 = .ok (.getfield 7, 3) := by decide +kernel
theorem dX11_isGood_7 : decode cX11_isGood 7 = .ok (.iconst 0, 1) := by decide +kernel
theorem dX11_isGood_8 : decode cX11_isGood 8 = .ok (.iaload, 1) := by decide +kernel
theorem dX11_isGood_9 : decode cX11_isGood 9 = .ok (.iconst 1, 1) := by decide +kernel
theorem dX11_isGood_10 : decode cX11_isGood 10 = .ok (.isub, 1) := by decide +kernel
theorem dX11_isGood_11 : decode cX11_isGood 11 = .ok (.i2l, 1) := by decide +kernel
theorem dX11_isGood_12 : decode cX11_isGood 12 = .ok (.invokestatic 57, 3) := by decide +kernel
theorem dX11_isGood_15 : decode cX11_isGood 15 = .ok (.ireturn, 1) := by decide +kernel
theorem dX11_all_0 : decode cX11_all 0 = .ok (.iconst 1, 1) := by decide +kernel
theorem dX11_all_1 : decode cX11_all 1 = .ok (.aload_n 0, 1) := by decide +kernel
theorem dX11_all_2 : decode cX11_all 2 = .ok (.getfield 7, 3) := by decide +kernel
theorem dX11_all_5 : decode cX11_all 5 = .ok (.iconst 0, 1) := by decide +kernel
theorem dX11_all_6 : decode cX11_all 6 = .ok (.iaload, 1) := by decide +kernel
theorem dX11_all_7 : decode cX11_all 7 = .ok (.ishl, 1) := by decide +kernel
theorem dX11_all_8 : decode cX11_all 8 = .ok (.iconst 1, 1) := by decide +kernel
theorem dX11_all_9 : decode cX11_all 9 = .ok (.isub, 1) := by decide +kernel
theorem dX11_all_10 : decode cX11_all 10 = .ok (.ireturn, 1) := by decide +kernel
theorem dX11_valued_0 : decode cX11_valued 0 = .ok (.iconst 0, 1) := by decide +kernel
theorem dX11_valued_1 : decode cX11_valued 1 = .ok (.istore_n 3, 1) := by decide +kernel
theorem dX11_valued_2 : decode cX11_valued 2 = .ok (.iconst 0, 1) := by decide +kernel
theorem dX11_valued_3 : decode cX11_valued 3 = .ok (.istore 4, 2) := by decide +kernel
theorem dX11_valued_5 : decode cX11_valued 5 = .ok (.iload 4, 2) := by decide +kernel
theorem dX11_valued_7 : decode cX11_valued 7 = .ok (.aload_n 0, 1) := by decide +kernel
theorem dX11_valued_8 : decode cX11_valued 8 = .ok (.getfield 7, 3) := by decide +kernel
theorem dX11_valued_11 : decode cX11_valued 11 = .ok (.iconst 0, 1) := by decide +kernel
theorem dX11_valued_12 : decode cX11_valued 12 = .ok (.iaload, 1) := by decide +kernel
theorem dX11_valued_13 : decode cX11_valued 13 = .ok (.if_icmp .ge 39, 3) := by decide +kernel
theorem dX11_valued_16 : decode cX11_valued 16 = .ok (.iload_n 3, 1) := by decide +kernel
theorem dX11_valued_17 : decode cX11_valued 17 = .ok (.iload_n 2, 1) := by decide +kernel
theorem dX11_valued_18 : decode cX11_valued 18 = .ok (.iload 4, 2) := by decide +kernel
theorem dX11_valued_20 : decode cX11_valued 20 = .ok (.invokestatic 97, 3) := by decide +kernel
theorem dX11_valued_23 : decode cX11_valued 23 = .ok (.ifCond .eq 20, 3) := by decide +kernel
theorem dX11_valued_26 : decode cX11_valued 26 = .ok (.aload_n 0, 1) := by decide +kernel
theorem dX11_valued_27 : decode cX11_valued 27 = .ok (.getfield 7, 3) := by decide +kernel
theorem dX11_valued_30 : decode cX11_valued 30 = .ok (.iconst 4, 1) := by decide +kernel
theorem dX11_valued_31 : decode cX11_valued 31 = .ok (.bipush 6, 2) := by decide +kernel
theorem dX11_valued_33 : decode cX11_valued 33 = .ok (.iload_n 1, 1) := by decide +kernel
theorem dX11_valued_34 : decode cX11_valued 34 = .ok (.imul, 1) := by decide +kernel
theorem dX11_valued_35 : decode cX11_valued 35 = .ok (.iadd, 1) := by decide +kernel
theorem dX11_valued_36 : decode cX11_valued 36 = .ok (.iload 4, 2) := by decide +kernel
theorem dX11_valued_38 : decode cX11_valued 38 = .ok (.iadd, 1) := by decide +kernel
theorem dX11_valued_39 : decode cX11_valued 39 = .ok (.iaload, 1) := by decide +kernel
theorem dX11_valued_40 : decode cX11_valued 40 = .ok (.goto 4, 3) := by decide +kernel
theorem dX11_valued_43 : decode cX11_valued 43 = .ok (.iconst 0, 1) := by decide +kernel
theorem dX11_valued_44 : decode cX11_valued 44 = .ok (.iadd, 1) := by decide +kernel
theorem dX11_valued_45 : decode cX11_valued 45 = .ok (.istore_n 3, 1) := by decide +kernel
theorem dX11_valued_46 : decode cX11_valued 46 = .ok (.iinc 4 1, 3) := by decide +kernel
theorem dX11_valued_49 : decode cX11_valued 49 = .ok (.goto (-44), 3) := by decide +kernel
theorem dX11_valued_52 : decode cX11_valued 52 = .ok (.iconst 0, 1) := by decide +kernel
theorem dX11_valued_53 : decode cX11_valued 53 = .ok (.istore 4, 2) := by decide +kernel
theorem dX11_valued_55 : decode cX11_valued 55 = .ok (.iload 4, 2) := by decide +kernel
theorem dX11_valued_57 : decode cX11_valued 57 = .ok (.aload_n 0, 1) := by decide +kernel
theorem dX11_valued_58 : decode cX11_valued 58 = .ok (.getfield 7, 3) := by decide +kernel
theorem dX11_valued_61 : decode cX11_valued 61 = .ok (.iconst 1, 1) := by decide +kernel
theorem dX11_valued_62 : decode cX11_valued 62 = .ok (.iaload, 1) := by decide +kernel
theorem dX11_valued_63 : decode cX11_valued 63 = .ok (.if_icmp .ge 64, 3) := by decide +kernel
theorem dX11_valued_66 : decode cX11_valued 66 = .ok (.iload_n 3, 1) := by decide +kernel
theorem dX11_valued_67 : decode cX11_valued 67 = .ok (.iload_n 2, 1) := by decide +kernel
theorem dX11_valued_68 : decode cX11_valued 68 = .ok (.aload_n 0, 1) := by decide +kernel
theorem dX11_valued_69 : decode cX11_valued 69 = .ok (.getfield 7, 3) := by decide +kernel
theorem dX11_valued_72 : decode cX11_valued 72 = .ok (.bipush 16, 2) := by decide +kernel
theorem dX11_valued_74 : decode cX11_valued 74 = .ok (.iload 4, 2) := by decide +kernel
theorem dX11_valued_76 : decode cX11_valued 76 = .ok (.iadd, 1) := by decide +kernel
theorem dX11_valued_77 : decode cX11_valued 77 = .ok (.iaload, 1) := by decide +kernel
theorem dX11_valued_78 : decode cX11_valued 78 = .ok (.invokestatic 97, 3) := by decide +kernel
theorem dX11_valued_81 : decode cX11_valued 81 = .ok (.ifCond .eq 37, 3) := by decide +kernel
theorem dX11_valued_84 : decode cX11_valued 84 = .ok (.iload_n 2, 1) := by decide +kernel
theorem dX11_valued_85 : decode cX11_valued 85 = .ok (.aload_n 0, 1) := by decide +kernel
theorem dX11_valued_86 : decode cX11_valued 86 = .ok (.getfield 7, 3) := by decide +kernel
theorem dX11_valued_89 : decode cX11_valued 89 = .ok (.bipush 20, 2) := by decide +kernel
theorem dX11_valued_91 : decode cX11_valued 91 = .ok (.iload 4, 2) := by decide +kernel
theorem dX11_valued_93 : decode cX11_valued 93 = .ok (.iadd, 1) := by decide +kernel
theorem dX11_valued_94 : decode cX11_valued 94 = .ok (.iaload, 1) := by decide +kernel
theorem dX11_valued_95 : decode cX11_valued 95 = .ok (.invokestatic 97, 3) := by decide +kernel
theorem dX11_valued_98 : decode cX11_valued 98 = .ok (.ifCond .eq 20, 3) := by decide +kernel
theorem dX11_valued_101 : decode cX11_valued 101 = .ok (.aload_n 0, 1) := by decide +kernel
theorem dX11_valued_102 : decode cX11_valued 102 = .ok (.getfield 7, 3) := by decide +kernel
theorem dX11_valued_105 : decode cX11_valued 105 = .ok (.bipush 24, 2) := by decide +kernel
theorem dX11_valued_107 : decode cX11_valued 107 = .ok (.iconst 4, 1) := by decide +kernel
theorem dX11_valued_108 : decode cX11_valued 108 = .ok (.iload_n 1, 1) := by decide +kernel
theorem dX11_valued_109 : decode cX11_valued 109 = .ok (.imul, 1) := by decide +kernel
theorem dX11_valued_110 : decode cX11_valued 110 = .ok (.iadd, 1) := by decide +kernel
theorem dX11_valued_111 : decode cX11_valued 111 = .ok (.iload 4, 2) := by decide +kernel
theorem dX11_valued_113 : decode cX11_valued 113 = .ok (.iadd, 1) := by decide +kernel
theorem dX11_valued_114 : decode cX11_valued 114 = .ok (.iaload, 1) := by decide +kernel
theorem dX11_valued_115 : decode cX11_valued 115 = .ok (.goto 4, 3) := by decide +kernel
theorem dX11_valued_118 : decode cX11_valued 118 = .ok (.iconst 0, 1) := by decide +kernel
theorem dX11_valued_119 : decode cX11_valued 119 = .ok (.iadd, 1) := by decide +kernel
theorem dX11_valued_120 : decode cX11_valued 120 = .ok (.istore_n 3, 1) := by decide +kernel
theorem dX11_valued_121 : decode cX11_valued 121 = .ok (.iinc 4 1, 3) := by decide +kernel
theorem dX11_valued_124 : decode cX11_valued 124 = .ok (.goto (-69), 3) := by decide +kernel
theorem dX11_valued_127 : decode cX11_valued 127 = .ok (.iload_n 3, 1) := by decide +kernel
theorem dX11_valued_128 : decode cX11_valued 128 = .ok (.ireturn, 1) := by decide +kernel
theorem dX11_goodsOf_0 : decode cX11_goodsOf 0 = .ok (.iconst 0, 1) := by decide +kernel
theorem dX11_goodsOf_1 : decode cX11_goodsOf 1 = .ok (.istore_n 2, 1) := by decide +kernel
theorem dX11_goodsOf_2 : decode cX11_goodsOf 2 = .ok (.iconst 0, 1) := by decide +kernel
theorem dX11_goodsOf_3 : decode cX11_goodsOf 3 = .ok (.istore_n 3, 1) := by decide +kernel
theorem dX11_goodsOf_4 : decode cX11_goodsOf 4 = .ok (.iload_n 3, 1) := by decide +kernel
theorem dX11_goodsOf_5 : decode cX11_goodsOf 5 = .ok (.aload_n 0, 1) := by decide +kernel
theorem dX11_goodsOf_6 : decode cX11_goodsOf 6 = .ok (.getfield 7, 3) := by decide +kernel
theorem dX11_goodsOf_9 : decode cX11_goodsOf 9 = .ok (.iconst 0, 1) := by decide +kernel
theorem dX11_goodsOf_10 : decode cX11_goodsOf 10 = .ok (.iaload, 1) := by decide +kernel
theorem dX11_goodsOf_11 : decode cX11_goodsOf 11 = .ok (.if_icmp .ge 31, 3) := by decide +kernel
theorem dX11_goodsOf_14 : decode cX11_goodsOf 14 = .ok (.iload_n 2, 1) := by decide +kernel
theorem dX11_goodsOf_15 : decode cX11_goodsOf 15 = .ok (.aload_n 0, 1) := by decide +kernel
theorem dX11_goodsOf_16 : decode cX11_goodsOf 16 = .ok (.getfield 16, 3) := by decide +kernel
theorem dX11_goodsOf_19 : decode cX11_goodsOf 19 = .ok (.iconst 0, 1) := by decide +kernel
theorem dX11_goodsOf_20 : decode cX11_goodsOf 20 = .ok (.iload_n 3, 1) := by decide +kernel
theorem dX11_goodsOf_21 : decode cX11_goodsOf 21 = .ok (.iadd, 1) := by decide +kernel
theorem dX11_goodsOf_22 : decode cX11_goodsOf 22 = .ok (.iaload, 1) := by decide +kernel
theorem dX11_goodsOf_23 : decode cX11_goodsOf 23 = .ok (.iload_n 1, 1) := by decide +kernel
theorem dX11_goodsOf_24 : decode cX11_goodsOf 24 = .ok (.if_icmp .ne 9, 3) := by decide +kernel
theorem dX11_goodsOf_27 : decode cX11_goodsOf 27 = .ok (.iconst 1, 1) := by decide +kernel
theorem dX11_goodsOf_28 : decode cX11_goodsOf 28 = .ok (.iload_n 3, 1) := by decide +kernel
theorem dX11_goodsOf_29 : decode cX11_goodsOf 29 = .ok (.ishl, 1) := by decide +kernel
theorem dX11_goodsOf_30 : decode cX11_goodsOf 30 = .ok (.goto 4, 3) := by decide +kernel
theorem dX11_goodsOf_33 : decode cX11_goodsOf 33 = .ok (.iconst 0, 1) := by decide +kernel
theorem dX11_goodsOf_34 : decode cX11_goodsOf 34 = .ok (.ior, 1) := by decide +kernel
theorem dX11_goodsOf_35 : decode cX11_goodsOf 35 = .ok (.istore_n 2, 1) := by decide +kernel
theorem dX11_goodsOf_36 : decode cX11_goodsOf 36 = .ok (.iinc 3 1, 3) := by decide +kernel
theorem dX11_goodsOf_39 : decode cX11_goodsOf 39 = .ok (.goto (-35), 3) := by decide +kernel
theorem dX11_goodsOf_42 : decode cX11_goodsOf 42 = .ok (.iload_n 2, 1) := by decide +kernel
theorem dX11_goodsOf_43 : decode cX11_goodsOf 43 = .ok (.ireturn, 1) := by decide +kernel
theorem dX11_good_0 : decode cX11_good 0 = .ok (.aload_n 0, 1) := by decide +kernel
theorem dX11_good_1 : decode cX11_good 1 = .ok (.iload_n 1, 1) := by decide +kernel
theorem dX11_good_2 : decode cX11_good 2 = .ok (.invokevirtual 114, 3) := by decide +kernel
theorem dX11_good_5 : decode cX11_good 5 = .ok (.ifCond .eq 15, 3) := by decide +kernel
theorem dX11_good_8 : decode cX11_good 8 = .ok (.iload_n 2, 1) := by decide +kernel
theorem dX11_good_9 : decode cX11_good 9 = .ok (.i2l, 1) := by decide +kernel
theorem dX11_good_10 : decode cX11_good 10 = .ok (.lconst 0, 1) := by decide +kernel
theorem dX11_good_11 : decode cX11_good 11 = .ok (.ldc2_w 117, 3) := by decide +kernel
theorem dX11_good_14 : decode cX11_good 14 = .ok (.invokestatic 57, 3) := by decide +kernel
theorem dX11_good_17 : decode cX11_good 17 = .ok (.ifCond .ne 5, 3) := by decide +kernel
theorem dX11_good_20 : decode cX11_good 20 = .ok (.iconst (-1), 1) := by decide +kernel
theorem dX11_good_21 : decode cX11_good 21 = .ok (.ireturn, 1) := by decide +kernel
theorem dX11_good_22 : decode cX11_good 22 = .ok (.iload_n 2, 1) := by decide +kernel
theorem dX11_good_23 : decode cX11_good 23 = .ok (.iconst 2, 1) := by decide +kernel
theorem dX11_good_24 : decode cX11_good 24 = .ok (.if_icmp .ge 19, 3) := by decide +kernel
theorem dX11_good_27 : decode cX11_good 27 = .ok (.aload_n 0, 1) := by decide +kernel
theorem dX11_good_28 : decode cX11_good 28 = .ok (.getfield 7, 3) := by decide +kernel
theorem dX11_good_31 : decode cX11_good 31 = .ok (.iconst 4, 1) := by decide +kernel
theorem dX11_good_32 : decode cX11_good 32 = .ok (.bipush 6, 2) := by decide +kernel
theorem dX11_good_34 : decode cX11_good 34 = .ok (.iload_n 2, 1) := by decide +kernel
theorem dX11_good_35 : decode cX11_good 35 = .ok (.imul, 1) := by decide +kernel
theorem dX11_good_36 : decode cX11_good 36 = .ok (.iadd, 1) := by decide +kernel
theorem dX11_good_37 : decode cX11_good 37 = .ok (.iload_n 1, 1) := by decide +kernel
theorem dX11_good_38 : decode cX11_good 38 = .ok (.iadd, 1) := by decide +kernel
theorem dX11_good_39 : decode cX11_good 39 = .ok (.iaload, 1) := by decide +kernel
theorem dX11_good_40 : decode cX11_good 40 = .ok (.goto 11, 3) := by decide +kernel
theorem dX11_good_43 : decode cX11_good 43 = .ok (.aload_n 0, 1) := by decide +kernel
theorem dX11_good_44 : decode cX11_good 44 = .ok (.getfield 16, 3) := by decide +kernel
theorem dX11_good_47 : decode cX11_good 47 = .ok (.iconst 0, 1) := by decide +kernel
theorem dX11_good_48 : decode cX11_good 48 = .ok (.iload_n 1, 1) := by decide +kernel
theorem dX11_good_49 : decode cX11_good 49 = .ok (.iadd, 1) := by decide +kernel
theorem dX11_good_50 : decode cX11_good 50 = .ok (.iaload, 1) := by decide +kernel
theorem dX11_good_51 : decode cX11_good 51 = .ok (.ireturn, 1) := by decide +kernel
theorem dX11_values_0 : decode cX11_values 0 = .ok (.iload_n 1, 1) := by decide +kernel
theorem dX11_values_1 : decode cX11_values 1 = .ok (.invokestatic 119, 3) := by decide +kernel
theorem dX11_values_4 : decode cX11_values 4 = .ok (.ifCond .eq 26, 3) := by decide +kernel
theorem dX11_values_7 : decode cX11_values 7 = .ok (.iload_n 2, 1) := by decide +kernel
theorem dX11_values_8 : decode cX11_values 8 = .ok (.i2l, 1) := by decide +kernel
theorem dX11_values_9 : decode cX11_values 9 = .ok (.lconst 0, 1) := by decide +kernel
theorem dX11_values_10 : decode cX11_values 10 = .ok (.aload_n 0, 1) := by decide +kernel
theorem dX11_values_11 : decode cX11_values 11 = .ok (.invokevirtual 122, 3) := by decide +kernel
theorem dX11_values_14 : decode cX11_values 14 = .ok (.i2l, 1) := by decide +kernel
theorem dX11_values_15 : decode cX11_values 15 = .ok (.invokestatic 57, 3) := by decide +kernel
theorem dX11_values_18 : decode cX11_values 18 = .ok (.ifCond .eq 12, 3) := by decide +kernel
theorem dX11_values_21 : decode cX11_values 21 = .ok (.aload_n 0, 1) := by decide +kernel
theorem dX11_values_22 : decode cX11_values 22 = .ok (.iload_n 1, 1) := by decide +kernel
theorem dX11_values_23 : decode cX11_values 23 = .ok (.iload_n 2, 1) := by decide +kernel
theorem dX11_values_24 : decode cX11_values 24 = .ok (.invokevirtual 125, 3) := by decide +kernel
theorem dX11_values_27 : decode cX11_values 27 = .ok (.goto 4, 3) := by decide +kernel
theorem dX11_values_30 : decode cX11_values 30 = .ok (.iconst (-1), 1) := by decide +kernel
theorem dX11_values_31 : decode cX11_values 31 = .ok (.ireturn, 1) := by decide +kernel
theorem dX11_now_0 : decode cX11_now 0 = .ok (.iload_n 1, 1) := by decide +kernel
theorem dX11_now_1 : decode cX11_now 1 = .ok (.tableswitch 54 0 4 #[35, 35, 35, 41, 49], 35) := by decide +kernel
theorem dX11_now_36 : decode cX11_now 36 = .ok (.aload_n 0, 1) := by decide +kernel
theorem dX11_now_37 : decode cX11_now 37 = .ok (.iload_n 1, 1) := by decide +kernel
theorem dX11_now_38 : decode cX11_now 38 = .ok (.invokevirtual 129, 3) := by decide +kernel
theorem dX11_now_41 : decode cX11_now 41 = .ok (.ireturn, 1) := by decide +kernel
theorem dX11_now_42 : decode cX11_now 42 = .ok (.aload_n 0, 1) := by decide +kernel
theorem dX11_now_43 : decode cX11_now 43 = .ok (.getfield 16, 3) := by decide +kernel
theorem dX11_now_46 : decode cX11_now 46 = .ok (.bipush 6, 2) := by decide +kernel
theorem dX11_now_48 : decode cX11_now 48 = .ok (.iaload, 1) := by decide +kernel
theorem dX11_now_49 : decode cX11_now 49 = .ok (.ireturn, 1) := by decide +kernel
theorem dX11_now_50 : decode cX11_now 50 = .ok (.aload_n 0, 1) := by decide +kernel
theorem dX11_now_51 : decode cX11_now 51 = .ok (.getfield 61, 3) := by decide +kernel
theorem dX11_now_54 : decode cX11_now 54 = .ok (.ireturn, 1) := by decide +kernel
theorem dX11_now_55 : decode cX11_now 55 = .ok (.iconst (-1), 1) := by decide +kernel
theorem dX11_now_56 : decode cX11_now 56 = .ok (.ireturn, 1) := by decide +kernel
theorem dX11_copies_0 : decode cX11_copies 0 = .ok (.iconst 0, 1) := by decide +kernel
theorem dX11_copies_1 : decode cX11_copies 1 = .ok (.istore 4, 2) := by decide +kernel
theorem dX11_copies_3 : decode cX11_copies 3 = .ok (.iload 4, 2) := by decide +kernel
theorem dX11_copies_5 : decode cX11_copies 5 = .ok (.bipush 9, 2) := by decide +kernel
theorem dX11_copies_7 : decode cX11_copies 7 = .ok (.if_icmp .ge 21, 3) := by decide +kernel
theorem dX11_copies_10 : decode cX11_copies 10 = .ok (.aload_n 2, 1) := by decide +kernel
theorem dX11_copies_11 : decode cX11_copies 11 = .ok (.iload_n 3, 1) := by decide +kernel
theorem dX11_copies_12 : decode cX11_copies 12 = .ok (.iload 4, 2) := by decide +kernel
theorem dX11_copies_14 : decode cX11_copies 14 = .ok (.iadd, 1) := by decide +kernel
theorem dX11_copies_15 : decode cX11_copies 15 = .ok (.aload_n 0, 1) := by decide +kernel
theorem dX11_copies_16 : decode cX11_copies 16 = .ok (.iload_n 1, 1) := by decide +kernel
theorem dX11_copies_17 : decode cX11_copies 17 = .ok (.iload 4, 2) := by decide +kernel
theorem dX11_copies_19 : decode cX11_copies 19 = .ok (.iadd, 1) := by decide +kernel
theorem dX11_copies_20 : decode cX11_copies 20 = .ok (.iaload, 1) := by decide +kernel
theorem dX11_copies_21 : decode cX11_copies 21 = .ok (.iastore, 1) := by decide +kernel
theorem dX11_copies_22 : decode cX11_copies 22 = .ok (.iinc 4 1, 3) := by decide +kernel
theorem dX11_copies_25 : decode cX11_copies 25 = .ok (.goto (-22), 3) := by decide +kernel
theorem dX11_copies_28 : decode cX11_copies 28 = .ok (.return_, 1) := by decide +kernel
theorem dX11_remember_0 : decode cX11_remember 0 = .ok (.aload_n 0, 1) := by decide +kernel
theorem dX11_remember_1 : decode cX11_remember 1 = .ok (.getfield 61, 3) := by decide +kernel
theorem dX11_remember_4 : decode cX11_remember 4 = .ok (.bipush 10, 2) := by decide +kernel
theorem dX11_remember_6 : decode cX11_remember 6 = .ok (.if_icmp .ne 42, 3) := by decide +kernel
theorem dX11_remember_9 : decode cX11_remember 9 = .ok (.iconst 0, 1) := by decide +kernel
theorem dX11_remember_10 : decode cX11_remember 10 = .ok (.istore_n 1, 1) := by decide +kernel
theorem dX11_remember_11 : decode cX11_remember 11 = .ok (.iload_n 1, 1) := by decide +kernel
theorem dX11_remember_12 : decode cX11_remember 12 = .ok (.bipush 81, 2) := by decide +kernel
theorem dX11_remember_14 : decode cX11_remember 14 = .ok (.if_icmp .ge 24, 3) := by decide +kernel
theorem dX11_remember_17 : decode cX11_remember 17 = .ok (.aload_n 0, 1) := by decide +kernel
theorem dX11_remember_18 : decode cX11_remember 18 = .ok (.getfield 19, 3) := by decide +kernel
theorem dX11_remember_21 : decode cX11_remember 21 = .ok (.iload_n 1, 1) := by decide +kernel
theorem dX11_remember_22 : decode cX11_remember 22 = .ok (.aload_n 0, 1) := by decide +kernel
theorem dX11_remember_23 : decode cX11_remember 23 = .ok (.getfield 19, 3) := by decide +kernel
theorem dX11_remember_26 : decode cX11_remember 26 = .ok (.iload_n 1, 1) := by decide +kernel
theorem dX11_remember_27 : decode cX11_remember 27 = .ok (.bipush 9, 2) := by decide +kernel
theorem dX11_remember_29 : decode cX11_remember 29 = .ok (.iadd, 1) := by decide +kernel
theorem dX11_remember_30 : decode cX11_remember 30 = .ok (.iaload, 1) := by decide +kernel
theorem dX11_remember_31 : decode cX11_remember 31 = .ok (.iastore, 1) := by decide +kernel
theorem dX11_remember_32 : decode cX11_remember 32 = .ok (.iinc 1 1, 3) := by decide +kernel
theorem dX11_remember_35 : decode cX11_remember 35 = .ok (.goto (-24), 3) := by decide +kernel
theorem dX11_remember_38 : decode cX11_remember 38 = .ok (.aload_n 0, 1) := by decide +kernel
theorem dX11_remember_39 : decode cX11_remember 39 = .ok (.dup, 1) := by decide +kernel
theorem dX11_remember_40 : decode cX11_remember 40 = .ok (.getfield 61, 3) := by decide +kernel
theorem dX11_remember_43 : decode cX11_remember 43 = .ok (.iconst 1, 1) := by decide +kernel
theorem dX11_remember_44 : decode cX11_remember 44 = .ok (.isub, 1) := by decide +kernel
theorem dX11_remember_45 : decode cX11_remember 45 = .ok (.putfield 61, 3) := by decide +kernel
theorem dX11_remember_48 : decode cX11_remember 48 = .ok (.aload_n 0, 1) := by decide +kernel
theorem dX11_remember_49 : decode cX11_remember 49 = .ok (.getfield 16, 3) := by decide +kernel
theorem dX11_remember_52 : decode cX11_remember 52 = .ok (.iconst 0, 1) := by decide +kernel
theorem dX11_remember_53 : decode cX11_remember 53 = .ok (.aload_n 0, 1) := by decide +kernel
theorem dX11_remember_54 : decode cX11_remember 54 = .ok (.getfield 19, 3) := by decide +kernel
theorem dX11_remember_57 : decode cX11_remember 57 = .ok (.bipush 9, 2) := by decide +kernel
theorem dX11_remember_59 : decode cX11_remember 59 = .ok (.aload_n 0, 1) := by decide +kernel
theorem dX11_remember_60 : decode cX11_remember 60 = .ok (.getfield 61, 3) := by decide +kernel
theorem dX11_remember_63 : decode cX11_remember 63 = .ok (.imul, 1) := by decide +kernel
theorem dX11_remember_64 : decode cX11_remember 64 = .ok (.invokestatic 133, 3) := by decide +kernel
theorem dX11_remember_67 : decode cX11_remember 67 = .ok (.aload_n 0, 1) := by decide +kernel
theorem dX11_remember_68 : decode cX11_remember 68 = .ok (.dup, 1) := by decide +kernel
theorem dX11_remember_69 : decode cX11_remember 69 = .ok (.getfield 61, 3) := by decide +kernel
theorem dX11_remember_72 : decode cX11_remember 72 = .ok (.iconst 1, 1) := by decide +kernel
theorem dX11_remember_73 : decode cX11_remember 73 = .ok (.iadd, 1) := by decide +kernel
theorem dX11_remember_74 : decode cX11_remember 74 = .ok (.putfield 61, 3) := by decide +kernel
theorem dX11_remember_77 : decode cX11_remember 77 = .ok (.return_, 1) := by decide +kernel
theorem dX11_gives_0 : decode cX11_gives 0 = .ok (.aload_n 0, 1) := by decide +kernel
theorem dX11_gives_1 : decode cX11_gives 1 = .ok (.iload_n 1, 1) := by decide +kernel
theorem dX11_gives_2 : decode cX11_gives 2 = .ok (.invokevirtual 114, 3) := by decide +kernel
theorem dX11_gives_5 : decode cX11_gives 5 = .ok (.ifCond .eq 15, 3) := by decide +kernel
theorem dX11_gives_8 : decode cX11_gives 8 = .ok (.iload_n 2, 1) := by decide +kernel
theorem dX11_gives_9 : decode cX11_gives 9 = .ok (.i2l, 1) := by decide +kernel
theorem dX11_gives_10 : decode cX11_gives 10 = .ok (.lconst 0, 1) := by decide +kernel
theorem dX11_gives_11 : decode cX11_gives 11 = .ok (.ldc2_w 117, 3) := by decide +kernel
theorem dX11_gives_14 : decode cX11_gives 14 = .ok (.invokestatic 57, 3) := by decide +kernel
theorem dX11_gives_17 : decode cX11_gives 17 = .ok (.ifCond .ne 5, 3) := by decide +kernel
theorem dX11_gives_20 : decode cX11_gives 20 = .ok (.iconst (-1), 1) := by decide +kernel
theorem dX11_gives_21 : decode cX11_gives 21 = .ok (.ireturn, 1) := by decide +kernel
theorem dX11_gives_22 : decode cX11_gives 22 = .ok (.aload_n 0, 1) := by decide +kernel
theorem dX11_gives_23 : decode cX11_gives 23 = .ok (.invokevirtual 137, 3) := by decide +kernel
theorem dX11_gives_26 : decode cX11_gives 26 = .ok (.aload_n 0, 1) := by decide +kernel
theorem dX11_gives_27 : decode cX11_gives 27 = .ok (.getfield 16, 3) := by decide +kernel
theorem dX11_gives_30 : decode cX11_gives 30 = .ok (.iconst 0, 1) := by decide +kernel
theorem dX11_gives_31 : decode cX11_gives 31 = .ok (.iload_n 1, 1) := by decide +kernel
theorem dX11_gives_32 : decode cX11_gives 32 = .ok (.iadd, 1) := by decide +kernel
theorem dX11_gives_33 : decode cX11_gives 33 = .ok (.iaload, 1) := by decide +kernel
theorem dX11_gives_34 : decode cX11_gives 34 = .ok (.istore_n 3, 1) := by decide +kernel
theorem dX11_gives_35 : decode cX11_gives 35 = .ok (.aload_n 0, 1) := by decide +kernel
theorem dX11_gives_36 : decode cX11_gives 36 = .ok (.getfield 16, 3) := by decide +kernel
theorem dX11_gives_39 : decode cX11_gives 39 = .ok (.iconst 0, 1) := by decide +kernel
theorem dX11_gives_40 : decode cX11_gives 40 = .ok (.iload_n 1, 1) := by decide +kernel
theorem dX11_gives_41 : decode cX11_gives 41 = .ok (.iadd, 1) := by decide +kernel
theorem dX11_gives_42 : decode cX11_gives 42 = .ok (.iload_n 2, 1) := by decide +kernel
theorem dX11_gives_43 : decode cX11_gives 43 = .ok (.iastore, 1) := by decide +kernel
theorem dX11_gives_44 : decode cX11_gives 44 = .ok (.iload_n 3, 1) := by decide +kernel
theorem dX11_gives_45 : decode cX11_gives 45 = .ok (.ireturn, 1) := by decide +kernel
theorem dX11_footOf_0 : decode cX11_footOf 0 = .ok (.aload_n 0, 1) := by decide +kernel
theorem dX11_footOf_1 : decode cX11_footOf 1 = .ok (.getfield 16, 3) := by decide +kernel
theorem dX11_footOf_4 : decode cX11_footOf 4 = .ok (.bipush 7, 2) := by decide +kernel
theorem dX11_footOf_6 : decode cX11_footOf 6 = .ok (.iload_n 1, 1) := by decide +kernel
theorem dX11_footOf_7 : decode cX11_footOf 7 = .ok (.bipush 30, 2) := by decide +kernel
theorem dX11_footOf_9 : decode cX11_footOf 9 = .ok (.idiv, 1) := by decide +kernel
theorem dX11_footOf_10 : decode cX11_footOf 10 = .ok (.iadd, 1) := by decide +kernel
theorem dX11_footOf_11 : decode cX11_footOf 11 = .ok (.iaload, 1) := by decide +kernel
theorem dX11_footOf_12 : decode cX11_footOf 12 = .ok (.iload_n 1, 1) := by decide +kernel
theorem dX11_footOf_13 : decode cX11_footOf 13 = .ok (.bipush 30, 2) := by decide +kernel
theorem dX11_footOf_15 : decode cX11_footOf 15 = .ok (.irem, 1) := by decide +kernel
theorem dX11_footOf_16 : decode cX11_footOf 16 = .ok (.ishr, 1) := by decide +kernel
theorem dX11_footOf_17 : decode cX11_footOf 17 = .ok (.iconst 1, 1) := by decide +kernel
theorem dX11_footOf_18 : decode cX11_footOf 18 = .ok (.iand, 1) := by decide +kernel
theorem dX11_footOf_19 : decode cX11_footOf 19 = .ok (.ireturn, 1) := by decide +kernel
theorem dX11_wornBy_0 : decode cX11_wornBy 0 = .ok (.iconst 0, 1) := by decide +kernel
theorem dX11_wornBy_1 : decode cX11_wornBy 1 = .ok (.istore 4, 2) := by decide +kernel
theorem dX11_wornBy_3 : decode cX11_wornBy 3 = .ok (.iconst 0, 1) := by decide +kernel
theorem dX11_wornBy_4 : decode cX11_wornBy 4 = .ok (.istore 5, 2) := by decide +kernel
theorem dX11_wornBy_6 : decode cX11_wornBy 6 = .ok (.iconst 0, 1) := by decide +kernel
theorem dX11_wornBy_7 : decode cX11_wornBy 7 = .ok (.istore 6, 2) := by decide +kernel
theorem dX11_wornBy_9 : decode cX11_wornBy 9 = .ok (.iload 6, 2) := by decide +kernel
theorem dX11_wornBy_11 : decode cX11_wornBy 11 = .ok (.aload_n 0, 1) := by decide +kernel
theorem dX11_wornBy_12 : decode cX11_wornBy 12 = .ok (.getfield 16, 3) := by decide +kernel
theorem dX11_wornBy_15 : decode cX11_wornBy 15 = .ok (.bipush 6, 2) := by decide +kernel
theorem dX11_wornBy_17 : decode cX11_wornBy 17 = .ok (.iaload, 1) := by decide +kernel
theorem dX11_wornBy_18 : decode cX11_wornBy 18 = .ok (.if_icmp .ge 66, 3) := by decide +kernel
theorem dX11_wornBy_21 : decode cX11_wornBy 21 = .ok (.iload 6, 2) := by decide +kernel
theorem dX11_wornBy_23 : decode cX11_wornBy 23 = .ok (.iload_n 3, 1) := by decide +kernel
theorem dX11_wornBy_24 : decode cX11_wornBy 24 = .ok (.if_icmp .ne 14, 3) := by decide +kernel
theorem dX11_wornBy_27 : decode cX11_wornBy 27 = .ok (.iconst 1, 1) := by decide +kernel
theorem dX11_wornBy_28 : decode cX11_wornBy 28 = .ok (.aload_n 0, 1) := by decide +kernel
theorem dX11_wornBy_29 : decode cX11_wornBy 29 = .ok (.iload 6, 2) := by decide +kernel
theorem dX11_wornBy_31 : decode cX11_wornBy 31 = .ok (.invokevirtual 140, 3) := by decide +kernel
theorem dX11_wornBy_34 : decode cX11_wornBy 34 = .ok (.isub, 1) := by decide +kernel
theorem dX11_wornBy_35 : decode cX11_wornBy 35 = .ok (.goto 9, 3) := by decide +kernel
theorem dX11_wornBy_38 : decode cX11_wornBy 38 = .ok (.aload_n 0, 1) := by decide +kernel
theorem dX11_wornBy_39 : decode cX11_wornBy 39 = .ok (.iload 6, 2) := by decide +kernel
theorem dX11_wornBy_41 : decode cX11_wornBy 41 = .ok (.invokevirtual 140, 3) := by decide +kernel
theorem dX11_wornBy_44 : decode cX11_wornBy 44 = .ok (.istore 7, 2) := by decide +kernel
theorem dX11_wornBy_46 : decode cX11_wornBy 46 = .ok (.iload 7, 2) := by decide +kernel
theorem dX11_wornBy_48 : decode cX11_wornBy 48 = .ok (.iload_n 1, 1) := by decide +kernel
theorem dX11_wornBy_49 : decode cX11_wornBy 49 = .ok (.if_icmp .ne 29, 3) := by decide +kernel
theorem dX11_wornBy_52 : decode cX11_wornBy 52 = .ok (.iload 5, 2) := by decide +kernel
theorem dX11_wornBy_54 : decode cX11_wornBy 54 = .ok (.iload 4, 2) := by decide +kernel
theorem dX11_wornBy_56 : decode cX11_wornBy 56 = .ok (.aload_n 0, 1) := by decide +kernel
theorem dX11_wornBy_57 : decode cX11_wornBy 57 = .ok (.getfield 7, 3) := by decide +kernel
theorem dX11_wornBy_60 : decode cX11_wornBy 60 = .ok (.iconst 3, 1) := by decide +kernel
theorem dX11_wornBy_61 : decode cX11_wornBy 61 = .ok (.iaload, 1) := by decide +kernel
theorem dX11_wornBy_62 : decode cX11_wornBy 62 = .ok (.irem, 1) := by decide +kernel
theorem dX11_wornBy_63 : decode cX11_wornBy 63 = .ok (.iload_n 2, 1) := by decide +kernel
theorem dX11_wornBy_64 : decode cX11_wornBy 64 = .ok (.if_icmp .ne 7, 3) := by decide +kernel
theorem dX11_wornBy_67 : decode cX11_wornBy 67 = .ok (.iconst 1, 1) := by decide +kernel
theorem dX11_wornBy_68 : decode cX11_wornBy 68 = .ok (.goto 4, 3) := by decide +kernel
theorem dX11_wornBy_71 : decode cX11_wornBy 71 = .ok (.iconst 0, 1) := by decide +kernel
theorem dX11_wornBy_72 : decode cX11_wornBy 72 = .ok (.iadd, 1) := by decide +kernel
theorem dX11_wornBy_73 : decode cX11_wornBy 73 = .ok (.istore 5, 2) := by decide +kernel
theorem dX11_wornBy_75 : decode cX11_wornBy 75 = .ok (.iinc 4 1, 3) := by decide +kernel
theorem dX11_wornBy_78 : decode cX11_wornBy 78 = .ok (.iinc 6 1, 3) := by decide +kernel
theorem dX11_wornBy_81 : decode cX11_wornBy 81 = .ok (.goto (-72), 3) := by decide +kernel
theorem dX11_wornBy_84 : decode cX11_wornBy 84 = .ok (.iload 5, 2) := by decide +kernel
theorem dX11_wornBy_86 : decode cX11_wornBy 86 = .ok (.ireturn, 1) := by decide +kernel
theorem dX11_stepsOf_0 : decode cX11_stepsOf 0 = .ok (.iconst 0, 1) := by decide +kernel
theorem dX11_stepsOf_1 : decode cX11_stepsOf 1 = .ok (.istore_n 2, 1) := by decide +kernel
theorem dX11_stepsOf_2 : decode cX11_stepsOf 2 = .ok (.iconst 0, 1) := by decide +kernel
theorem dX11_stepsOf_3 : decode cX11_stepsOf 3 = .ok (.istore_n 3, 1) := by decide +kernel
theorem dX11_stepsOf_4 : decode cX11_stepsOf 4 = .ok (.iload_n 3, 1) := by decide +kernel
theorem dX11_stepsOf_5 : decode cX11_stepsOf 5 = .ok (.aload_n 0, 1) := by decide +kernel
theorem dX11_stepsOf_6 : decode cX11_stepsOf 6 = .ok (.getfield 16, 3) := by decide +kernel
theorem dX11_stepsOf_9 : decode cX11_stepsOf 9 = .ok (.bipush 6, 2) := by decide +kernel
theorem dX11_stepsOf_11 : decode cX11_stepsOf 11 = .ok (.iaload, 1) := by decide +kernel
theorem dX11_stepsOf_12 : decode cX11_stepsOf 12 = .ok (.if_icmp .ge 26, 3) := by decide +kernel
theorem dX11_stepsOf_15 : decode cX11_stepsOf 15 = .ok (.iload_n 2, 1) := by decide +kernel
theorem dX11_stepsOf_16 : decode cX11_stepsOf 16 = .ok (.aload_n 0, 1) := by decide +kernel
theorem dX11_stepsOf_17 : decode cX11_stepsOf 17 = .ok (.iload_n 3, 1) := by decide +kernel
theorem dX11_stepsOf_18 : decode cX11_stepsOf 18 = .ok (.invokevirtual 140, 3) := by decide +kernel
theorem dX11_stepsOf_21 : decode cX11_stepsOf 21 = .ok (.iload_n 1, 1) := by decide +kernel
theorem dX11_stepsOf_22 : decode cX11_stepsOf 22 = .ok (.if_icmp .ne 7, 3) := by decide +kernel
theorem dX11_stepsOf_25 : decode cX11_stepsOf 25 = .ok (.iconst 1, 1) := by decide +kernel
theorem dX11_stepsOf_26 : decode cX11_stepsOf 26 = .ok (.goto 4, 3) := by decide +kernel
theorem dX11_stepsOf_29 : decode cX11_stepsOf 29 = .ok (.iconst 0, 1) := by decide +kernel
theorem dX11_stepsOf_30 : decode cX11_stepsOf 30 = .ok (.iadd, 1) := by decide +kernel
theorem dX11_stepsOf_31 : decode cX11_stepsOf 31 = .ok (.istore_n 2, 1) := by decide +kernel
theorem dX11_stepsOf_32 : decode cX11_stepsOf 32 = .ok (.iinc 3 1, 3) := by decide +kernel
theorem dX11_stepsOf_35 : decode cX11_stepsOf 35 = .ok (.goto (-31), 3) := by decide +kernel
theorem dX11_stepsOf_38 : decode cX11_stepsOf 38 = .ok (.iload_n 2, 1) := by decide +kernel
theorem dX11_stepsOf_39 : decode cX11_stepsOf 39 = .ok (.ireturn, 1) := by decide +kernel
theorem dX11_steps_0 : decode cX11_steps 0 = .ok (.iload_n 1, 1) := by decide +kernel
theorem dX11_steps_1 : decode cX11_steps 1 = .ok (.invokestatic 119, 3) := by decide +kernel
theorem dX11_steps_4 : decode cX11_steps 4 = .ok (.ifCond .ne 5, 3) := by decide +kernel
theorem dX11_steps_7 : decode cX11_steps 7 = .ok (.iconst (-1), 1) := by decide +kernel
theorem dX11_steps_8 : decode cX11_steps 8 = .ok (.ireturn, 1) := by decide +kernel
theorem dX11_steps_9 : decode cX11_steps 9 = .ok (.aload_n 0, 1) := by decide +kernel
theorem dX11_steps_10 : decode cX11_steps 10 = .ok (.getfield 16, 3) := by decide +kernel
theorem dX11_steps_13 : decode cX11_steps 13 = .ok (.bipush 6, 2) := by decide +kernel
theorem dX11_steps_15 : decode cX11_steps 15 = .ok (.iaload, 1) := by decide +kernel
theorem dX11_steps_16 : decode cX11_steps 16 = .ok (.istore_n 2, 1) := by decide +kernel
theorem dX11_steps_17 : decode cX11_steps 17 = .ok (.iload_n 2, 1) := by decide +kernel
theorem dX11_steps_18 : decode cX11_steps 18 = .ok (.bipush 60, 2) := by decide +kernel
theorem dX11_steps_20 : decode cX11_steps 20 = .ok (.if_icmp .ne 6, 3) := by decide +kernel
theorem dX11_steps_23 : decode cX11_steps 23 = .ok (.bipush (-3), 2) := by decide +kernel
theorem dX11_steps_25 : decode cX11_steps 25 = .ok (.ireturn, 1) := by decide +kernel
theorem dX11_steps_26 : decode cX11_steps 26 = .ok (.aload_n 0, 1) := by decide +kernel
theorem dX11_steps_27 : decode cX11_steps 27 = .ok (.invokevirtual 137, 3) := by decide +kernel
theorem dX11_steps_30 : decode cX11_steps 30 = .ok (.aload_n 0, 1) := by decide +kernel
theorem dX11_steps_31 : decode cX11_steps 31 = .ok (.iload_n 1, 1) := by decide +kernel
theorem dX11_steps_32 : decode cX11_steps 32 = .ok (.invokevirtual 143, 3) := by decide +kernel
theorem dX11_steps_35 : decode cX11_steps 35 = .ok (.aload_n 0, 1) := by decide +kernel
theorem dX11_steps_36 : decode cX11_steps 36 = .ok (.getfield 7, 3) := by decide +kernel
theorem dX11_steps_39 : decode cX11_steps 39 = .ok (.iconst 3, 1) := by decide +kernel
theorem dX11_steps_40 : decode cX11_steps 40 = .ok (.iaload, 1) := by decide +kernel
theorem dX11_steps_41 : decode cX11_steps 41 = .ok (.irem, 1) := by decide +kernel
theorem dX11_steps_42 : decode cX11_steps 42 = .ok (.istore_n 3, 1) := by decide +kernel
theorem dX11_steps_43 : decode cX11_steps 43 = .ok (.aload_n 0, 1) := by decide +kernel
theorem dX11_steps_44 : decode cX11_steps 44 = .ok (.getfield 16, 3) := by decide +kernel
theorem dX11_steps_47 : decode cX11_steps 47 = .ok (.bipush 7, 2) := by decide +kernel
theorem dX11_steps_49 : decode cX11_steps 49 = .ok (.iload_n 2, 1) := by decide +kernel
theorem dX11_steps_50 : decode cX11_steps 50 = .ok (.bipush 30, 2) := by decide +kernel
theorem dX11_steps_52 : decode cX11_steps 52 = .ok (.idiv, 1) := by decide +kernel
theorem dX11_steps_53 : decode cX11_steps 53 = .ok (.iadd, 1) := by decide +kernel
theorem dX11_steps_54 : decode cX11_steps 54 = .ok (.dup2, 1) := by decide +kernel
theorem dX11_steps_55 : decode cX11_steps 55 = .ok (.iaload, 1) := by decide +kernel
theorem dX11_steps_56 : decode cX11_steps 56 = .ok (.iload_n 1, 1) := by decide +kernel
theorem dX11_steps_57 : decode cX11_steps 57 = .ok (.iload_n 2, 1) := by decide +kernel
theorem dX11_steps_58 : decode cX11_steps 58 = .ok (.bipush 30, 2) := by decide +kernel
theorem dX11_steps_60 : decode cX11_steps 60 = .ok (.irem, 1) := by decide +kernel
theorem dX11_steps_61 : decode cX11_steps 61 = .ok (.ishl, 1) := by decide +kernel
theorem dX11_steps_62 : decode cX11_steps 62 = .ok (.ior, 1) := by decide +kernel
theorem dX11_steps_63 : decode cX11_steps 63 = .ok (.iastore, 1) := by decide +kernel
theorem dX11_steps_64 : decode cX11_steps 64 = .ok (.aload_n 0, 1) := by decide +kernel
theorem dX11_steps_65 : decode cX11_steps 65 = .ok (.getfield 16, 3) := by decide +kernel
theorem dX11_steps_68 : decode cX11_steps 68 = .ok (.bipush 6, 2) := by decide +kernel
theorem dX11_steps_70 : decode cX11_steps 70 = .ok (.dup2, 1) := by decide +kernel
theorem dX11_steps_71 : decode cX11_steps 71 = .ok (.iaload, 1) := by decide +kernel
theorem dX11_steps_72 : decode cX11_steps 72 = .ok (.iconst 1, 1) := by decide +kernel
theorem dX11_steps_73 : decode cX11_steps 73 = .ok (.iadd, 1) := by decide +kernel
theorem dX11_steps_74 : decode cX11_steps 74 = .ok (.iastore, 1) := by decide +kernel
theorem dX11_steps_75 : decode cX11_steps 75 = .ok (.aload_n 0, 1) := by decide +kernel
theorem dX11_steps_76 : decode cX11_steps 76 = .ok (.iload_n 1, 1) := by decide +kernel
theorem dX11_steps_77 : decode cX11_steps 77 = .ok (.iload_n 3, 1) := by decide +kernel
theorem dX11_steps_78 : decode cX11_steps 78 = .ok (.iconst (-1), 1) := by decide +kernel
theorem dX11_steps_79 : decode cX11_steps 79 = .ok (.invokevirtual 146, 3) := by decide +kernel
theorem dX11_steps_82 : decode cX11_steps 82 = .ok (.ireturn, 1) := by decide +kernel
theorem dX11_undo_0 : decode cX11_undo 0 = .ok (.aload_n 0, 1) := by decide +kernel
theorem dX11_undo_1 : decode cX11_undo 1 = .ok (.getfield 61, 3) := by decide +kernel
theorem dX11_undo_4 : decode cX11_undo 4 = .ok (.ifCond .ne 6, 3) := by decide +kernel
theorem dX11_undo_7 : decode cX11_undo 7 = .ok (.bipush (-2), 2) := by decide +kernel
theorem dX11_undo_9 : decode cX11_undo 9 = .ok (.ireturn, 1) := by decide +kernel
theorem dX11_undo_10 : decode cX11_undo 10 = .ok (.aload_n 0, 1) := by decide +kernel
theorem dX11_undo_11 : decode cX11_undo 11 = .ok (.dup, 1) := by decide +kernel
theorem dX11_undo_12 : decode cX11_undo 12 = .ok (.getfield 61, 3) := by decide +kernel
theorem dX11_undo_15 : decode cX11_undo 15 = .ok (.iconst 1, 1) := by decide +kernel
theorem dX11_undo_16 : decode cX11_undo 16 = .ok (.isub, 1) := by decide +kernel
theorem dX11_undo_17 : decode cX11_undo 17 = .ok (.putfield 61, 3) := by decide +kernel
theorem dX11_undo_20 : decode cX11_undo 20 = .ok (.aload_n 0, 1) := by decide +kernel
theorem dX11_undo_21 : decode cX11_undo 21 = .ok (.getfield 19, 3) := by decide +kernel
theorem dX11_undo_24 : decode cX11_undo 24 = .ok (.bipush 9, 2) := by decide +kernel
theorem dX11_undo_26 : decode cX11_undo 26 = .ok (.aload_n 0, 1) := by decide +kernel
theorem dX11_undo_27 : decode cX11_undo 27 = .ok (.getfield 61, 3) := by decide +kernel
theorem dX11_undo_30 : decode cX11_undo 30 = .ok (.imul, 1) := by decide +kernel
theorem dX11_undo_31 : decode cX11_undo 31 = .ok (.aload_n 0, 1) := by decide +kernel
theorem dX11_undo_32 : decode cX11_undo 32 = .ok (.getfield 16, 3) := by decide +kernel
theorem dX11_undo_35 : decode cX11_undo 35 = .ok (.iconst 0, 1) := by decide +kernel
theorem dX11_undo_36 : decode cX11_undo 36 = .ok (.invokestatic 133, 3) := by decide +kernel
theorem dX11_undo_39 : decode cX11_undo 39 = .ok (.aload_n 0, 1) := by decide +kernel
theorem dX11_undo_40 : decode cX11_undo 40 = .ok (.getfield 61, 3) := by decide +kernel
theorem dX11_undo_43 : decode cX11_undo 43 = .ok (.ireturn, 1) := by decide +kernel
theorem dX11_envyBy_0 : decode cX11_envyBy 0 = .ok (.aload_n 0, 1) := by decide +kernel
theorem dX11_envyBy_1 : decode cX11_envyBy 1 = .ok (.iload_n 1, 1) := by decide +kernel
theorem dX11_envyBy_2 : decode cX11_envyBy 2 = .ok (.iload_n 3, 1) := by decide +kernel
theorem dX11_envyBy_3 : decode cX11_envyBy 3 = .ok (.invokevirtual 125, 3) := by decide +kernel
theorem dX11_envyBy_6 : decode cX11_envyBy 6 = .ok (.aload_n 0, 1) := by decide +kernel
theorem dX11_envyBy_7 : decode cX11_envyBy 7 = .ok (.iload_n 1, 1) := by decide +kernel
theorem dX11_envyBy_8 : decode cX11_envyBy 8 = .ok (.iload_n 2, 1) := by decide +kernel
theorem dX11_envyBy_9 : decode cX11_envyBy 9 = .ok (.invokevirtual 125, 3) := by decide +kernel
theorem dX11_envyBy_12 : decode cX11_envyBy 12 = .ok (.isub, 1) := by decide +kernel
theorem dX11_envyBy_13 : decode cX11_envyBy 13 = .ok (.istore 4, 2) := by decide +kernel
theorem dX11_envyBy_15 : decode cX11_envyBy 15 = .ok (.iload 4, 2) := by decide +kernel
theorem dX11_envyBy_17 : decode cX11_envyBy 17 = .ok (.ifCond .le 8, 3) := by decide +kernel
theorem dX11_envyBy_20 : decode cX11_envyBy 20 = .ok (.iload 4, 2) := by decide +kernel
theorem dX11_envyBy_22 : decode cX11_envyBy 22 = .ok (.goto 4, 3) := by decide +kernel
theorem dX11_envyBy_25 : decode cX11_envyBy 25 = .ok (.iconst 0, 1) := by decide +kernel
theorem dX11_envyBy_26 : decode cX11_envyBy 26 = .ok (.ireturn, 1) := by decide +kernel
theorem dX11_envy_0 : decode cX11_envy 0 = .ok (.iload_n 1, 1) := by decide +kernel
theorem dX11_envy_1 : decode cX11_envy 1 = .ok (.invokestatic 119, 3) := by decide +kernel
theorem dX11_envy_4 : decode cX11_envy 4 = .ok (.ifCond .eq 23, 3) := by decide +kernel
theorem dX11_envy_7 : decode cX11_envy 7 = .ok (.aload_n 0, 1) := by decide +kernel
theorem dX11_envy_8 : decode cX11_envy 8 = .ok (.iload_n 1, 1) := by decide +kernel
theorem dX11_envy_9 : decode cX11_envy 9 = .ok (.aload_n 0, 1) := by decide +kernel
theorem dX11_envy_10 : decode cX11_envy 10 = .ok (.iload_n 1, 1) := by decide +kernel
theorem dX11_envy_11 : decode cX11_envy 11 = .ok (.invokevirtual 129, 3) := by decide +kernel
theorem dX11_envy_14 : decode cX11_envy 14 = .ok (.aload_n 0, 1) := by decide +kernel
theorem dX11_envy_15 : decode cX11_envy 15 = .ok (.iconst 1, 1) := by decide +kernel
theorem dX11_envy_16 : decode cX11_envy 16 = .ok (.iload_n 1, 1) := by decide +kernel
theorem dX11_envy_17 : decode cX11_envy 17 = .ok (.isub, 1) := by decide +kernel
theorem dX11_envy_18 : decode cX11_envy 18 = .ok (.invokevirtual 129, 3) := by decide +kernel
theorem dX11_envy_21 : decode cX11_envy 21 = .ok (.invokevirtual 150, 3) := by decide +kernel
theorem dX11_envy_24 : decode cX11_envy 24 = .ok (.goto 4, 3) := by decide +kernel
theorem dX11_envy_27 : decode cX11_envy 27 = .ok (.iconst (-1), 1) := by decide +kernel
theorem dX11_envy_28 : decode cX11_envy 28 = .ok (.ireturn, 1) := by decide +kernel
theorem dX11_isFair_0 : decode cX11_isFair 0 = .ok (.aload_n 0, 1) := by decide +kernel
theorem dX11_isFair_1 : decode cX11_isFair 1 = .ok (.invokevirtual 122, 3) := by decide +kernel
theorem dX11_isFair_4 : decode cX11_isFair 4 = .ok (.iload_n 1, 1) := by decide +kernel
theorem dX11_isFair_5 : decode cX11_isFair 5 = .ok (.iconst (-1), 1) := by decide +kernel
theorem dX11_isFair_6 : decode cX11_isFair 6 = .ok (.ixor, 1) := by decide +kernel
theorem dX11_isFair_7 : decode cX11_isFair 7 = .ok (.iand, 1) := by decide +kernel
theorem dX11_isFair_8 : decode cX11_isFair 8 = .ok (.istore_n 2, 1) := by decide +kernel
theorem dX11_isFair_9 : decode cX11_isFair 9 = .ok (.aload_n 0, 1) := by decide +kernel
theorem dX11_isFair_10 : decode cX11_isFair 10 = .ok (.iconst 0, 1) := by decide +kernel
theorem dX11_isFair_11 : decode cX11_isFair 11 = .ok (.iload_n 2, 1) := by decide +kernel
theorem dX11_isFair_12 : decode cX11_isFair 12 = .ok (.iload_n 1, 1) := by decide +kernel
theorem dX11_isFair_13 : decode cX11_isFair 13 = .ok (.invokevirtual 150, 3) := by decide +kernel
theorem dX11_isFair_16 : decode cX11_isFair 16 = .ok (.ifCond .ne 17, 3) := by decide +kernel
theorem dX11_isFair_19 : decode cX11_isFair 19 = .ok (.aload_n 0, 1) := by decide +kernel
theorem dX11_isFair_20 : decode cX11_isFair 20 = .ok (.iconst 1, 1) := by decide +kernel
theorem dX11_isFair_21 : decode cX11_isFair 21 = .ok (.iload_n 1, 1) := by decide +kernel
theorem dX11_isFair_22 : decode cX11_isFair 22 = .ok (.iload_n 2, 1) := by decide +kernel
theorem dX11_isFair_23 : decode cX11_isFair 23 = .ok (.invokevirtual 150, 3) := by decide +kernel
theorem dX11_isFair_26 : decode cX11_isFair 26 = .ok (.ifCond .ne 7, 3) := by decide +kernel
theorem dX11_isFair_29 : decode cX11_isFair 29 = .ok (.iconst 1, 1) := by decide +kernel
theorem dX11_isFair_30 : decode cX11_isFair 30 = .ok (.goto 4, 3) := by decide +kernel
theorem dX11_isFair_33 : decode cX11_isFair 33 = .ok (.iconst 0, 1) := by decide +kernel
theorem dX11_isFair_34 : decode cX11_isFair 34 = .ok (.ireturn, 1) := by decide +kernel
theorem dX11_together_0 : decode cX11_together 0 = .ok (.aload_n 0, 1) := by decide +kernel
theorem dX11_together_1 : decode cX11_together 1 = .ok (.iconst 0, 1) := by decide +kernel
theorem dX11_together_2 : decode cX11_together 2 = .ok (.aload_n 0, 1) := by decide +kernel
theorem dX11_together_3 : decode cX11_together 3 = .ok (.invokevirtual 122, 3) := by decide +kernel
theorem dX11_together_6 : decode cX11_together 6 = .ok (.iload_n 1, 1) := by decide +kernel
theorem dX11_together_7 : decode cX11_together 7 = .ok (.iconst (-1), 1) := by decide +kernel
theorem dX11_together_8 : decode cX11_together 8 = .ok (.ixor, 1) := by decide +kernel
theorem dX11_together_9 : decode cX11_together 9 = .ok (.iand, 1) := by decide +kernel
theorem dX11_together_10 : decode cX11_together 10 = .ok (.invokevirtual 125, 3) := by decide +kernel
theorem dX11_together_13 : decode cX11_together 13 = .ok (.aload_n 0, 1) := by decide +kernel
theorem dX11_together_14 : decode cX11_together 14 = .ok (.iconst 1, 1) := by decide +kernel
theorem dX11_together_15 : decode cX11_together 15 = .ok (.iload_n 1, 1) := by decide +kernel
theorem dX11_together_16 : decode cX11_together 16 = .ok (.invokevirtual 125, 3) := by decide +kernel
theorem dX11_together_19 : decode cX11_together 19 = .ok (.iadd, 1) := by decide +kernel
theorem dX11_together_20 : decode cX11_together 20 = .ok (.ireturn, 1) := by decide +kernel
theorem dX11_best_0 : decode cX11_best 0 = .ok (.bipush (-9), 2) := by decide +kernel
theorem dX11_best_2 : decode cX11_best 2 = .ok (.istore_n 2, 1) := by decide +kernel
theorem dX11_best_3 : decode cX11_best 3 = .ok (.iconst 0, 1) := by decide +kernel
theorem dX11_best_4 : decode cX11_best 4 = .ok (.istore_n 3, 1) := by decide +kernel
theorem dX11_best_5 : decode cX11_best 5 = .ok (.iload_n 3, 1) := by decide +kernel
theorem dX11_best_6 : decode cX11_best 6 = .ok (.aload_n 0, 1) := by decide +kernel
theorem dX11_best_7 : decode cX11_best 7 = .ok (.invokevirtual 122, 3) := by decide +kernel
theorem dX11_best_10 : decode cX11_best 10 = .ok (.if_icmp .gt 58, 3) := by decide +kernel
theorem dX11_best_13 : decode cX11_best 13 = .ok (.iload_n 1, 1) := by decide +kernel
theorem dX11_best_14 : decode cX11_best 14 = .ok (.ifCond .eq 11, 3) := by decide +kernel
theorem dX11_best_17 : decode cX11_best 17 = .ok (.aload_n 0, 1) := by decide +kernel
theorem dX11_best_18 : decode cX11_best 18 = .ok (.iload_n 3, 1) := by decide +kernel
theorem dX11_best_19 : decode cX11_best 19 = .ok (.invokevirtual 153, 3) := by decide +kernel
theorem dX11_best_22 : decode cX11_best 22 = .ok (.ifCond .eq 7, 3) := by decide +kernel
theorem dX11_best_25 : decode cX11_best 25 = .ok (.iconst 1, 1) := by decide +kernel
theorem dX11_best_26 : decode cX11_best 26 = .ok (.goto 4, 3) := by decide +kernel
theorem dX11_best_29 : decode cX11_best 29 = .ok (.iconst 0, 1) := by decide +kernel
theorem dX11_best_30 : decode cX11_best 30 = .ok (.istore 4, 2) := by decide +kernel
theorem dX11_best_32 : decode cX11_best 32 = .ok (.iload 4, 2) := by decide +kernel
theorem dX11_best_34 : decode cX11_best 34 = .ok (.ifCond .eq 26, 3) := by decide +kernel
theorem dX11_best_37 : decode cX11_best 37 = .ok (.iload_n 2, 1) := by decide +kernel
theorem dX11_best_38 : decode cX11_best 38 = .ok (.bipush (-9), 2) := by decide +kernel
theorem dX11_best_40 : decode cX11_best 40 = .ok (.if_icmp .eq 16, 3) := by decide +kernel
theorem dX11_best_43 : decode cX11_best 43 = .ok (.aload_n 0, 1) := by decide +kernel
theorem dX11_best_44 : decode cX11_best 44 = .ok (.iload_n 3, 1) := by decide +kernel
theorem dX11_best_45 : decode cX11_best 45 = .ok (.invokevirtual 156, 3) := by decide +kernel
theorem dX11_best_48 : decode cX11_best 48 = .ok (.aload_n 0, 1) := by decide +kernel
theorem dX11_best_49 : decode cX11_best 49 = .ok (.iload_n 2, 1) := by decide +kernel
theorem dX11_best_50 : decode cX11_best 50 = .ok (.invokevirtual 156, 3) := by decide +kernel
theorem dX11_best_53 : decode cX11_best 53 = .ok (.if_icmp .le 7, 3) := by decide +kernel
theorem dX11_best_56 : decode cX11_best 56 = .ok (.iload_n 3, 1) := by decide +kernel
theorem dX11_best_57 : decode cX11_best 57 = .ok (.goto 4, 3) := by decide +kernel
theorem dX11_best_60 : decode cX11_best 60 = .ok (.iload_n 2, 1) := by decide +kernel
theorem dX11_best_61 : decode cX11_best 61 = .ok (.istore_n 2, 1) := by decide +kernel
theorem dX11_best_62 : decode cX11_best 62 = .ok (.iinc 3 1, 3) := by decide +kernel
theorem dX11_best_65 : decode cX11_best 65 = .ok (.goto (-60), 3) := by decide +kernel
theorem dX11_best_68 : decode cX11_best 68 = .ok (.iload_n 2, 1) := by decide +kernel
theorem dX11_best_69 : decode cX11_best 69 = .ok (.ireturn, 1) := by decide +kernel
theorem dX11_fair_0 : decode cX11_fair 0 = .ok (.iload_n 1, 1) := by decide +kernel
theorem dX11_fair_1 : decode cX11_fair 1 = .ok (.i2l, 1) := by decide +kernel
theorem dX11_fair_2 : decode cX11_fair 2 = .ok (.lconst 0, 1) := by decide +kernel
theorem dX11_fair_3 : decode cX11_fair 3 = .ok (.ldc2_w 159, 3) := by decide +kernel
theorem dX11_fair_6 : decode cX11_fair 6 = .ok (.invokestatic 57, 3) := by decide +kernel
theorem dX11_fair_9 : decode cX11_fair 9 = .ok (.ifCond .ne 5, 3) := by decide +kernel
theorem dX11_fair_12 : decode cX11_fair 12 = .ok (.iconst (-1), 1) := by decide +kernel
theorem dX11_fair_13 : decode cX11_fair 13 = .ok (.ireturn, 1) := by decide +kernel
theorem dX11_fair_14 : decode cX11_fair 14 = .ok (.iload_n 1, 1) := by decide +kernel
theorem dX11_fair_15 : decode cX11_fair 15 = .ok (.ifCond .ne 39, 3) := by decide +kernel
theorem dX11_fair_18 : decode cX11_fair 18 = .ok (.iconst 0, 1) := by decide +kernel
theorem dX11_fair_19 : decode cX11_fair 19 = .ok (.istore_n 2, 1) := by decide +kernel
theorem dX11_fair_20 : decode cX11_fair 20 = .ok (.iconst 0, 1) := by decide +kernel
theorem dX11_fair_21 : decode cX11_fair 21 = .ok (.istore_n 3, 1) := by decide +kernel
theorem dX11_fair_22 : decode cX11_fair 22 = .ok (.iload_n 3, 1) := by decide +kernel
theorem dX11_fair_23 : decode cX11_fair 23 = .ok (.aload_n 0, 1) := by decide +kernel
theorem dX11_fair_24 : decode cX11_fair 24 = .ok (.invokevirtual 122, 3) := by decide +kernel
theorem dX11_fair_27 : decode cX11_fair 27 = .ok (.if_icmp .gt 25, 3) := by decide +kernel
theorem dX11_fair_30 : decode cX11_fair 30 = .ok (.iload_n 2, 1) := by decide +kernel
theorem dX11_fair_31 : decode cX11_fair 31 = .ok (.aload_n 0, 1) := by decide +kernel
theorem dX11_fair_32 : decode cX11_fair 32 = .ok (.iload_n 3, 1) := by decide +kernel
theorem dX11_fair_33 : decode cX11_fair 33 = .ok (.invokevirtual 153, 3) := by decide +kernel
theorem dX11_fair_36 : decode cX11_fair 36 = .ok (.ifCond .eq 7, 3) := by decide +kernel
theorem dX11_fair_39 : decode cX11_fair 39 = .ok (.iconst 1, 1) := by decide +kernel
theorem dX11_fair_40 : decode cX11_fair 40 = .ok (.goto 4, 3) := by decide +kernel
theorem dX11_fair_43 : decode cX11_fair 43 = .ok (.iconst 0, 1) := by decide +kernel
theorem dX11_fair_44 : decode cX11_fair 44 = .ok (.iadd, 1) := by decide +kernel
theorem dX11_fair_45 : decode cX11_fair 45 = .ok (.istore_n 2, 1) := by decide +kernel
theorem dX11_fair_46 : decode cX11_fair 46 = .ok (.iinc 3 1, 3) := by decide +kernel
theorem dX11_fair_49 : decode cX11_fair 49 = .ok (.goto (-27), 3) := by decide +kernel
theorem dX11_fair_52 : decode cX11_fair 52 = .ok (.iload_n 2, 1) := by decide +kernel
theorem dX11_fair_53 : decode cX11_fair 53 = .ok (.ireturn, 1) := by decide +kernel
theorem dX11_fair_54 : decode cX11_fair 54 = .ok (.aload_n 0, 1) := by decide +kernel
theorem dX11_fair_55 : decode cX11_fair 55 = .ok (.iconst 1, 1) := by decide +kernel
theorem dX11_fair_56 : decode cX11_fair 56 = .ok (.invokevirtual 161, 3) := by decide +kernel
theorem dX11_fair_59 : decode cX11_fair 59 = .ok (.istore_n 2, 1) := by decide +kernel
theorem dX11_fair_60 : decode cX11_fair 60 = .ok (.iload_n 2, 1) := by decide +kernel
theorem dX11_fair_61 : decode cX11_fair 61 = .ok (.bipush (-9), 2) := by decide +kernel
theorem dX11_fair_63 : decode cX11_fair 63 = .ok (.if_icmp .eq 8, 3) := by decide +kernel
theorem dX11_fair_66 : decode cX11_fair 66 = .ok (.iload_n 1, 1) := by decide +kernel
theorem dX11_fair_67 : decode cX11_fair 67 = .ok (.iconst 1, 1) := by decide +kernel
theorem dX11_fair_68 : decode cX11_fair 68 = .ok (.if_icmp .ne 5, 3) := by decide +kernel
theorem dX11_fair_71 : decode cX11_fair 71 = .ok (.iload_n 2, 1) := by decide +kernel
theorem dX11_fair_72 : decode cX11_fair 72 = .ok (.ireturn, 1) := by decide +kernel
theorem dX11_fair_73 : decode cX11_fair 73 = .ok (.iload_n 1, 1) := by decide +kernel
theorem dX11_fair_74 : decode cX11_fair 74 = .ok (.iconst 2, 1) := by decide +kernel
theorem dX11_fair_75 : decode cX11_fair 75 = .ok (.if_icmp .ne 11, 3) := by decide +kernel
theorem dX11_fair_78 : decode cX11_fair 78 = .ok (.aload_n 0, 1) := by decide +kernel
theorem dX11_fair_79 : decode cX11_fair 79 = .ok (.iload_n 2, 1) := by decide +kernel
theorem dX11_fair_80 : decode cX11_fair 80 = .ok (.invokevirtual 156, 3) := by decide +kernel
theorem dX11_fair_83 : decode cX11_fair 83 = .ok (.goto 18, 3) := by decide +kernel
theorem dX11_fair_86 : decode cX11_fair 86 = .ok (.aload_n 0, 1) := by decide +kernel
theorem dX11_fair_87 : decode cX11_fair 87 = .ok (.aload_n 0, 1) := by decide +kernel
theorem dX11_fair_88 : decode cX11_fair 88 = .ok (.iconst 0, 1) := by decide +kernel
theorem dX11_fair_89 : decode cX11_fair 89 = .ok (.invokevirtual 161, 3) := by decide +kernel
theorem dX11_fair_92 : decode cX11_fair 92 = .ok (.invokevirtual 156, 3) := by decide +kernel
theorem dX11_fair_95 : decode cX11_fair 95 = .ok (.aload_n 0, 1) := by decide +kernel
theorem dX11_fair_96 : decode cX11_fair 96 = .ok (.iload_n 2, 1) := by decide +kernel
theorem dX11_fair_97 : decode cX11_fair 97 = .ok (.invokevirtual 156, 3) := by decide +kernel
theorem dX11_fair_100 : decode cX11_fair 100 = .ok (.isub, 1) := by decide +kernel
theorem dX11_fair_101 : decode cX11_fair 101 = .ok (.ireturn, 1) := by decide +kernel
theorem dX11_cut_0 : decode cX11_cut 0 = .ok (.iload_n 1, 1) := by decide +kernel
theorem dX11_cut_1 : decode cX11_cut 1 = .ok (.invokestatic 119, 3) := by decide +kernel
theorem dX11_cut_4 : decode cX11_cut 4 = .ok (.ifCond .eq 10, 3) := by decide +kernel
theorem dX11_cut_7 : decode cX11_cut 7 = .ok (.iload_n 2, 1) := by decide +kernel
theorem dX11_cut_8 : decode cX11_cut 8 = .ok (.invokestatic 119, 3) := by decide +kernel
theorem dX11_cut_11 : decode cX11_cut 11 = .ok (.ifCond .ne 5, 3) := by decide +kernel
theorem dX11_cut_14 : decode cX11_cut 14 = .ok (.iconst (-1), 1) := by decide +kernel
theorem dX11_cut_15 : decode cX11_cut 15 = .ok (.ireturn, 1) := by decide +kernel
theorem dX11_cut_16 : decode cX11_cut 16 = .ok (.iconst 0, 1) := by decide +kernel
theorem dX11_cut_17 : decode cX11_cut 17 = .ok (.istore_n 3, 1) := by decide +kernel
theorem dX11_cut_18 : decode cX11_cut 18 = .ok (.iconst (-1), 1) := by decide +kernel
theorem dX11_cut_19 : decode cX11_cut 19 = .ok (.istore 4, 2) := by decide +kernel
theorem dX11_cut_21 : decode cX11_cut 21 = .ok (.iconst 0, 1) := by decide +kernel
theorem dX11_cut_22 : decode cX11_cut 22 = .ok (.istore 5, 2) := by decide +kernel
theorem dX11_cut_24 : decode cX11_cut 24 = .ok (.iload 5, 2) := by decide +kernel
theorem dX11_cut_26 : decode cX11_cut 26 = .ok (.aload_n 0, 1) := by decide +kernel
theorem dX11_cut_27 : decode cX11_cut 27 = .ok (.invokevirtual 122, 3) := by decide +kernel
theorem dX11_cut_30 : decode cX11_cut 30 = .ok (.if_icmp .gt 97, 3) := by decide +kernel
theorem dX11_cut_33 : decode cX11_cut 33 = .ok (.aload_n 0, 1) := by decide +kernel
theorem dX11_cut_34 : decode cX11_cut 34 = .ok (.invokevirtual 122, 3) := by decide +kernel
theorem dX11_cut_37 : decode cX11_cut 37 = .ok (.iload 5, 2) := by decide +kernel
theorem dX11_cut_39 : decode cX11_cut 39 = .ok (.iconst (-1), 1) := by decide +kernel
theorem dX11_cut_40 : decode cX11_cut 40 = .ok (.ixor, 1) := by decide +kernel
theorem dX11_cut_41 : decode cX11_cut 41 = .ok (.iand, 1) := by decide +kernel
theorem dX11_cut_42 : decode cX11_cut 42 = .ok (.istore 6, 2) := by decide +kernel
theorem dX11_cut_44 : decode cX11_cut 44 = .ok (.aload_n 0, 1) := by decide +kernel
theorem dX11_cut_45 : decode cX11_cut 45 = .ok (.iconst 1, 1) := by decide +kernel
theorem dX11_cut_46 : decode cX11_cut 46 = .ok (.iload_n 1, 1) := by decide +kernel
theorem dX11_cut_47 : decode cX11_cut 47 = .ok (.isub, 1) := by decide +kernel
theorem dX11_cut_48 : decode cX11_cut 48 = .ok (.iload 5, 2) := by decide +kernel
theorem dX11_cut_50 : decode cX11_cut 50 = .ok (.invokevirtual 125, 3) := by decide +kernel
theorem dX11_cut_53 : decode cX11_cut 53 = .ok (.aload_n 0, 1) := by decide +kernel
theorem dX11_cut_54 : decode cX11_cut 54 = .ok (.iconst 1, 1) := by decide +kernel
theorem dX11_cut_55 : decode cX11_cut 55 = .ok (.iload_n 1, 1) := by decide +kernel
theorem dX11_cut_56 : decode cX11_cut 56 = .ok (.isub, 1) := by decide +kernel
theorem dX11_cut_57 : decode cX11_cut 57 = .ok (.iload 6, 2) := by decide +kernel
theorem dX11_cut_59 : decode cX11_cut 59 = .ok (.invokevirtual 125, 3) := by decide +kernel
theorem dX11_cut_62 : decode cX11_cut 62 = .ok (.if_icmp .le 7, 3) := by decide +kernel
theorem dX11_cut_65 : decode cX11_cut 65 = .ok (.iconst 1, 1) := by decide +kernel
theorem dX11_cut_66 : decode cX11_cut 66 = .ok (.goto 4, 3) := by decide +kernel
theorem dX11_cut_69 : decode cX11_cut 69 = .ok (.iconst 0, 1) := by decide +kernel
theorem dX11_cut_70 : decode cX11_cut 70 = .ok (.istore 7, 2) := by decide +kernel
theorem dX11_cut_72 : decode cX11_cut 72 = .ok (.aload_n 0, 1) := by decide +kernel
theorem dX11_cut_73 : decode cX11_cut 73 = .ok (.iload_n 1, 1) := by decide +kernel
theorem dX11_cut_74 : decode cX11_cut 74 = .ok (.iload 7, 2) := by decide +kernel
theorem dX11_cut_76 : decode cX11_cut 76 = .ok (.ifCond .eq 8, 3) := by decide +kernel
theorem dX11_cut_79 : decode cX11_cut 79 = .ok (.iload 6, 2) := by decide +kernel
theorem dX11_cut_81 : decode cX11_cut 81 = .ok (.goto 5, 3) := by decide +kernel
theorem dX11_cut_84 : decode cX11_cut 84 = .ok (.iload 5, 2) := by decide +kernel
theorem dX11_cut_86 : decode cX11_cut 86 = .ok (.invokevirtual 125, 3) := by decide +kernel
theorem dX11_cut_89 : decode cX11_cut 89 = .ok (.istore 8, 2) := by decide +kernel
theorem dX11_cut_91 : decode cX11_cut 91 = .ok (.iload 8, 2) := by decide +kernel
theorem dX11_cut_93 : decode cX11_cut 93 = .ok (.iload 4, 2) := by decide +kernel
theorem dX11_cut_95 : decode cX11_cut 95 = .ok (.if_icmp .le 8, 3) := by decide +kernel
theorem dX11_cut_98 : decode cX11_cut 98 = .ok (.iload 5, 2) := by decide +kernel
theorem dX11_cut_100 : decode cX11_cut 100 = .ok (.goto 4, 3) := by decide +kernel
theorem dX11_cut_103 : decode cX11_cut 103 = .ok (.iload_n 3, 1) := by decide +kernel
theorem dX11_cut_104 : decode cX11_cut 104 = .ok (.istore_n 3, 1) := by decide +kernel
theorem dX11_cut_105 : decode cX11_cut 105 = .ok (.iload 8, 2) := by decide +kernel
theorem dX11_cut_107 : decode cX11_cut 107 = .ok (.iload 4, 2) := by decide +kernel
theorem dX11_cut_109 : decode cX11_cut 109 = .ok (.if_icmp .le 8, 3) := by decide +kernel
theorem dX11_cut_112 : decode cX11_cut 112 = .ok (.iload 8, 2) := by decide +kernel
theorem dX11_cut_114 : decode cX11_cut 114 = .ok (.goto 5, 3) := by decide +kernel
theorem dX11_cut_117 : decode cX11_cut 117 = .ok (.iload 4, 2) := by decide +kernel
theorem dX11_cut_119 : decode cX11_cut 119 = .ok (.istore 4, 2) := by decide +kernel
theorem dX11_cut_121 : decode cX11_cut 121 = .ok (.iinc 5 1, 3) := by decide +kernel
theorem dX11_cut_124 : decode cX11_cut 124 = .ok (.goto (-100), 3) := by decide +kernel
theorem dX11_cut_127 : decode cX11_cut 127 = .ok (.iload_n 2, 1) := by decide +kernel
theorem dX11_cut_128 : decode cX11_cut 128 = .ok (.ifCond .ne 8, 3) := by decide +kernel
theorem dX11_cut_131 : decode cX11_cut 131 = .ok (.iload 4, 2) := by decide +kernel
theorem dX11_cut_133 : decode cX11_cut 133 = .ok (.goto 4, 3) := by decide +kernel
theorem dX11_cut_136 : decode cX11_cut 136 = .ok (.iload_n 3, 1) := by decide +kernel
theorem dX11_cut_137 : decode cX11_cut 137 = .ok (.ireturn, 1) := by decide +kernel
theorem dX11_layTurns_0 : decode cX11_layTurns 0 = .ok (.aload_n 0, 1) := by decide +kernel
theorem dX11_layTurns_1 : decode cX11_layTurns 1 = .ok (.iconst 2, 1) := by decide +kernel
theorem dX11_layTurns_2 : decode cX11_layTurns 2 = .ok (.invokevirtual 129, 3) := by decide +kernel
theorem dX11_layTurns_5 : decode cX11_layTurns 5 = .ok (.istore_n 2, 1) := by decide +kernel
theorem dX11_layTurns_6 : decode cX11_layTurns 6 = .ok (.aload_n 0, 1) := by decide +kernel
theorem dX11_layTurns_7 : decode cX11_layTurns 7 = .ok (.iconst 0, 1) := by decide +kernel
theorem dX11_layTurns_8 : decode cX11_layTurns 8 = .ok (.invokevirtual 129, 3) := by decide +kernel
theorem dX11_layTurns_11 : decode cX11_layTurns 11 = .ok (.istore_n 3, 1) := by decide +kernel
theorem dX11_layTurns_12 : decode cX11_layTurns 12 = .ok (.aload_n 0, 1) := by decide +kernel
theorem dX11_layTurns_13 : decode cX11_layTurns 13 = .ok (.iconst 1, 1) := by decide +kernel
theorem dX11_layTurns_14 : decode cX11_layTurns 14 = .ok (.invokevirtual 129, 3) := by decide +kernel
theorem dX11_layTurns_17 : decode cX11_layTurns 17 = .ok (.istore 4, 2) := by decide +kernel
theorem dX11_layTurns_19 : decode cX11_layTurns 19 = .ok (.iload_n 2, 1) := by decide +kernel
theorem dX11_layTurns_20 : decode cX11_layTurns 20 = .ok (.istore 5, 2) := by decide +kernel
theorem dX11_layTurns_22 : decode cX11_layTurns 22 = .ok (.iload 5, 2) := by decide +kernel
theorem dX11_layTurns_24 : decode cX11_layTurns 24 = .ok (.ifCond .lt 177, 3) := by decide +kernel
theorem dX11_layTurns_27 : decode cX11_layTurns 27 = .ok (.iload_n 2, 1) := by decide +kernel
theorem dX11_layTurns_28 : decode cX11_layTurns 28 = .ok (.istore 6, 2) := by decide +kernel
theorem dX11_layTurns_30 : decode cX11_layTurns 30 = .ok (.iload 6, 2) := by decide +kernel
theorem dX11_layTurns_32 : decode cX11_layTurns 32 = .ok (.ifCond .lt 163, 3) := by decide +kernel
theorem dX11_layTurns_35 : decode cX11_layTurns 35 = .ok (.bipush 64, 2) := by decide +kernel
theorem dX11_layTurns_37 : decode cX11_layTurns 37 = .ok (.iload 5, 2) := by decide +kernel
theorem dX11_layTurns_39 : decode cX11_layTurns 39 = .ok (.imul, 1) := by decide +kernel
theorem dX11_layTurns_40 : decode cX11_layTurns 40 = .ok (.iload 6, 2) := by decide +kernel
theorem dX11_layTurns_42 : decode cX11_layTurns 42 = .ok (.iadd, 1) := by decide +kernel
theorem dX11_layTurns_43 : decode cX11_layTurns 43 = .ok (.istore 7, 2) := by decide +kernel
theorem dX11_layTurns_45 : decode cX11_layTurns 45 = .ok (.aload_n 0, 1) := by decide +kernel
theorem dX11_layTurns_46 : decode cX11_layTurns 46 = .ok (.getfield 41, 3) := by decide +kernel
theorem dX11_layTurns_49 : decode cX11_layTurns 49 = .ok (.iload 7, 2) := by decide +kernel
theorem dX11_layTurns_51 : decode cX11_layTurns 51 = .ok (.bipush (-9), 2) := by decide +kernel
theorem dX11_layTurns_53 : decode cX11_layTurns 53 = .ok (.iastore, 1) := by decide +kernel
theorem dX11_layTurns_54 : decode cX11_layTurns 54 = .ok (.iload 5, 2) := by decide +kernel
theorem dX11_layTurns_56 : decode cX11_layTurns 56 = .ok (.iload 6, 2) := by decide +kernel
theorem dX11_layTurns_58 : decode cX11_layTurns 58 = .ok (.ior, 1) := by decide +kernel
theorem dX11_layTurns_59 : decode cX11_layTurns 59 = .ok (.iload_n 2, 1) := by decide +kernel
theorem dX11_layTurns_60 : decode cX11_layTurns 60 = .ok (.iconst (-1), 1) := by decide +kernel
theorem dX11_layTurns_61 : decode cX11_layTurns 61 = .ok (.ixor, 1) := by decide +kernel
theorem dX11_layTurns_62 : decode cX11_layTurns 62 = .ok (.iand, 1) := by decide +kernel
theorem dX11_layTurns_63 : decode cX11_layTurns 63 = .ok (.ifCond .ne 126, 3) := by decide +kernel
theorem dX11_layTurns_66 : decode cX11_layTurns 66 = .ok (.iload 5, 2) := by decide +kernel
theorem dX11_layTurns_68 : decode cX11_layTurns 68 = .ok (.iload 6, 2) := by decide +kernel
theorem dX11_layTurns_70 : decode cX11_layTurns 70 = .ok (.iand, 1) := by decide +kernel
theorem dX11_layTurns_71 : decode cX11_layTurns 71 = .ok (.ifCond .ne 118, 3) := by decide +kernel
theorem dX11_layTurns_74 : decode cX11_layTurns 74 = .ok (.iload 5, 2) := by decide +kernel
theorem dX11_layTurns_76 : decode cX11_layTurns 76 = .ok (.iload 6, 2) := by decide +kernel
theorem dX11_layTurns_78 : decode cX11_layTurns 78 = .ok (.ior, 1) := by decide +kernel
theorem dX11_layTurns_79 : decode cX11_layTurns 79 = .ok (.invokestatic 165, 3) := by decide +kernel
theorem dX11_layTurns_82 : decode cX11_layTurns 82 = .ok (.iconst 2, 1) := by decide +kernel
theorem dX11_layTurns_83 : decode cX11_layTurns 83 = .ok (.irem, 1) := by decide +kernel
theorem dX11_layTurns_84 : decode cX11_layTurns 84 = .ok (.ifCond .ne 7, 3) := by decide +kernel
theorem dX11_layTurns_87 : decode cX11_layTurns 87 = .ok (.iload_n 1, 1) := by decide +kernel
theorem dX11_layTurns_88 : decode cX11_layTurns 88 = .ok (.goto 6, 3) := by decide +kernel
theorem dX11_layTurns_91 : decode cX11_layTurns 91 = .ok (.iconst 1, 1) := by decide +kernel
theorem dX11_layTurns_92 : decode cX11_layTurns 92 = .ok (.iload_n 1, 1) := by decide +kernel
theorem dX11_layTurns_93 : decode cX11_layTurns 93 = .ok (.isub, 1) := by decide +kernel
theorem dX11_layTurns_94 : decode cX11_layTurns 94 = .ok (.istore 8, 2) := by decide +kernel
theorem dX11_layTurns_96 : decode cX11_layTurns 96 = .ok (.aload_n 0, 1) := by decide +kernel
theorem dX11_layTurns_97 : decode cX11_layTurns 97 = .ok (.getfield 7, 3) := by decide +kernel
theorem dX11_layTurns_100 : decode cX11_layTurns 100 = .ok (.iconst 0, 1) := by decide +kernel
theorem dX11_layTurns_101 : decode cX11_layTurns 101 = .ok (.iaload, 1) := by decide +kernel
theorem dX11_layTurns_102 : decode cX11_layTurns 102 = .ok (.iconst 1, 1) := by decide +kernel
theorem dX11_layTurns_103 : decode cX11_layTurns 103 = .ok (.isub, 1) := by decide +kernel
theorem dX11_layTurns_104 : decode cX11_layTurns 104 = .ok (.istore 9, 2) := by decide +kernel
theorem dX11_layTurns_106 : decode cX11_layTurns 106 = .ok (.iload 9, 2) := by decide +kernel
theorem dX11_layTurns_108 : decode cX11_layTurns 108 = .ok (.ifCond .lt 36, 3) := by decide +kernel
theorem dX11_layTurns_111 : decode cX11_layTurns 111 = .ok (.iload_n 2, 1) := by decide +kernel
theorem dX11_layTurns_112 : decode cX11_layTurns 112 = .ok (.iload 5, 2) := by decide +kernel
theorem dX11_layTurns_114 : decode cX11_layTurns 114 = .ok (.iload 6, 2) := by decide +kernel
theorem dX11_layTurns_116 : decode cX11_layTurns 116 = .ok (.ior, 1) := by decide +kernel
theorem dX11_layTurns_117 : decode cX11_layTurns 117 = .ok (.iconst (-1), 1) := by decide +kernel
theorem dX11_layTurns_118 : decode cX11_layTurns 118 = .ok (.ixor, 1) := by decide +kernel
theorem dX11_layTurns_119 : decode cX11_layTurns 119 = .ok (.iand, 1) := by decide +kernel
theorem dX11_layTurns_120 : decode cX11_layTurns 120 = .ok (.iload 9, 2) := by decide +kernel
theorem dX11_layTurns_122 : decode cX11_layTurns 122 = .ok (.invokestatic 97, 3) := by decide +kernel
theorem dX11_layTurns_125 : decode cX11_layTurns 125 = .ok (.ifCond .eq 13, 3) := by decide +kernel
theorem dX11_layTurns_128 : decode cX11_layTurns 128 = .ok (.aload_n 0, 1) := by decide +kernel
theorem dX11_layTurns_129 : decode cX11_layTurns 129 = .ok (.iload 7, 2) := by decide +kernel
theorem dX11_layTurns_131 : decode cX11_layTurns 131 = .ok (.iload 8, 2) := by decide +kernel
theorem dX11_layTurns_133 : decode cX11_layTurns 133 = .ok (.iload 9, 2) := by decide +kernel
theorem dX11_layTurns_135 : decode cX11_layTurns 135 = .ok (.invokevirtual 168, 3) := by decide +kernel
theorem dX11_layTurns_138 : decode cX11_layTurns 138 = .ok (.iinc 9 (-1), 3) := by decide +kernel
theorem dX11_layTurns_141 : decode cX11_layTurns 141 = .ok (.goto (-35), 3) := by decide +kernel
theorem dX11_layTurns_144 : decode cX11_layTurns 144 = .ok (.aload_n 0, 1) := by decide +kernel
theorem dX11_layTurns_145 : decode cX11_layTurns 145 = .ok (.getfield 41, 3) := by decide +kernel
theorem dX11_layTurns_148 : decode cX11_layTurns 148 = .ok (.iload 7, 2) := by decide +kernel
theorem dX11_layTurns_150 : decode cX11_layTurns 150 = .ok (.iaload, 1) := by decide +kernel
theorem dX11_layTurns_151 : decode cX11_layTurns 151 = .ok (.bipush (-9), 2) := by decide +kernel
theorem dX11_layTurns_153 : decode cX11_layTurns 153 = .ok (.if_icmp .ne 36, 3) := by decide +kernel
theorem dX11_layTurns_156 : decode cX11_layTurns 156 = .ok (.aload_n 0, 1) := by decide +kernel
theorem dX11_layTurns_157 : decode cX11_layTurns 157 = .ok (.getfield 35, 3) := by decide +kernel
theorem dX11_layTurns_160 : decode cX11_layTurns 160 = .ok (.iload 7, 2) := by decide +kernel
theorem dX11_layTurns_162 : decode cX11_layTurns 162 = .ok (.aload_n 0, 1) := by decide +kernel
theorem dX11_layTurns_163 : decode cX11_layTurns 163 = .ok (.iconst 0, 1) := by decide +kernel
theorem dX11_layTurns_164 : decode cX11_layTurns 164 = .ok (.iload_n 3, 1) := by decide +kernel
theorem dX11_layTurns_165 : decode cX11_layTurns 165 = .ok (.iload 5, 2) := by decide +kernel
theorem dX11_layTurns_167 : decode cX11_layTurns 167 = .ok (.ior, 1) := by decide +kernel
theorem dX11_layTurns_168 : decode cX11_layTurns 168 = .ok (.invokevirtual 125, 3) := by decide +kernel
theorem dX11_layTurns_171 : decode cX11_layTurns 171 = .ok (.iastore, 1) := by decide +kernel
theorem dX11_layTurns_172 : decode cX11_layTurns 172 = .ok (.aload_n 0, 1) := by decide +kernel
theorem dX11_layTurns_173 : decode cX11_layTurns 173 = .ok (.getfield 38, 3) := by decide +kernel
theorem dX11_layTurns_176 : decode cX11_layTurns 176 = .ok (.iload 7, 2) := by decide +kernel
theorem dX11_layTurns_178 : decode cX11_layTurns 178 = .ok (.aload_n 0, 1) := by decide +kernel
theorem dX11_layTurns_179 : decode cX11_layTurns 179 = .ok (.iconst 1, 1) := by decide +kernel
theorem dX11_layTurns_180 : decode cX11_layTurns 180 = .ok (.iload 4, 2) := by decide +kernel
theorem dX11_layTurns_182 : decode cX11_layTurns 182 = .ok (.iload 6, 2) := by decide +kernel
theorem dX11_layTurns_184 : decode cX11_layTurns 184 = .ok (.ior, 1) := by decide +kernel
theorem dX11_layTurns_185 : decode cX11_layTurns 185 = .ok (.invokevirtual 125, 3) := by decide +kernel
theorem dX11_layTurns_188 : decode cX11_layTurns 188 = .ok (.iastore, 1) := by decide +kernel
theorem dX11_layTurns_189 : decode cX11_layTurns 189 = .ok (.iinc 6 (-1), 3) := by decide +kernel
theorem dX11_layTurns_192 : decode cX11_layTurns 192 = .ok (.goto (-162), 3) := by decide +kernel
theorem dX11_layTurns_195 : decode cX11_layTurns 195 = .ok (.iinc 5 (-1), 3) := by decide +kernel
theorem dX11_layTurns_198 : decode cX11_layTurns 198 = .ok (.goto (-176), 3) := by decide +kernel
theorem dX11_layTurns_201 : decode cX11_layTurns 201 = .ok (.return_, 1) := by decide +kernel
theorem dX11_layTake_0 : decode cX11_layTake 0 = .ok (.iload_n 1, 1) := by decide +kernel
theorem dX11_layTake_1 : decode cX11_layTake 1 = .ok (.iload_n 2, 1) := by decide +kernel
theorem dX11_layTake_2 : decode cX11_layTake 2 = .ok (.ifCond .ne 10, 3) := by decide +kernel
theorem dX11_layTake_5 : decode cX11_layTake 5 = .ok (.bipush 64, 2) := by decide +kernel
theorem dX11_layTake_7 : decode cX11_layTake 7 = .ok (.iload_n 3, 1) := by decide +kernel
theorem dX11_layTake_8 : decode cX11_layTake 8 = .ok (.ishl, 1) := by decide +kernel
theorem dX11_layTake_9 : decode cX11_layTake 9 = .ok (.goto 6, 3) := by decide +kernel
theorem dX11_layTake_12 : decode cX11_layTake 12 = .ok (.iconst 1, 1) := by decide +kernel
theorem dX11_layTake_13 : decode cX11_layTake 13 = .ok (.iload_n 3, 1) := by decide +kernel
theorem dX11_layTake_14 : decode cX11_layTake 14 = .ok (.ishl, 1) := by decide +kernel
theorem dX11_layTake_15 : decode cX11_layTake 15 = .ok (.iadd, 1) := by decide +kernel
theorem dX11_layTake_16 : decode cX11_layTake 16 = .ok (.istore 4, 2) := by decide +kernel
theorem dX11_layTake_18 : decode cX11_layTake 18 = .ok (.iload_n 2, 1) := by decide +kernel
theorem dX11_layTake_19 : decode cX11_layTake 19 = .ok (.ifCond .ne 13, 3) := by decide +kernel
theorem dX11_layTake_22 : decode cX11_layTake 22 = .ok (.aload_n 0, 1) := by decide +kernel
theorem dX11_layTake_23 : decode cX11_layTake 23 = .ok (.getfield 35, 3) := by decide +kernel
theorem dX11_layTake_26 : decode cX11_layTake 26 = .ok (.iload 4, 2) := by decide +kernel
theorem dX11_layTake_28 : decode cX11_layTake 28 = .ok (.iaload, 1) := by decide +kernel
theorem dX11_layTake_29 : decode cX11_layTake 29 = .ok (.goto 10, 3) := by decide +kernel
theorem dX11_layTake_32 : decode cX11_layTake 32 = .ok (.aload_n 0, 1) := by decide +kernel
theorem dX11_layTake_33 : decode cX11_layTake 33 = .ok (.getfield 38, 3) := by decide +kernel
theorem dX11_layTake_36 : decode cX11_layTake 36 = .ok (.iload 4, 2) := by decide +kernel
theorem dX11_layTake_38 : decode cX11_layTake 38 = .ok (.iaload, 1) := by decide +kernel
theorem dX11_layTake_39 : decode cX11_layTake 39 = .ok (.istore 5, 2) := by decide +kernel
theorem dX11_layTake_41 : decode cX11_layTake 41 = .ok (.iload_n 2, 1) := by decide +kernel
theorem dX11_layTake_42 : decode cX11_layTake 42 = .ok (.ifCond .ne 12, 3) := by decide +kernel
theorem dX11_layTake_45 : decode cX11_layTake 45 = .ok (.aload_n 0, 1) := by decide +kernel
theorem dX11_layTake_46 : decode cX11_layTake 46 = .ok (.getfield 35, 3) := by decide +kernel
theorem dX11_layTake_49 : decode cX11_layTake 49 = .ok (.iload_n 1, 1) := by decide +kernel
theorem dX11_layTake_50 : decode cX11_layTake 50 = .ok (.iaload, 1) := by decide +kernel
theorem dX11_layTake_51 : decode cX11_layTake 51 = .ok (.goto 9, 3) := by decide +kernel
theorem dX11_layTake_54 : decode cX11_layTake 54 = .ok (.aload_n 0, 1) := by decide +kernel
theorem dX11_layTake_55 : decode cX11_layTake 55 = .ok (.getfield 38, 3) := by decide +kernel
theorem dX11_layTake_58 : decode cX11_layTake 58 = .ok (.iload_n 1, 1) := by decide +kernel
theorem dX11_layTake_59 : decode cX11_layTake 59 = .ok (.iaload, 1) := by decide +kernel
theorem dX11_layTake_60 : decode cX11_layTake 60 = .ok (.istore 6, 2) := by decide +kernel
theorem dX11_layTake_62 : decode cX11_layTake 62 = .ok (.aload_n 0, 1) := by decide +kernel
theorem dX11_layTake_63 : decode cX11_layTake 63 = .ok (.getfield 41, 3) := by decide +kernel
theorem dX11_layTake_66 : decode cX11_layTake 66 = .ok (.iload_n 1, 1) := by decide +kernel
theorem dX11_layTake_67 : decode cX11_layTake 67 = .ok (.iaload, 1) := by decide +kernel
theorem dX11_layTake_68 : decode cX11_layTake 68 = .ok (.bipush (-9), 2) := by decide +kernel
theorem dX11_layTake_70 : decode cX11_layTake 70 = .ok (.if_icmp .eq 10, 3) := by decide +kernel
theorem dX11_layTake_73 : decode cX11_layTake 73 = .ok (.iload 5, 2) := by decide +kernel
theorem dX11_layTake_75 : decode cX11_layTake 75 = .ok (.iload 6, 2) := by decide +kernel
theorem dX11_layTake_77 : decode cX11_layTake 77 = .ok (.if_icmp .lt 36, 3) := by decide +kernel
theorem dX11_layTake_80 : decode cX11_layTake 80 = .ok (.aload_n 0, 1) := by decide +kernel
theorem dX11_layTake_81 : decode cX11_layTake 81 = .ok (.getfield 41, 3) := by decide +kernel
theorem dX11_layTake_84 : decode cX11_layTake 84 = .ok (.iload_n 1, 1) := by decide +kernel
theorem dX11_layTake_85 : decode cX11_layTake 85 = .ok (.iload_n 3, 1) := by decide +kernel
theorem dX11_layTake_86 : decode cX11_layTake 86 = .ok (.iastore, 1) := by decide +kernel
theorem dX11_layTake_87 : decode cX11_layTake 87 = .ok (.aload_n 0, 1) := by decide +kernel
theorem dX11_layTake_88 : decode cX11_layTake 88 = .ok (.getfield 35, 3) := by decide +kernel
theorem dX11_layTake_91 : decode cX11_layTake 91 = .ok (.iload_n 1, 1) := by decide +kernel
theorem dX11_layTake_92 : decode cX11_layTake 92 = .ok (.aload_n 0, 1) := by decide +kernel
theorem dX11_layTake_93 : decode cX11_layTake 93 = .ok (.getfield 35, 3) := by decide +kernel
theorem dX11_layTake_96 : decode cX11_layTake 96 = .ok (.iload 4, 2) := by decide +kernel
theorem dX11_layTake_98 : decode cX11_layTake 98 = .ok (.iaload, 1) := by decide +kernel
theorem dX11_layTake_99 : decode cX11_layTake 99 = .ok (.iastore, 1) := by decide +kernel
theorem dX11_layTake_100 : decode cX11_layTake 100 = .ok (.aload_n 0, 1) := by decide +kernel
theorem dX11_layTake_101 : decode cX11_layTake 101 = .ok (.getfield 38, 3) := by decide +kernel
theorem dX11_layTake_104 : decode cX11_layTake 104 = .ok (.iload_n 1, 1) := by decide +kernel
theorem dX11_layTake_105 : decode cX11_layTake 105 = .ok (.aload_n 0, 1) := by decide +kernel
theorem dX11_layTake_106 : decode cX11_layTake 106 = .ok (.getfield 38, 3) := by decide +kernel
theorem dX11_layTake_109 : decode cX11_layTake 109 = .ok (.iload 4, 2) := by decide +kernel
theorem dX11_layTake_111 : decode cX11_layTake 111 = .ok (.iaload, 1) := by decide +kernel
theorem dX11_layTake_112 : decode cX11_layTake 112 = .ok (.iastore, 1) := by decide +kernel
theorem dX11_layTake_113 : decode cX11_layTake 113 = .ok (.return_, 1) := by decide +kernel
theorem dX11_byTurns_0 : decode cX11_byTurns 0 = .ok (.iload_n 1, 1) := by decide +kernel
theorem dX11_byTurns_1 : decode cX11_byTurns 1 = .ok (.invokestatic 119, 3) := by decide +kernel
theorem dX11_byTurns_4 : decode cX11_byTurns 4 = .ok (.ifCond .eq 15, 3) := by decide +kernel
theorem dX11_byTurns_7 : decode cX11_byTurns 7 = .ok (.iload_n 2, 1) := by decide +kernel
theorem dX11_byTurns_8 : decode cX11_byTurns 8 = .ok (.i2l, 1) := by decide +kernel
theorem dX11_byTurns_9 : decode cX11_byTurns 9 = .ok (.lconst 0, 1) := by decide +kernel
theorem dX11_byTurns_10 : decode cX11_byTurns 10 = .ok (.ldc2_w 117, 3) := by decide +kernel
theorem dX11_byTurns_13 : decode cX11_byTurns 13 = .ok (.invokestatic 57, 3) := by decide +kernel
theorem dX11_byTurns_16 : decode cX11_byTurns 16 = .ok (.ifCond .ne 5, 3) := by decide +kernel
theorem dX11_byTurns_19 : decode cX11_byTurns 19 = .ok (.iconst (-1), 1) := by decide +kernel
theorem dX11_byTurns_20 : decode cX11_byTurns 20 = .ok (.ireturn, 1) := by decide +kernel
theorem dX11_byTurns_21 : decode cX11_byTurns 21 = .ok (.aload_n 0, 1) := by decide +kernel
theorem dX11_byTurns_22 : decode cX11_byTurns 22 = .ok (.iload_n 1, 1) := by decide +kernel
theorem dX11_byTurns_23 : decode cX11_byTurns 23 = .ok (.invokevirtual 172, 3) := by decide +kernel
theorem dX11_byTurns_26 : decode cX11_byTurns 26 = .ok (.iload_n 2, 1) := by decide +kernel
theorem dX11_byTurns_27 : decode cX11_byTurns 27 = .ok (.ifCond .ne 12, 3) := by decide +kernel
theorem dX11_byTurns_30 : decode cX11_byTurns 30 = .ok (.aload_n 0, 1) := by decide +kernel
theorem dX11_byTurns_31 : decode cX11_byTurns 31 = .ok (.getfield 35, 3) := by decide +kernel
theorem dX11_byTurns_34 : decode cX11_byTurns 34 = .ok (.iconst 0, 1) := by decide +kernel
theorem dX11_byTurns_35 : decode cX11_byTurns 35 = .ok (.iaload, 1) := by decide +kernel
theorem dX11_byTurns_36 : decode cX11_byTurns 36 = .ok (.goto 23, 3) := by decide +kernel
theorem dX11_byTurns_39 : decode cX11_byTurns 39 = .ok (.iload_n 2, 1) := by decide +kernel
theorem dX11_byTurns_40 : decode cX11_byTurns 40 = .ok (.iconst 1, 1) := by decide +kernel
theorem dX11_byTurns_41 : decode cX11_byTurns 41 = .ok (.if_icmp .ne 12, 3) := by decide +kernel
theorem dX11_byTurns_44 : decode cX11_byTurns 44 = .ok (.aload_n 0, 1) := by decide +kernel
theorem dX11_byTurns_45 : decode cX11_byTurns 45 = .ok (.getfield 38, 3) := by decide +kernel
theorem dX11_byTurns_48 : decode cX11_byTurns 48 = .ok (.iconst 0, 1) := by decide +kernel
theorem dX11_byTurns_49 : decode cX11_byTurns 49 = .ok (.iaload, 1) := by decide +kernel
theorem dX11_byTurns_50 : decode cX11_byTurns 50 = .ok (.goto 9, 3) := by decide +kernel
theorem dX11_byTurns_53 : decode cX11_byTurns 53 = .ok (.aload_n 0, 1) := by decide +kernel
theorem dX11_byTurns_54 : decode cX11_byTurns 54 = .ok (.getfield 41, 3) := by decide +kernel
theorem dX11_byTurns_57 : decode cX11_byTurns 57 = .ok (.iconst 0, 1) := by decide +kernel
theorem dX11_byTurns_58 : decode cX11_byTurns 58 = .ok (.iaload, 1) := by decide +kernel
theorem dX11_byTurns_59 : decode cX11_byTurns 59 = .ok (.ireturn, 1) := by decide +kernel
theorem dX11_gains_0 : decode cX11_gains 0 = .ok (.iconst 4, 1) := by decide +kernel
theorem dX11_gains_1 : decode cX11_gains 1 = .ok (.bipush 6, 2) := by decide +kernel
theorem dX11_gains_3 : decode cX11_gains 3 = .ok (.iload_n 1, 1) := by decide +kernel
theorem dX11_gains_4 : decode cX11_gains 4 = .ok (.imul, 1) := by decide +kernel
theorem dX11_gains_5 : decode cX11_gains 5 = .ok (.iadd, 1) := by decide +kernel
theorem dX11_gains_6 : decode cX11_gains 6 = .ok (.iload_n 2, 1) := by decide +kernel
theorem dX11_gains_7 : decode cX11_gains 7 = .ok (.iadd, 1) := by decide +kernel
theorem dX11_gains_8 : decode cX11_gains 8 = .ok (.istore 4, 2) := by decide +kernel
theorem dX11_gains_10 : decode cX11_gains 10 = .ok (.aload_n 0, 1) := by decide +kernel
theorem dX11_gains_11 : decode cX11_gains 11 = .ok (.getfield 7, 3) := by decide +kernel
theorem dX11_gains_14 : decode cX11_gains 14 = .ok (.iload 4, 2) := by decide +kernel
theorem dX11_gains_16 : decode cX11_gains 16 = .ok (.iaload, 1) := by decide +kernel
theorem dX11_gains_17 : decode cX11_gains 17 = .ok (.istore 5, 2) := by decide +kernel
theorem dX11_gains_19 : decode cX11_gains 19 = .ok (.aload_n 0, 1) := by decide +kernel
theorem dX11_gains_20 : decode cX11_gains 20 = .ok (.getfield 7, 3) := by decide +kernel
theorem dX11_gains_23 : decode cX11_gains 23 = .ok (.iload 4, 2) := by decide +kernel
theorem dX11_gains_25 : decode cX11_gains 25 = .ok (.iload_n 3, 1) := by decide +kernel
theorem dX11_gains_26 : decode cX11_gains 26 = .ok (.iastore, 1) := by decide +kernel
theorem dX11_gains_27 : decode cX11_gains 27 = .ok (.aload_n 0, 1) := by decide +kernel
theorem dX11_gains_28 : decode cX11_gains 28 = .ok (.iconst 1, 1) := by decide +kernel
theorem dX11_gains_29 : decode cX11_gains 29 = .ok (.invokevirtual 161, 3) := by decide +kernel
theorem dX11_gains_32 : decode cX11_gains 32 = .ok (.istore 6, 2) := by decide +kernel
theorem dX11_gains_34 : decode cX11_gains 34 = .ok (.aload_n 0, 1) := by decide +kernel
theorem dX11_gains_35 : decode cX11_gains 35 = .ok (.getfield 7, 3) := by decide +kernel
theorem dX11_gains_38 : decode cX11_gains 38 = .ok (.iload 4, 2) := by decide +kernel
theorem dX11_gains_40 : decode cX11_gains 40 = .ok (.iload 5, 2) := by decide +kernel
theorem dX11_gains_42 : decode cX11_gains 42 = .ok (.iastore, 1) := by decide +kernel
theorem dX11_gains_43 : decode cX11_gains 43 = .ok (.iload 6, 2) := by decide +kernel
theorem dX11_gains_45 : decode cX11_gains 45 = .ok (.bipush (-9), 2) := by decide +kernel
theorem dX11_gains_47 : decode cX11_gains 47 = .ok (.if_icmp .ne 7, 3) := by decide +kernel
theorem dX11_gains_50 : decode cX11_gains 50 = .ok (.iconst 0, 1) := by decide +kernel
theorem dX11_gains_51 : decode cX11_gains 51 = .ok (.goto 27, 3) := by decide +kernel
theorem dX11_gains_54 : decode cX11_gains 54 = .ok (.aload_n 0, 1) := by decide +kernel
theorem dX11_gains_55 : decode cX11_gains 55 = .ok (.iload_n 1, 1) := by decide +kernel
theorem dX11_gains_56 : decode cX11_gains 56 = .ok (.iload_n 1, 1) := by decide +kernel
theorem dX11_gains_57 : decode cX11_gains 57 = .ok (.iconst 1, 1) := by decide +kernel
theorem dX11_gains_58 : decode cX11_gains 58 = .ok (.if_icmp .ne 8, 3) := by decide +kernel
theorem dX11_gains_61 : decode cX11_gains 61 = .ok (.iload 6, 2) := by decide +kernel
theorem dX11_gains_63 : decode cX11_gains 63 = .ok (.goto 12, 3) := by decide +kernel
theorem dX11_gains_66 : decode cX11_gains 66 = .ok (.aload_n 0, 1) := by decide +kernel
theorem dX11_gains_67 : decode cX11_gains 67 = .ok (.invokevirtual 122, 3) := by decide +kernel
theorem dX11_gains_70 : decode cX11_gains 70 = .ok (.iload 6, 2) := by decide +kernel
theorem dX11_gains_72 : decode cX11_gains 72 = .ok (.iconst (-1), 1) := by decide +kernel
theorem dX11_gains_73 : decode cX11_gains 73 = .ok (.ixor, 1) := by decide +kernel
theorem dX11_gains_74 : decode cX11_gains 74 = .ok (.iand, 1) := by decide +kernel
theorem dX11_gains_75 : decode cX11_gains 75 = .ok (.invokevirtual 125, 3) := by decide +kernel
theorem dX11_gains_78 : decode cX11_gains 78 = .ok (.ireturn, 1) := by decide +kernel
theorem dX11_lies_0 : decode cX11_lies 0 = .ok (.iload_n 1, 1) := by decide +kernel
theorem dX11_lies_1 : decode cX11_lies 1 = .ok (.invokestatic 119, 3) := by decide +kernel
theorem dX11_lies_4 : decode cX11_lies 4 = .ok (.ifCond .eq 10, 3) := by decide +kernel
theorem dX11_lies_7 : decode cX11_lies 7 = .ok (.iload_n 2, 1) := by decide +kernel
theorem dX11_lies_8 : decode cX11_lies 8 = .ok (.invokestatic 119, 3) := by decide +kernel
theorem dX11_lies_11 : decode cX11_lies 11 = .ok (.ifCond .ne 5, 3) := by decide +kernel
theorem dX11_lies_14 : decode cX11_lies 14 = .ok (.iconst (-1), 1) := by decide +kernel
theorem dX11_lies_15 : decode cX11_lies 15 = .ok (.ireturn, 1) := by decide +kernel
theorem dX11_lies_16 : decode cX11_lies 16 = .ok (.aload_n 0, 1) := by decide +kernel
theorem dX11_lies_17 : decode cX11_lies 17 = .ok (.getfield 7, 3) := by decide +kernel
theorem dX11_lies_20 : decode cX11_lies 20 = .ok (.iconst 0, 1) := by decide +kernel
theorem dX11_lies_21 : decode cX11_lies 21 = .ok (.iaload, 1) := by decide +kernel
theorem dX11_lies_22 : decode cX11_lies 22 = .ok (.ifCond .ne 7, 3) := by decide +kernel
theorem dX11_lies_25 : decode cX11_lies 25 = .ok (.iconst 0, 1) := by decide +kernel
theorem dX11_lies_26 : decode cX11_lies 26 = .ok (.goto 20, 3) := by decide +kernel
theorem dX11_lies_29 : decode cX11_lies 29 = .ok (.aload_n 0, 1) := by decide +kernel
theorem dX11_lies_30 : decode cX11_lies 30 = .ok (.iload_n 1, 1) := by decide +kernel
theorem dX11_lies_31 : decode cX11_lies 31 = .ok (.iconst 0, 1) := by decide +kernel
theorem dX11_lies_32 : decode cX11_lies 32 = .ok (.aload_n 0, 1) := by decide +kernel
theorem dX11_lies_33 : decode cX11_lies 33 = .ok (.getfield 7, 3) := by decide +kernel
theorem dX11_lies_36 : decode cX11_lies 36 = .ok (.iconst 4, 1) := by decide +kernel
theorem dX11_lies_37 : decode cX11_lies 37 = .ok (.bipush 6, 2) := by decide +kernel
theorem dX11_lies_39 : decode cX11_lies 39 = .ok (.iload_n 1, 1) := by decide +kernel
theorem dX11_lies_40 : decode cX11_lies 40 = .ok (.imul, 1) := by decide +kernel
theorem dX11_lies_41 : decode cX11_lies 41 = .ok (.iadd, 1) := by decide +kernel
theorem dX11_lies_42 : decode cX11_lies 42 = .ok (.iaload, 1) := by decide +kernel
theorem dX11_lies_43 : decode cX11_lies 43 = .ok (.invokevirtual 176, 3) := by decide +kernel
theorem dX11_lies_46 : decode cX11_lies 46 = .ok (.istore_n 3, 1) := by decide +kernel
theorem dX11_lies_47 : decode cX11_lies 47 = .ok (.iconst 0, 1) := by decide +kernel
theorem dX11_lies_48 : decode cX11_lies 48 = .ok (.istore 4, 2) := by decide +kernel
theorem dX11_lies_50 : decode cX11_lies 50 = .ok (.bipush (-9), 2) := by decide +kernel
theorem dX11_lies_52 : decode cX11_lies 52 = .ok (.istore 5, 2) := by decide +kernel
theorem dX11_lies_54 : decode cX11_lies 54 = .ok (.iconst 0, 1) := by decide +kernel
theorem dX11_lies_55 : decode cX11_lies 55 = .ok (.istore 6, 2) := by decide +kernel
theorem dX11_lies_57 : decode cX11_lies 57 = .ok (.iload 6, 2) := by decide +kernel
theorem dX11_lies_59 : decode cX11_lies 59 = .ok (.aload_n 0, 1) := by decide +kernel
theorem dX11_lies_60 : decode cX11_lies 60 = .ok (.getfield 7, 3) := by decide +kernel
theorem dX11_lies_63 : decode cX11_lies 63 = .ok (.iconst 0, 1) := by decide +kernel
theorem dX11_lies_64 : decode cX11_lies 64 = .ok (.iaload, 1) := by decide +kernel
theorem dX11_lies_65 : decode cX11_lies 65 = .ok (.if_icmp .ge 76, 3) := by decide +kernel
theorem dX11_lies_68 : decode cX11_lies 68 = .ok (.iconst 0, 1) := by decide +kernel
theorem dX11_lies_69 : decode cX11_lies 69 = .ok (.istore 7, 2) := by decide +kernel
theorem dX11_lies_71 : decode cX11_lies 71 = .ok (.iload 7, 2) := by decide +kernel
theorem dX11_lies_73 : decode cX11_lies 73 = .ok (.bipush 20, 2) := by decide +kernel
theorem dX11_lies_75 : decode cX11_lies 75 = .ok (.if_icmp .gt 60, 3) := by decide +kernel
theorem dX11_lies_78 : decode cX11_lies 78 = .ok (.aload_n 0, 1) := by decide +kernel
theorem dX11_lies_79 : decode cX11_lies 79 = .ok (.iload_n 1, 1) := by decide +kernel
theorem dX11_lies_80 : decode cX11_lies 80 = .ok (.iload 6, 2) := by decide +kernel
theorem dX11_lies_82 : decode cX11_lies 82 = .ok (.iload 7, 2) := by decide +kernel
theorem dX11_lies_84 : decode cX11_lies 84 = .ok (.invokevirtual 176, 3) := by decide +kernel
theorem dX11_lies_87 : decode cX11_lies 87 = .ok (.iload_n 3, 1) := by decide +kernel
theorem dX11_lies_88 : decode cX11_lies 88 = .ok (.isub, 1) := by decide +kernel
theorem dX11_lies_89 : decode cX11_lies 89 = .ok (.istore 8, 2) := by decide +kernel
theorem dX11_lies_91 : decode cX11_lies 91 = .ok (.iload 8, 2) := by decide +kernel
theorem dX11_lies_93 : decode cX11_lies 93 = .ok (.iload 4, 2) := by decide +kernel
theorem dX11_lies_95 : decode cX11_lies 95 = .ok (.if_icmp .le 14, 3) := by decide +kernel
theorem dX11_lies_98 : decode cX11_lies 98 = .ok (.bipush 100, 2) := by decide +kernel
theorem dX11_lies_100 : decode cX11_lies 100 = .ok (.iload 6, 2) := by decide +kernel
theorem dX11_lies_102 : decode cX11_lies 102 = .ok (.imul, 1) := by decide +kernel
theorem dX11_lies_103 : decode cX11_lies 103 = .ok (.iload 7, 2) := by decide +kernel
theorem dX11_lies_105 : decode cX11_lies 105 = .ok (.iadd, 1) := by decide +kernel
theorem dX11_lies_106 : decode cX11_lies 106 = .ok (.goto 5, 3) := by decide +kernel
theorem dX11_lies_109 : decode cX11_lies 109 = .ok (.iload 5, 2) := by decide +kernel
theorem dX11_lies_111 : decode cX11_lies 111 = .ok (.istore 5, 2) := by decide +kernel
theorem dX11_lies_113 : decode cX11_lies 113 = .ok (.iload 8, 2) := by decide +kernel
theorem dX11_lies_115 : decode cX11_lies 115 = .ok (.iload 4, 2) := by decide +kernel
theorem dX11_lies_117 : decode cX11_lies 117 = .ok (.if_icmp .le 8, 3) := by decide +kernel
theorem dX11_lies_120 : decode cX11_lies 120 = .ok (.iload 8, 2) := by decide +kernel
theorem dX11_lies_122 : decode cX11_lies 122 = .ok (.goto 5, 3) := by decide +kernel
theorem dX11_lies_125 : decode cX11_lies 125 = .ok (.iload 4, 2) := by decide +kernel
theorem dX11_lies_127 : decode cX11_lies 127 = .ok (.istore 4, 2) := by decide +kernel
theorem dX11_lies_129 : decode cX11_lies 129 = .ok (.iinc 7 1, 3) := by decide +kernel
theorem dX11_lies_132 : decode cX11_lies 132 = .ok (.goto (-61), 3) := by decide +kernel
theorem dX11_lies_135 : decode cX11_lies 135 = .ok (.iinc 6 1, 3) := by decide +kernel
theorem dX11_lies_138 : decode cX11_lies 138 = .ok (.goto (-81), 3) := by decide +kernel
theorem dX11_lies_141 : decode cX11_lies 141 = .ok (.iload_n 2, 1) := by decide +kernel
theorem dX11_lies_142 : decode cX11_lies 142 = .ok (.ifCond .ne 8, 3) := by decide +kernel
theorem dX11_lies_145 : decode cX11_lies 145 = .ok (.iload 4, 2) := by decide +kernel
theorem dX11_lies_147 : decode cX11_lies 147 = .ok (.goto 5, 3) := by decide +kernel
theorem dX11_lies_150 : decode cX11_lies 150 = .ok (.iload 5, 2) := by decide +kernel
theorem dX11_lies_152 : decode cX11_lies 152 = .ok (.ireturn, 1) := by decide +kernel
theorem dX11_sell_0 : decode cX11_sell 0 = .ok (.iload_n 1, 1) := by decide +kernel
theorem dX11_sell_1 : decode cX11_sell 1 = .ok (.i2l, 1) := by decide +kernel
theorem dX11_sell_2 : decode cX11_sell 2 = .ok (.lconst 0, 1) := by decide +kernel
theorem dX11_sell_3 : decode cX11_sell 3 = .ok (.ldc2_w 179, 3) := by decide +kernel
theorem dX11_sell_6 : decode cX11_sell 6 = .ok (.invokestatic 57, 3) := by decide +kernel
theorem dX11_sell_9 : decode cX11_sell 9 = .ok (.ifCond .ne 5, 3) := by decide +kernel
theorem dX11_sell_12 : decode cX11_sell 12 = .ok (.iconst (-1), 1) := by decide +kernel
theorem dX11_sell_13 : decode cX11_sell 13 = .ok (.ireturn, 1) := by decide +kernel
theorem dX11_sell_14 : decode cX11_sell 14 = .ok (.iconst 0, 1) := by decide +kernel
theorem dX11_sell_15 : decode cX11_sell 15 = .ok (.istore_n 2, 1) := by decide +kernel
theorem dX11_sell_16 : decode cX11_sell 16 = .ok (.iconst 0, 1) := by decide +kernel
theorem dX11_sell_17 : decode cX11_sell 17 = .ok (.istore_n 3, 1) := by decide +kernel
theorem dX11_sell_18 : decode cX11_sell 18 = .ok (.iload_n 3, 1) := by decide +kernel
theorem dX11_sell_19 : decode cX11_sell 19 = .ok (.aload_n 0, 1) := by decide +kernel
theorem dX11_sell_20 : decode cX11_sell 20 = .ok (.invokevirtual 122, 3) := by decide +kernel
theorem dX11_sell_23 : decode cX11_sell 23 = .ok (.if_icmp .gt 68, 3) := by decide +kernel
theorem dX11_sell_26 : decode cX11_sell 26 = .ok (.iload_n 1, 1) := by decide +kernel
theorem dX11_sell_27 : decode cX11_sell 27 = .ok (.iload_n 3, 1) := by decide +kernel
theorem dX11_sell_28 : decode cX11_sell 28 = .ok (.invokestatic 165, 3) := by decide +kernel
theorem dX11_sell_31 : decode cX11_sell 31 = .ok (.imul, 1) := by decide +kernel
theorem dX11_sell_32 : decode cX11_sell 32 = .ok (.istore 4, 2) := by decide +kernel
theorem dX11_sell_34 : decode cX11_sell 34 = .ok (.aload_n 0, 1) := by decide +kernel
theorem dX11_sell_35 : decode cX11_sell 35 = .ok (.iconst 0, 1) := by decide +kernel
theorem dX11_sell_36 : decode cX11_sell 36 = .ok (.iload_n 3, 1) := by decide +kernel
theorem dX11_sell_37 : decode cX11_sell 37 = .ok (.invokevirtual 125, 3) := by decide +kernel
theorem dX11_sell_40 : decode cX11_sell 40 = .ok (.iload 4, 2) := by decide +kernel
theorem dX11_sell_42 : decode cX11_sell 42 = .ok (.if_icmp .gt 18, 3) := by decide +kernel
theorem dX11_sell_45 : decode cX11_sell 45 = .ok (.aload_n 0, 1) := by decide +kernel
theorem dX11_sell_46 : decode cX11_sell 46 = .ok (.iconst 1, 1) := by decide +kernel
theorem dX11_sell_47 : decode cX11_sell 47 = .ok (.iload_n 3, 1) := by decide +kernel
theorem dX11_sell_48 : decode cX11_sell 48 = .ok (.invokevirtual 125, 3) := by decide +kernel
theorem dX11_sell_51 : decode cX11_sell 51 = .ok (.iload 4, 2) := by decide +kernel
theorem dX11_sell_53 : decode cX11_sell 53 = .ok (.if_icmp .gt 7, 3) := by decide +kernel
theorem dX11_sell_56 : decode cX11_sell 56 = .ok (.iconst 1, 1) := by decide +kernel
theorem dX11_sell_57 : decode cX11_sell 57 = .ok (.goto 4, 3) := by decide +kernel
theorem dX11_sell_60 : decode cX11_sell 60 = .ok (.iconst 0, 1) := by decide +kernel
theorem dX11_sell_61 : decode cX11_sell 61 = .ok (.istore 5, 2) := by decide +kernel
theorem dX11_sell_63 : decode cX11_sell 63 = .ok (.iload 5, 2) := by decide +kernel
theorem dX11_sell_65 : decode cX11_sell 65 = .ok (.ifCond .eq 18, 3) := by decide +kernel
theorem dX11_sell_68 : decode cX11_sell 68 = .ok (.iload_n 3, 1) := by decide +kernel
theorem dX11_sell_69 : decode cX11_sell 69 = .ok (.invokestatic 165, 3) := by decide +kernel
theorem dX11_sell_72 : decode cX11_sell 72 = .ok (.iload_n 2, 1) := by decide +kernel
theorem dX11_sell_73 : decode cX11_sell 73 = .ok (.invokestatic 165, 3) := by decide +kernel
theorem dX11_sell_76 : decode cX11_sell 76 = .ok (.if_icmp .le 7, 3) := by decide +kernel
theorem dX11_sell_79 : decode cX11_sell 79 = .ok (.iload_n 3, 1) := by decide +kernel
theorem dX11_sell_80 : decode cX11_sell 80 = .ok (.goto 4, 3) := by decide +kernel
theorem dX11_sell_83 : decode cX11_sell 83 = .ok (.iload_n 2, 1) := by decide +kernel
theorem dX11_sell_84 : decode cX11_sell 84 = .ok (.istore_n 2, 1) := by decide +kernel
theorem dX11_sell_85 : decode cX11_sell 85 = .ok (.iinc 3 1, 3) := by decide +kernel
theorem dX11_sell_88 : decode cX11_sell 88 = .ok (.goto (-70), 3) := by decide +kernel
theorem dX11_sell_91 : decode cX11_sell 91 = .ok (.iload_n 2, 1) := by decide +kernel
theorem dX11_sell_92 : decode cX11_sell 92 = .ok (.ireturn, 1) := by decide +kernel
theorem dX11_adds_0 : decode cX11_adds 0 = .ok (.iload_n 1, 1) := by decide +kernel
theorem dX11_adds_1 : decode cX11_adds 1 = .ok (.invokestatic 119, 3) := by decide +kernel
theorem dX11_adds_4 : decode cX11_adds 4 = .ok (.ifCond .ne 5, 3) := by decide +kernel
theorem dX11_adds_7 : decode cX11_adds 7 = .ok (.iconst (-1), 1) := by decide +kernel
theorem dX11_adds_8 : decode cX11_adds 8 = .ok (.ireturn, 1) := by decide +kernel
theorem dX11_adds_9 : decode cX11_adds 9 = .ok (.iconst 0, 1) := by decide +kernel
theorem dX11_adds_10 : decode cX11_adds 10 = .ok (.istore_n 2, 1) := by decide +kernel
theorem dX11_adds_11 : decode cX11_adds 11 = .ok (.iconst 0, 1) := by decide +kernel
theorem dX11_adds_12 : decode cX11_adds 12 = .ok (.istore_n 3, 1) := by decide +kernel
theorem dX11_adds_13 : decode cX11_adds 13 = .ok (.iload_n 3, 1) := by decide +kernel
theorem dX11_adds_14 : decode cX11_adds 14 = .ok (.aload_n 0, 1) := by decide +kernel
theorem dX11_adds_15 : decode cX11_adds 15 = .ok (.getfield 7, 3) := by decide +kernel
theorem dX11_adds_18 : decode cX11_adds 18 = .ok (.iconst 0, 1) := by decide +kernel
theorem dX11_adds_19 : decode cX11_adds 19 = .ok (.iaload, 1) := by decide +kernel
theorem dX11_adds_20 : decode cX11_adds 20 = .ok (.if_icmp .ge 25, 3) := by decide +kernel
theorem dX11_adds_23 : decode cX11_adds 23 = .ok (.iload_n 2, 1) := by decide +kernel
theorem dX11_adds_24 : decode cX11_adds 24 = .ok (.aload_n 0, 1) := by decide +kernel
theorem dX11_adds_25 : decode cX11_adds 25 = .ok (.getfield 7, 3) := by decide +kernel
theorem dX11_adds_28 : decode cX11_adds 28 = .ok (.iconst 4, 1) := by decide +kernel
theorem dX11_adds_29 : decode cX11_adds 29 = .ok (.bipush 6, 2) := by decide +kernel
theorem dX11_adds_31 : decode cX11_adds 31 = .ok (.iload_n 1, 1) := by decide +kernel
theorem dX11_adds_32 : decode cX11_adds 32 = .ok (.imul, 1) := by decide +kernel
theorem dX11_adds_33 : decode cX11_adds 33 = .ok (.iadd, 1) := by decide +kernel
theorem dX11_adds_34 : decode cX11_adds 34 = .ok (.iload_n 3, 1) := by decide +kernel
theorem dX11_adds_35 : decode cX11_adds 35 = .ok (.iadd, 1) := by decide +kernel
theorem dX11_adds_36 : decode cX11_adds 36 = .ok (.iaload, 1) := by decide +kernel
theorem dX11_adds_37 : decode cX11_adds 37 = .ok (.iadd, 1) := by decide +kernel
theorem dX11_adds_38 : decode cX11_adds 38 = .ok (.istore_n 2, 1) := by decide +kernel
theorem dX11_adds_39 : decode cX11_adds 39 = .ok (.iinc 3 1, 3) := by decide +kernel
theorem dX11_adds_42 : decode cX11_adds 42 = .ok (.goto (-29), 3) := by decide +kernel
theorem dX11_adds_45 : decode cX11_adds 45 = .ok (.aload_n 0, 1) := by decide +kernel
theorem dX11_adds_46 : decode cX11_adds 46 = .ok (.iload_n 1, 1) := by decide +kernel
theorem dX11_adds_47 : decode cX11_adds 47 = .ok (.aload_n 0, 1) := by decide +kernel
theorem dX11_adds_48 : decode cX11_adds 48 = .ok (.invokevirtual 122, 3) := by decide +kernel
theorem dX11_adds_51 : decode cX11_adds 51 = .ok (.invokevirtual 125, 3) := by decide +kernel
theorem dX11_adds_54 : decode cX11_adds 54 = .ok (.iload_n 2, 1) := by decide +kernel
theorem dX11_adds_55 : decode cX11_adds 55 = .ok (.if_icmp .gt 7, 3) := by decide +kernel
theorem dX11_adds_58 : decode cX11_adds 58 = .ok (.iconst 1, 1) := by decide +kernel
theorem dX11_adds_59 : decode cX11_adds 59 = .ok (.goto 4, 3) := by decide +kernel
theorem dX11_adds_62 : decode cX11_adds 62 = .ok (.iconst 0, 1) := by decide +kernel
theorem dX11_adds_63 : decode cX11_adds 63 = .ok (.ireturn, 1) := by decide +kernel
end
section
theorem dX11_odds_0 : decode cX11_odds 0 = .ok (.iload_n 1, 1) := by decide +kernel
theorem dX11_odds_1 : decode cX11_odds 1 = .ok (.i2l, 1) := by decide +kernel
theorem dX11_odds_2 : decode cX11_odds 2 = .ok (.lconst 0, 1) := by decide +kernel
theorem dX11_odds_3 : decode cX11_odds 3 = .ok (.ldc2_w 181, 3) := by decide +kernel
theorem dX11_odds_6 : decode cX11_odds 6 = .ok (.invokestatic 57, 3) := by decide +kernel
theorem dX11_odds_9 : decode cX11_odds 9 = .ok (.ifCond .eq 10, 3) := by decide +kernel
theorem dX11_odds_12 : decode cX11_odds 12 = .ok (.iload_n 2, 1) := by decide +kernel
theorem dX11_odds_13 : decode cX11_odds 13 = .ok (.invokestatic 119, 3) := by decide +kernel
theorem dX11_odds_16 : decode cX11_odds 16 = .ok (.ifCond .ne 5, 3) := by decide +kernel
theorem dX11_odds_19 : decode cX11_odds 19 = .ok (.iconst (-1), 1) := by decide +kernel
theorem dX11_odds_20 : decode cX11_odds 20 = .ok (.ireturn, 1) := by decide +kernel
theorem dX11_odds_21 : decode cX11_odds 21 = .ok (.iconst 0, 1) := by decide +kernel
theorem dX11_odds_22 : decode cX11_odds 22 = .ok (.istore_n 3, 1) := by decide +kernel
theorem dX11_odds_23 : decode cX11_odds 23 = .ok (.iconst 1, 1) := by decide +kernel
theorem dX11_odds_24 : decode cX11_odds 24 = .ok (.istore 4, 2) := by decide +kernel
theorem dX11_odds_26 : decode cX11_odds 26 = .ok (.iconst 0, 1) := by decide +kernel
theorem dX11_odds_27 : decode cX11_odds 27 = .ok (.istore 5, 2) := by decide +kernel
theorem dX11_odds_29 : decode cX11_odds 29 = .ok (.iload 5, 2) := by decide +kernel
theorem dX11_odds_31 : decode cX11_odds 31 = .ok (.aload_n 0, 1) := by decide +kernel
theorem dX11_odds_32 : decode cX11_odds 32 = .ok (.getfield 7, 3) := by decide +kernel
theorem dX11_odds_35 : decode cX11_odds 35 = .ok (.iconst 0, 1) := by decide +kernel
theorem dX11_odds_36 : decode cX11_odds 36 = .ok (.iaload, 1) := by decide +kernel
theorem dX11_odds_37 : decode cX11_odds 37 = .ok (.if_icmp .ge 16, 3) := by decide +kernel
theorem dX11_odds_40 : decode cX11_odds 40 = .ok (.iload 4, 2) := by decide +kernel
theorem dX11_odds_42 : decode cX11_odds 42 = .ok (.bipush 10, 2) := by decide +kernel
theorem dX11_odds_44 : decode cX11_odds 44 = .ok (.imul, 1) := by decide +kernel
theorem dX11_odds_45 : decode cX11_odds 45 = .ok (.istore 4, 2) := by decide +kernel
theorem dX11_odds_47 : decode cX11_odds 47 = .ok (.iinc 5 1, 3) := by decide +kernel
theorem dX11_odds_50 : decode cX11_odds 50 = .ok (.goto (-21), 3) := by decide +kernel
theorem dX11_odds_53 : decode cX11_odds 53 = .ok (.iconst 0, 1) := by decide +kernel
theorem dX11_odds_54 : decode cX11_odds 54 = .ok (.istore 5, 2) := by decide +kernel
theorem dX11_odds_56 : decode cX11_odds 56 = .ok (.iload 5, 2) := by decide +kernel
theorem dX11_odds_58 : decode cX11_odds 58 = .ok (.aload_n 0, 1) := by decide +kernel
theorem dX11_odds_59 : decode cX11_odds 59 = .ok (.invokevirtual 122, 3) := by decide +kernel
theorem dX11_odds_62 : decode cX11_odds 62 = .ok (.if_icmp .gt 73, 3) := by decide +kernel
theorem dX11_odds_65 : decode cX11_odds 65 = .ok (.aload_n 0, 1) := by decide +kernel
theorem dX11_odds_66 : decode cX11_odds 66 = .ok (.iload 5, 2) := by decide +kernel
theorem dX11_odds_68 : decode cX11_odds 68 = .ok (.invokevirtual 153, 3) := by decide +kernel
theorem dX11_odds_71 : decode cX11_odds 71 = .ok (.ifCond .eq 7, 3) := by decide +kernel
theorem dX11_odds_74 : decode cX11_odds 74 = .ok (.iconst 1, 1) := by decide +kernel
theorem dX11_odds_75 : decode cX11_odds 75 = .ok (.goto 4, 3) := by decide +kernel
theorem dX11_odds_78 : decode cX11_odds 78 = .ok (.iconst 0, 1) := by decide +kernel
theorem dX11_odds_79 : decode cX11_odds 79 = .ok (.istore 6, 2) := by decide +kernel
theorem dX11_odds_81 : decode cX11_odds 81 = .ok (.iconst 0, 1) := by decide +kernel
theorem dX11_odds_82 : decode cX11_odds 82 = .ok (.istore 7, 2) := by decide +kernel
theorem dX11_odds_84 : decode cX11_odds 84 = .ok (.iload 7, 2) := by decide +kernel
theorem dX11_odds_86 : decode cX11_odds 86 = .ok (.aload_n 0, 1) := by decide +kernel
theorem dX11_odds_87 : decode cX11_odds 87 = .ok (.getfield 7, 3) := by decide +kernel
theorem dX11_odds_90 : decode cX11_odds 90 = .ok (.iconst 0, 1) := by decide +kernel
theorem dX11_odds_91 : decode cX11_odds 91 = .ok (.iaload, 1) := by decide +kernel
theorem dX11_odds_92 : decode cX11_odds 92 = .ok (.if_icmp .ge 32, 3) := by decide +kernel
theorem dX11_odds_95 : decode cX11_odds 95 = .ok (.iload 6, 2) := by decide +kernel
theorem dX11_odds_97 : decode cX11_odds 97 = .ok (.iload 5, 2) := by decide +kernel
theorem dX11_odds_99 : decode cX11_odds 99 = .ok (.iload 7, 2) := by decide +kernel
theorem dX11_odds_101 : decode cX11_odds 101 = .ok (.invokestatic 97, 3) := by decide +kernel
theorem dX11_odds_104 : decode cX11_odds 104 = .ok (.ifCond .eq 10, 3) := by decide +kernel
theorem dX11_odds_107 : decode cX11_odds 107 = .ok (.bipush 10, 2) := by decide +kernel
theorem dX11_odds_109 : decode cX11_odds 109 = .ok (.iload_n 1, 1) := by decide +kernel
theorem dX11_odds_110 : decode cX11_odds 110 = .ok (.isub, 1) := by decide +kernel
theorem dX11_odds_111 : decode cX11_odds 111 = .ok (.goto 4, 3) := by decide +kernel
theorem dX11_odds_114 : decode cX11_odds 114 = .ok (.iload_n 1, 1) := by decide +kernel
theorem dX11_odds_115 : decode cX11_odds 115 = .ok (.imul, 1) := by decide +kernel
theorem dX11_odds_116 : decode cX11_odds 116 = .ok (.istore 6, 2) := by decide +kernel
theorem dX11_odds_118 : decode cX11_odds 118 = .ok (.iinc 7 1, 3) := by decide +kernel
theorem dX11_odds_121 : decode cX11_odds 121 = .ok (.goto (-37), 3) := by decide +kernel
theorem dX11_odds_124 : decode cX11_odds 124 = .ok (.iload_n 3, 1) := by decide +kernel
theorem dX11_odds_125 : decode cX11_odds 125 = .ok (.iload 6, 2) := by decide +kernel
theorem dX11_odds_127 : decode cX11_odds 127 = .ok (.iadd, 1) := by decide +kernel
theorem dX11_odds_128 : decode cX11_odds 128 = .ok (.istore_n 3, 1) := by decide +kernel
theorem dX11_odds_129 : decode cX11_odds 129 = .ok (.iinc 5 1, 3) := by decide +kernel
theorem dX11_odds_132 : decode cX11_odds 132 = .ok (.goto (-76), 3) := by decide +kernel
theorem dX11_odds_135 : decode cX11_odds 135 = .ok (.iload_n 3, 1) := by decide +kernel
theorem dX11_odds_136 : decode cX11_odds 136 = .ok (.istore 5, 2) := by decide +kernel
theorem dX11_odds_138 : decode cX11_odds 138 = .ok (.iload 4, 2) := by decide +kernel
theorem dX11_odds_140 : decode cX11_odds 140 = .ok (.istore 6, 2) := by decide +kernel
theorem dX11_odds_142 : decode cX11_odds 142 = .ok (.iload 6, 2) := by decide +kernel
theorem dX11_odds_144 : decode cX11_odds 144 = .ok (.ifCond .eq 21, 3) := by decide +kernel
theorem dX11_odds_147 : decode cX11_odds 147 = .ok (.iload 5, 2) := by decide +kernel
theorem dX11_odds_149 : decode cX11_odds 149 = .ok (.iload 6, 2) := by decide +kernel
theorem dX11_odds_151 : decode cX11_odds 151 = .ok (.irem, 1) := by decide +kernel
theorem dX11_odds_152 : decode cX11_odds 152 = .ok (.istore 7, 2) := by decide +kernel
theorem dX11_odds_154 : decode cX11_odds 154 = .ok (.iload 6, 2) := by decide +kernel
theorem dX11_odds_156 : decode cX11_odds 156 = .ok (.istore 5, 2) := by decide +kernel
theorem dX11_odds_158 : decode cX11_odds 158 = .ok (.iload 7, 2) := by decide +kernel
theorem dX11_odds_160 : decode cX11_odds 160 = .ok (.istore 6, 2) := by decide +kernel
theorem dX11_odds_162 : decode cX11_odds 162 = .ok (.goto (-20), 3) := by decide +kernel
theorem dX11_odds_165 : decode cX11_odds 165 = .ok (.iload_n 2, 1) := by decide +kernel
theorem dX11_odds_166 : decode cX11_odds 166 = .ok (.ifCond .ne 10, 3) := by decide +kernel
theorem dX11_odds_169 : decode cX11_odds 169 = .ok (.iload_n 3, 1) := by decide +kernel
theorem dX11_odds_170 : decode cX11_odds 170 = .ok (.iload 5, 2) := by decide +kernel
theorem dX11_odds_172 : decode cX11_odds 172 = .ok (.idiv, 1) := by decide +kernel
theorem dX11_odds_173 : decode cX11_odds 173 = .ok (.goto 8, 3) := by decide +kernel
theorem dX11_odds_176 : decode cX11_odds 176 = .ok (.iload 4, 2) := by decide +kernel
theorem dX11_odds_178 : decode cX11_odds 178 = .ok (.iload 5, 2) := by decide +kernel
theorem dX11_odds_180 : decode cX11_odds 180 = .ok (.idiv, 1) := by decide +kernel
theorem dX11_odds_181 : decode cX11_odds 181 = .ok (.ireturn, 1) := by decide +kernel
theorem dX11_foot_0 : decode cX11_foot 0 = .ok (.iload_n 1, 1) := by decide +kernel
theorem dX11_foot_1 : decode cX11_foot 1 = .ok (.i2l, 1) := by decide +kernel
theorem dX11_foot_2 : decode cX11_foot 2 = .ok (.lconst 0, 1) := by decide +kernel
theorem dX11_foot_3 : decode cX11_foot 3 = .ok (.aload_n 0, 1) := by decide +kernel
theorem dX11_foot_4 : decode cX11_foot 4 = .ok (.getfield 16, 3) := by decide +kernel
theorem dX11_foot_7 : decode cX11_foot 7 = .ok (.bipush 6, 2) := by decide +kernel
theorem dX11_foot_9 : decode cX11_foot 9 = .ok (.iaload, 1) := by decide +kernel
theorem dX11_foot_10 : decode cX11_foot 10 = .ok (.iconst 1, 1) := by decide +kernel
theorem dX11_foot_11 : decode cX11_foot 11 = .ok (.isub, 1) := by decide +kernel
theorem dX11_foot_12 : decode cX11_foot 12 = .ok (.i2l, 1) := by decide +kernel
theorem dX11_foot_13 : decode cX11_foot 13 = .ok (.invokestatic 57, 3) := by decide +kernel
theorem dX11_foot_16 : decode cX11_foot 16 = .ok (.ifCond .eq 11, 3) := by decide +kernel
theorem dX11_foot_19 : decode cX11_foot 19 = .ok (.aload_n 0, 1) := by decide +kernel
theorem dX11_foot_20 : decode cX11_foot 20 = .ok (.iload_n 1, 1) := by decide +kernel
theorem dX11_foot_21 : decode cX11_foot 21 = .ok (.invokevirtual 140, 3) := by decide +kernel
theorem dX11_foot_24 : decode cX11_foot 24 = .ok (.goto 4, 3) := by decide +kernel
theorem dX11_foot_27 : decode cX11_foot 27 = .ok (.iconst (-1), 1) := by decide +kernel
theorem dX11_foot_28 : decode cX11_foot 28 = .ok (.ireturn, 1) := by decide +kernel
theorem dX11_isCell_0 : decode cX11_isCell 0 = .ok (.iload_n 1, 1) := by decide +kernel
theorem dX11_isCell_1 : decode cX11_isCell 1 = .ok (.i2l, 1) := by decide +kernel
theorem dX11_isCell_2 : decode cX11_isCell 2 = .ok (.lconst 0, 1) := by decide +kernel
theorem dX11_isCell_3 : decode cX11_isCell 3 = .ok (.aload_n 0, 1) := by decide +kernel
theorem dX11_isCell_4 : decode cX11_isCell 4 = .ok (.getfield 7, 3) := by decide +kernel
theorem dX11_isCell_7 : decode cX11_isCell 7 = .ok (.iconst 3, 1) := by decide +kernel
theorem dX11_isCell_8 : decode cX11_isCell 8 = .ok (.iaload, 1) := by decide +kernel
theorem dX11_isCell_9 : decode cX11_isCell 9 = .ok (.iconst 1, 1) := by decide +kernel
theorem dX11_isCell_10 : decode cX11_isCell 10 = .ok (.isub, 1) := by decide +kernel
theorem dX11_isCell_11 : decode cX11_isCell 11 = .ok (.i2l, 1) := by decide +kernel
theorem dX11_isCell_12 : decode cX11_isCell 12 = .ok (.invokestatic 57, 3) := by decide +kernel
theorem dX11_isCell_15 : decode cX11_isCell 15 = .ok (.ireturn, 1) := by decide +kernel
theorem dX11_worn_0 : decode cX11_worn 0 = .ok (.iload_n 1, 1) := by decide +kernel
theorem dX11_worn_1 : decode cX11_worn 1 = .ok (.invokestatic 119, 3) := by decide +kernel
theorem dX11_worn_4 : decode cX11_worn 4 = .ok (.ifCond .eq 21, 3) := by decide +kernel
theorem dX11_worn_7 : decode cX11_worn 7 = .ok (.aload_n 0, 1) := by decide +kernel
theorem dX11_worn_8 : decode cX11_worn 8 = .ok (.iload_n 2, 1) := by decide +kernel
theorem dX11_worn_9 : decode cX11_worn 9 = .ok (.invokevirtual 183, 3) := by decide +kernel
theorem dX11_worn_12 : decode cX11_worn 12 = .ok (.ifCond .eq 13, 3) := by decide +kernel
theorem dX11_worn_15 : decode cX11_worn 15 = .ok (.aload_n 0, 1) := by decide +kernel
theorem dX11_worn_16 : decode cX11_worn 16 = .ok (.iload_n 1, 1) := by decide +kernel
theorem dX11_worn_17 : decode cX11_worn 17 = .ok (.iload_n 2, 1) := by decide +kernel
theorem dX11_worn_18 : decode cX11_worn 18 = .ok (.iconst (-1), 1) := by decide +kernel
theorem dX11_worn_19 : decode cX11_worn 19 = .ok (.invokevirtual 146, 3) := by decide +kernel
theorem dX11_worn_22 : decode cX11_worn 22 = .ok (.goto 4, 3) := by decide +kernel
theorem dX11_worn_25 : decode cX11_worn 25 = .ok (.iconst (-1), 1) := by decide +kernel
theorem dX11_worn_26 : decode cX11_worn 26 = .ok (.ireturn, 1) := by decide +kernel
theorem dX11_judge_0 : decode cX11_judge 0 = .ok (.iload_n 1, 1) := by decide +kernel
theorem dX11_judge_1 : decode cX11_judge 1 = .ok (.i2l, 1) := by decide +kernel
theorem dX11_judge_2 : decode cX11_judge 2 = .ok (.lconst 0, 1) := by decide +kernel
theorem dX11_judge_3 : decode cX11_judge 3 = .ok (.ldc2_w 117, 3) := by decide +kernel
theorem dX11_judge_6 : decode cX11_judge 6 = .ok (.invokestatic 57, 3) := by decide +kernel
theorem dX11_judge_9 : decode cX11_judge 9 = .ok (.ifCond .ne 5, 3) := by decide +kernel
theorem dX11_judge_12 : decode cX11_judge 12 = .ok (.iconst (-1), 1) := by decide +kernel
theorem dX11_judge_13 : decode cX11_judge 13 = .ok (.ireturn, 1) := by decide +kernel
theorem dX11_judge_14 : decode cX11_judge 14 = .ok (.bipush (-9), 2) := by decide +kernel
theorem dX11_judge_16 : decode cX11_judge 16 = .ok (.istore_n 2, 1) := by decide +kernel
theorem dX11_judge_17 : decode cX11_judge 17 = .ok (.iconst 0, 1) := by decide +kernel
theorem dX11_judge_18 : decode cX11_judge 18 = .ok (.istore_n 3, 1) := by decide +kernel
theorem dX11_judge_19 : decode cX11_judge 19 = .ok (.iconst 0, 1) := by decide +kernel
theorem dX11_judge_20 : decode cX11_judge 20 = .ok (.istore 4, 2) := by decide +kernel
theorem dX11_judge_22 : decode cX11_judge 22 = .ok (.iconst 0, 1) := by decide +kernel
theorem dX11_judge_23 : decode cX11_judge 23 = .ok (.istore 5, 2) := by decide +kernel
theorem dX11_judge_25 : decode cX11_judge 25 = .ok (.iconst 0, 1) := by decide +kernel
theorem dX11_judge_26 : decode cX11_judge 26 = .ok (.istore 6, 2) := by decide +kernel
theorem dX11_judge_28 : decode cX11_judge 28 = .ok (.iload 6, 2) := by decide +kernel
theorem dX11_judge_30 : decode cX11_judge 30 = .ok (.aload_n 0, 1) := by decide +kernel
theorem dX11_judge_31 : decode cX11_judge 31 = .ok (.getfield 16, 3) := by decide +kernel
theorem dX11_judge_34 : decode cX11_judge 34 = .ok (.bipush 6, 2) := by decide +kernel
theorem dX11_judge_36 : decode cX11_judge 36 = .ok (.iaload, 1) := by decide +kernel
theorem dX11_judge_37 : decode cX11_judge 37 = .ok (.if_icmp .ge 115, 3) := by decide +kernel
theorem dX11_judge_40 : decode cX11_judge 40 = .ok (.iload 6, 2) := by decide +kernel
theorem dX11_judge_42 : decode cX11_judge 42 = .ok (.ifCond .le 24, 3) := by decide +kernel
theorem dX11_judge_45 : decode cX11_judge 45 = .ok (.aload_n 0, 1) := by decide +kernel
theorem dX11_judge_46 : decode cX11_judge 46 = .ok (.iload 6, 2) := by decide +kernel
theorem dX11_judge_48 : decode cX11_judge 48 = .ok (.invokevirtual 140, 3) := by decide +kernel
theorem dX11_judge_51 : decode cX11_judge 51 = .ok (.aload_n 0, 1) := by decide +kernel
theorem dX11_judge_52 : decode cX11_judge 52 = .ok (.iload 6, 2) := by decide +kernel
theorem dX11_judge_54 : decode cX11_judge 54 = .ok (.iconst 1, 1) := by decide +kernel
theorem dX11_judge_55 : decode cX11_judge 55 = .ok (.isub, 1) := by decide +kernel
theorem dX11_judge_56 : decode cX11_judge 56 = .ok (.invokevirtual 140, 3) := by decide +kernel
theorem dX11_judge_59 : decode cX11_judge 59 = .ok (.if_icmp .ne 7, 3) := by decide +kernel
theorem dX11_judge_62 : decode cX11_judge 62 = .ok (.iconst 1, 1) := by decide +kernel
theorem dX11_judge_63 : decode cX11_judge 63 = .ok (.goto 4, 3) := by decide +kernel
theorem dX11_judge_66 : decode cX11_judge 66 = .ok (.iconst 0, 1) := by decide +kernel
theorem dX11_judge_67 : decode cX11_judge 67 = .ok (.istore 7, 2) := by decide +kernel
theorem dX11_judge_69 : decode cX11_judge 69 = .ok (.iload_n 2, 1) := by decide +kernel
theorem dX11_judge_70 : decode cX11_judge 70 = .ok (.bipush (-9), 2) := by decide +kernel
theorem dX11_judge_72 : decode cX11_judge 72 = .ok (.if_icmp .ne 24, 3) := by decide +kernel
theorem dX11_judge_75 : decode cX11_judge 75 = .ok (.iload 7, 2) := by decide +kernel
theorem dX11_judge_77 : decode cX11_judge 77 = .ok (.ifCond .eq 19, 3) := by decide +kernel
theorem dX11_judge_80 : decode cX11_judge 80 = .ok (.iload 5, 2) := by decide +kernel
theorem dX11_judge_82 : decode cX11_judge 82 = .ok (.aload_n 0, 1) := by decide +kernel
theorem dX11_judge_83 : decode cX11_judge 83 = .ok (.getfield 7, 3) := by decide +kernel
theorem dX11_judge_86 : decode cX11_judge 86 = .ok (.iconst 2, 1) := by decide +kernel
theorem dX11_judge_87 : decode cX11_judge 87 = .ok (.iaload, 1) := by decide +kernel
theorem dX11_judge_88 : decode cX11_judge 88 = .ok (.if_icmp .le 8, 3) := by decide +kernel
theorem dX11_judge_91 : decode cX11_judge 91 = .ok (.iload 6, 2) := by decide +kernel
theorem dX11_judge_93 : decode cX11_judge 93 = .ok (.goto 4, 3) := by decide +kernel
theorem dX11_judge_96 : decode cX11_judge 96 = .ok (.iload_n 2, 1) := by decide +kernel
theorem dX11_judge_97 : decode cX11_judge 97 = .ok (.istore_n 2, 1) := by decide +kernel
theorem dX11_judge_98 : decode cX11_judge 98 = .ok (.iload 7, 2) := by decide +kernel
theorem dX11_judge_100 : decode cX11_judge 100 = .ok (.ifCond .eq 10, 3) := by decide +kernel
theorem dX11_judge_103 : decode cX11_judge 103 = .ok (.iload 5, 2) := by decide +kernel
theorem dX11_judge_105 : decode cX11_judge 105 = .ok (.iconst 1, 1) := by decide +kernel
theorem dX11_judge_106 : decode cX11_judge 106 = .ok (.iadd, 1) := by decide +kernel
theorem dX11_judge_107 : decode cX11_judge 107 = .ok (.goto 4, 3) := by decide +kernel
theorem dX11_judge_110 : decode cX11_judge 110 = .ok (.iconst 1, 1) := by decide +kernel
theorem dX11_judge_111 : decode cX11_judge 111 = .ok (.istore 5, 2) := by decide +kernel
theorem dX11_judge_113 : decode cX11_judge 113 = .ok (.iload 5, 2) := by decide +kernel
theorem dX11_judge_115 : decode cX11_judge 115 = .ok (.iload_n 3, 1) := by decide +kernel
theorem dX11_judge_116 : decode cX11_judge 116 = .ok (.if_icmp .le 8, 3) := by decide +kernel
theorem dX11_judge_119 : decode cX11_judge 119 = .ok (.iload 5, 2) := by decide +kernel
theorem dX11_judge_121 : decode cX11_judge 121 = .ok (.goto 4, 3) := by decide +kernel
theorem dX11_judge_124 : decode cX11_judge 124 = .ok (.iload_n 3, 1) := by decide +kernel
theorem dX11_judge_125 : decode cX11_judge 125 = .ok (.istore_n 3, 1) := by decide +kernel
theorem dX11_judge_126 : decode cX11_judge 126 = .ok (.iload 4, 2) := by decide +kernel
theorem dX11_judge_128 : decode cX11_judge 128 = .ok (.iload 6, 2) := by decide +kernel
theorem dX11_judge_130 : decode cX11_judge 130 = .ok (.ifCond .le 12, 3) := by decide +kernel
theorem dX11_judge_133 : decode cX11_judge 133 = .ok (.iload 7, 2) := by decide +kernel
theorem dX11_judge_135 : decode cX11_judge 135 = .ok (.ifCond .ne 7, 3) := by decide +kernel
theorem dX11_judge_138 : decode cX11_judge 138 = .ok (.iconst 1, 1) := by decide +kernel
theorem dX11_judge_139 : decode cX11_judge 139 = .ok (.goto 4, 3) := by decide +kernel
theorem dX11_judge_142 : decode cX11_judge 142 = .ok (.iconst 0, 1) := by decide +kernel
theorem dX11_judge_143 : decode cX11_judge 143 = .ok (.iadd, 1) := by decide +kernel
theorem dX11_judge_144 : decode cX11_judge 144 = .ok (.istore 4, 2) := by decide +kernel
theorem dX11_judge_146 : decode cX11_judge 146 = .ok (.iinc 6 1, 3) := by decide +kernel
theorem dX11_judge_149 : decode cX11_judge 149 = .ok (.goto (-121), 3) := by decide +kernel
theorem dX11_judge_152 : decode cX11_judge 152 = .ok (.iload_n 1, 1) := by decide +kernel
theorem dX11_judge_153 : decode cX11_judge 153 = .ok (.ifCond .ne 7, 3) := by decide +kernel
theorem dX11_judge_156 : decode cX11_judge 156 = .ok (.iload_n 2, 1) := by decide +kernel
theorem dX11_judge_157 : decode cX11_judge 157 = .ok (.goto 14, 3) := by decide +kernel
theorem dX11_judge_160 : decode cX11_judge 160 = .ok (.iload_n 1, 1) := by decide +kernel
theorem dX11_judge_161 : decode cX11_judge 161 = .ok (.iconst 1, 1) := by decide +kernel
theorem dX11_judge_162 : decode cX11_judge 162 = .ok (.if_icmp .ne 7, 3) := by decide +kernel
theorem dX11_judge_165 : decode cX11_judge 165 = .ok (.iload_n 3, 1) := by decide +kernel
theorem dX11_judge_166 : decode cX11_judge 166 = .ok (.goto 5, 3) := by decide +kernel
theorem dX11_judge_169 : decode cX11_judge 169 = .ok (.iload 4, 2) := by decide +kernel
theorem dX11_judge_171 : decode cX11_judge 171 = .ok (.ireturn, 1) := by decide +kernel
theorem dX11_saw_0 : decode cX11_saw 0 = .ok (.iload_n 1, 1) := by decide +kernel
theorem dX11_saw_1 : decode cX11_saw 1 = .ok (.invokestatic 119, 3) := by decide +kernel
theorem dX11_saw_4 : decode cX11_saw 4 = .ok (.ifCond .eq 23, 3) := by decide +kernel
theorem dX11_saw_7 : decode cX11_saw 7 = .ok (.aload_n 0, 1) := by decide +kernel
theorem dX11_saw_8 : decode cX11_saw 8 = .ok (.iload_n 2, 1) := by decide +kernel
theorem dX11_saw_9 : decode cX11_saw 9 = .ok (.invokevirtual 183, 3) := by decide +kernel
theorem dX11_saw_12 : decode cX11_saw 12 = .ok (.ifCond .eq 15, 3) := by decide +kernel
theorem dX11_saw_15 : decode cX11_saw 15 = .ok (.iload_n 3, 1) := by decide +kernel
theorem dX11_saw_16 : decode cX11_saw 16 = .ok (.i2l, 1) := by decide +kernel
theorem dX11_saw_17 : decode cX11_saw 17 = .ok (.lconst 0, 1) := by decide +kernel
theorem dX11_saw_18 : decode cX11_saw 18 = .ok (.ldc2_w 186, 3) := by decide +kernel
theorem dX11_saw_21 : decode cX11_saw 21 = .ok (.invokestatic 57, 3) := by decide +kernel
theorem dX11_saw_24 : decode cX11_saw 24 = .ok (.ifCond .ne 5, 3) := by decide +kernel
theorem dX11_saw_27 : decode cX11_saw 27 = .ok (.iconst (-1), 1) := by decide +kernel
theorem dX11_saw_28 : decode cX11_saw 28 = .ok (.ireturn, 1) := by decide +kernel
theorem dX11_saw_29 : decode cX11_saw 29 = .ok (.aload_n 0, 1) := by decide +kernel
theorem dX11_saw_30 : decode cX11_saw 30 = .ok (.getfield 65, 3) := by decide +kernel
theorem dX11_saw_33 : decode cX11_saw 33 = .ok (.bipush 6, 2) := by decide +kernel
theorem dX11_saw_35 : decode cX11_saw 35 = .ok (.if_icmp .ne 6, 3) := by decide +kernel
theorem dX11_saw_38 : decode cX11_saw 38 = .ok (.bipush (-3), 2) := by decide +kernel
theorem dX11_saw_40 : decode cX11_saw 40 = .ok (.ireturn, 1) := by decide +kernel
theorem dX11_saw_41 : decode cX11_saw 41 = .ok (.aload_n 0, 1) := by decide +kernel
theorem dX11_saw_42 : decode cX11_saw 42 = .ok (.getfield 32, 3) := by decide +kernel
theorem dX11_saw_45 : decode cX11_saw 45 = .ok (.iconst 3, 1) := by decide +kernel
theorem dX11_saw_46 : decode cX11_saw 46 = .ok (.aload_n 0, 1) := by decide +kernel
theorem dX11_saw_47 : decode cX11_saw 47 = .ok (.getfield 65, 3) := by decide +kernel
theorem dX11_saw_50 : decode cX11_saw 50 = .ok (.imul, 1) := by decide +kernel
theorem dX11_saw_51 : decode cX11_saw 51 = .ok (.iload_n 1, 1) := by decide +kernel
theorem dX11_saw_52 : decode cX11_saw 52 = .ok (.iastore, 1) := by decide +kernel
theorem dX11_saw_53 : decode cX11_saw 53 = .ok (.aload_n 0, 1) := by decide +kernel
theorem dX11_saw_54 : decode cX11_saw 54 = .ok (.getfield 32, 3) := by decide +kernel
theorem dX11_saw_57 : decode cX11_saw 57 = .ok (.iconst 3, 1) := by decide +kernel
theorem dX11_saw_58 : decode cX11_saw 58 = .ok (.aload_n 0, 1) := by decide +kernel
theorem dX11_saw_59 : decode cX11_saw 59 = .ok (.getfield 65, 3) := by decide +kernel
theorem dX11_saw_62 : decode cX11_saw 62 = .ok (.imul, 1) := by decide +kernel
theorem dX11_saw_63 : decode cX11_saw 63 = .ok (.iconst 1, 1) := by decide +kernel
theorem dX11_saw_64 : decode cX11_saw 64 = .ok (.iadd, 1) := by decide +kernel
theorem dX11_saw_65 : decode cX11_saw 65 = .ok (.iload_n 2, 1) := by decide +kernel
theorem dX11_saw_66 : decode cX11_saw 66 = .ok (.iastore, 1) := by decide +kernel
theorem dX11_saw_67 : decode cX11_saw 67 = .ok (.aload_n 0, 1) := by decide +kernel
theorem dX11_saw_68 : decode cX11_saw 68 = .ok (.getfield 32, 3) := by decide +kernel
theorem dX11_saw_71 : decode cX11_saw 71 = .ok (.iconst 3, 1) := by decide +kernel
theorem dX11_saw_72 : decode cX11_saw 72 = .ok (.aload_n 0, 1) := by decide +kernel
theorem dX11_saw_73 : decode cX11_saw 73 = .ok (.getfield 65, 3) := by decide +kernel
theorem dX11_saw_76 : decode cX11_saw 76 = .ok (.imul, 1) := by decide +kernel
theorem dX11_saw_77 : decode cX11_saw 77 = .ok (.iconst 2, 1) := by decide +kernel
theorem dX11_saw_78 : decode cX11_saw 78 = .ok (.iadd, 1) := by decide +kernel
theorem dX11_saw_79 : decode cX11_saw 79 = .ok (.iload_n 3, 1) := by decide +kernel
theorem dX11_saw_80 : decode cX11_saw 80 = .ok (.iastore, 1) := by decide +kernel
theorem dX11_saw_81 : decode cX11_saw 81 = .ok (.aload_n 0, 1) := by decide +kernel
theorem dX11_saw_82 : decode cX11_saw 82 = .ok (.dup, 1) := by decide +kernel
theorem dX11_saw_83 : decode cX11_saw 83 = .ok (.getfield 65, 3) := by decide +kernel
theorem dX11_saw_86 : decode cX11_saw 86 = .ok (.iconst 1, 1) := by decide +kernel
theorem dX11_saw_87 : decode cX11_saw 87 = .ok (.iadd, 1) := by decide +kernel
theorem dX11_saw_88 : decode cX11_saw 88 = .ok (.putfield 65, 3) := by decide +kernel
theorem dX11_saw_91 : decode cX11_saw 91 = .ok (.aload_n 0, 1) := by decide +kernel
theorem dX11_saw_92 : decode cX11_saw 92 = .ok (.getfield 65, 3) := by decide +kernel
theorem dX11_saw_95 : decode cX11_saw 95 = .ok (.ireturn, 1) := by decide +kernel
theorem dX11_forget_0 : decode cX11_forget 0 = .ok (.aload_n 0, 1) := by decide +kernel
theorem dX11_forget_1 : decode cX11_forget 1 = .ok (.getfield 65, 3) := by decide +kernel
theorem dX11_forget_4 : decode cX11_forget 4 = .ok (.istore_n 1, 1) := by decide +kernel
theorem dX11_forget_5 : decode cX11_forget 5 = .ok (.aload_n 0, 1) := by decide +kernel
theorem dX11_forget_6 : decode cX11_forget 6 = .ok (.iconst 0, 1) := by decide +kernel
theorem dX11_forget_7 : decode cX11_forget 7 = .ok (.putfield 65, 3) := by decide +kernel
theorem dX11_forget_10 : decode cX11_forget 10 = .ok (.iload_n 1, 1) := by decide +kernel
theorem dX11_forget_11 : decode cX11_forget 11 = .ok (.ireturn, 1) := by decide +kernel
theorem dX11_isSo_0 : decode cX11_isSo 0 = .ok (.iconst 1, 1) := by decide +kernel
theorem dX11_isSo_1 : decode cX11_isSo 1 = .ok (.istore_n 2, 1) := by decide +kernel
theorem dX11_isSo_2 : decode cX11_isSo 2 = .ok (.iconst 0, 1) := by decide +kernel
theorem dX11_isSo_3 : decode cX11_isSo 3 = .ok (.istore_n 3, 1) := by decide +kernel
theorem dX11_isSo_4 : decode cX11_isSo 4 = .ok (.iload_n 3, 1) := by decide +kernel
theorem dX11_isSo_5 : decode cX11_isSo 5 = .ok (.aload_n 0, 1) := by decide +kernel
theorem dX11_isSo_6 : decode cX11_isSo 6 = .ok (.getfield 65, 3) := by decide +kernel
theorem dX11_isSo_9 : decode cX11_isSo 9 = .ok (.if_icmp .ge 55, 3) := by decide +kernel
theorem dX11_isSo_12 : decode cX11_isSo 12 = .ok (.iload_n 2, 1) := by decide +kernel
theorem dX11_isSo_13 : decode cX11_isSo 13 = .ok (.ifCond .eq 43, 3) := by decide +kernel
theorem dX11_isSo_16 : decode cX11_isSo 16 = .ok (.aload_n 0, 1) := by decide +kernel
theorem dX11_isSo_17 : decode cX11_isSo 17 = .ok (.aload_n 0, 1) := by decide +kernel
theorem dX11_isSo_18 : decode cX11_isSo 18 = .ok (.getfield 32, 3) := by decide +kernel
theorem dX11_isSo_21 : decode cX11_isSo 21 = .ok (.iconst 3, 1) := by decide +kernel
theorem dX11_isSo_22 : decode cX11_isSo 22 = .ok (.iload_n 3, 1) := by decide +kernel
theorem dX11_isSo_23 : decode cX11_isSo 23 = .ok (.imul, 1) := by decide +kernel
theorem dX11_isSo_24 : decode cX11_isSo 24 = .ok (.iaload, 1) := by decide +kernel
theorem dX11_isSo_25 : decode cX11_isSo 25 = .ok (.aload_n 0, 1) := by decide +kernel
theorem dX11_isSo_26 : decode cX11_isSo 26 = .ok (.getfield 32, 3) := by decide +kernel
theorem dX11_isSo_29 : decode cX11_isSo 29 = .ok (.iconst 3, 1) := by decide +kernel
theorem dX11_isSo_30 : decode cX11_isSo 30 = .ok (.iload_n 3, 1) := by decide +kernel
theorem dX11_isSo_31 : decode cX11_isSo 31 = .ok (.imul, 1) := by decide +kernel
theorem dX11_isSo_32 : decode cX11_isSo 32 = .ok (.iconst 1, 1) := by decide +kernel
theorem dX11_isSo_33 : decode cX11_isSo 33 = .ok (.iadd, 1) := by decide +kernel
theorem dX11_isSo_34 : decode cX11_isSo 34 = .ok (.iaload, 1) := by decide +kernel
theorem dX11_isSo_35 : decode cX11_isSo 35 = .ok (.iload_n 1, 1) := by decide +kernel
theorem dX11_isSo_36 : decode cX11_isSo 36 = .ok (.invokevirtual 146, 3) := by decide +kernel
theorem dX11_isSo_39 : decode cX11_isSo 39 = .ok (.aload_n 0, 1) := by decide +kernel
theorem dX11_isSo_40 : decode cX11_isSo 40 = .ok (.getfield 32, 3) := by decide +kernel
theorem dX11_isSo_43 : decode cX11_isSo 43 = .ok (.iconst 3, 1) := by decide +kernel
theorem dX11_isSo_44 : decode cX11_isSo 44 = .ok (.iload_n 3, 1) := by decide +kernel
theorem dX11_isSo_45 : decode cX11_isSo 45 = .ok (.imul, 1) := by decide +kernel
theorem dX11_isSo_46 : decode cX11_isSo 46 = .ok (.iconst 2, 1) := by decide +kernel
theorem dX11_isSo_47 : decode cX11_isSo 47 = .ok (.iadd, 1) := by decide +kernel
theorem dX11_isSo_48 : decode cX11_isSo 48 = .ok (.iaload, 1) := by decide +kernel
theorem dX11_isSo_49 : decode cX11_isSo 49 = .ok (.if_icmp .ne 7, 3) := by decide +kernel
theorem dX11_isSo_52 : decode cX11_isSo 52 = .ok (.iconst 1, 1) := by decide +kernel
theorem dX11_isSo_53 : decode cX11_isSo 53 = .ok (.goto 4, 3) := by decide +kernel
theorem dX11_isSo_56 : decode cX11_isSo 56 = .ok (.iconst 0, 1) := by decide +kernel
theorem dX11_isSo_57 : decode cX11_isSo 57 = .ok (.istore_n 2, 1) := by decide +kernel
theorem dX11_isSo_58 : decode cX11_isSo 58 = .ok (.iinc 3 1, 3) := by decide +kernel
theorem dX11_isSo_61 : decode cX11_isSo 61 = .ok (.goto (-57), 3) := by decide +kernel
theorem dX11_isSo_64 : decode cX11_isSo 64 = .ok (.iload_n 2, 1) := by decide +kernel
theorem dX11_isSo_65 : decode cX11_isSo 65 = .ok (.ireturn, 1) := by decide +kernel
theorem dX11_wrong_0 : decode cX11_wrong 0 = .ok (.iload_n 1, 1) := by decide +kernel
theorem dX11_wrong_1 : decode cX11_wrong 1 = .ok (.invokestatic 119, 3) := by decide +kernel
theorem dX11_wrong_4 : decode cX11_wrong 4 = .ok (.ifCond .ne 5, 3) := by decide +kernel
theorem dX11_wrong_7 : decode cX11_wrong 7 = .ok (.iconst (-1), 1) := by decide +kernel
theorem dX11_wrong_8 : decode cX11_wrong 8 = .ok (.ireturn, 1) := by decide +kernel
theorem dX11_wrong_9 : decode cX11_wrong 9 = .ok (.iconst 0, 1) := by decide +kernel
theorem dX11_wrong_10 : decode cX11_wrong 10 = .ok (.istore_n 2, 1) := by decide +kernel
theorem dX11_wrong_11 : decode cX11_wrong 11 = .ok (.iconst 0, 1) := by decide +kernel
theorem dX11_wrong_12 : decode cX11_wrong 12 = .ok (.istore_n 3, 1) := by decide +kernel
theorem dX11_wrong_13 : decode cX11_wrong 13 = .ok (.iload_n 3, 1) := by decide +kernel
theorem dX11_wrong_14 : decode cX11_wrong 14 = .ok (.bipush 30, 2) := by decide +kernel
theorem dX11_wrong_16 : decode cX11_wrong 16 = .ok (.if_icmp .ge 48, 3) := by decide +kernel
theorem dX11_wrong_19 : decode cX11_wrong 19 = .ok (.bipush 30, 2) := by decide +kernel
theorem dX11_wrong_21 : decode cX11_wrong 21 = .ok (.iload_n 1, 1) := by decide +kernel
theorem dX11_wrong_22 : decode cX11_wrong 22 = .ok (.imul, 1) := by decide +kernel
theorem dX11_wrong_23 : decode cX11_wrong 23 = .ok (.iload_n 3, 1) := by decide +kernel
theorem dX11_wrong_24 : decode cX11_wrong 24 = .ok (.iadd, 1) := by decide +kernel
theorem dX11_wrong_25 : decode cX11_wrong 25 = .ok (.istore 4, 2) := by decide +kernel
theorem dX11_wrong_27 : decode cX11_wrong 27 = .ok (.iload_n 2, 1) := by decide +kernel
theorem dX11_wrong_28 : decode cX11_wrong 28 = .ok (.iload 4, 2) := by decide +kernel
theorem dX11_wrong_30 : decode cX11_wrong 30 = .ok (.aload_n 0, 1) := by decide +kernel
theorem dX11_wrong_31 : decode cX11_wrong 31 = .ok (.getfield 16, 3) := by decide +kernel
theorem dX11_wrong_34 : decode cX11_wrong 34 = .ok (.bipush 6, 2) := by decide +kernel
theorem dX11_wrong_36 : decode cX11_wrong 36 = .ok (.iaload, 1) := by decide +kernel
theorem dX11_wrong_37 : decode cX11_wrong 37 = .ok (.if_icmp .ge 18, 3) := by decide +kernel
theorem dX11_wrong_40 : decode cX11_wrong 40 = .ok (.aload_n 0, 1) := by decide +kernel
theorem dX11_wrong_41 : decode cX11_wrong 41 = .ok (.iload 4, 2) := by decide +kernel
theorem dX11_wrong_43 : decode cX11_wrong 43 = .ok (.invokevirtual 188, 3) := by decide +kernel
theorem dX11_wrong_46 : decode cX11_wrong 46 = .ok (.ifCond .eq 9, 3) := by decide +kernel
theorem dX11_wrong_49 : decode cX11_wrong 49 = .ok (.iconst 1, 1) := by decide +kernel
theorem dX11_wrong_50 : decode cX11_wrong 50 = .ok (.iload_n 3, 1) := by decide +kernel
theorem dX11_wrong_51 : decode cX11_wrong 51 = .ok (.ishl, 1) := by decide +kernel
theorem dX11_wrong_52 : decode cX11_wrong 52 = .ok (.goto 4, 3) := by decide +kernel
theorem dX11_wrong_55 : decode cX11_wrong 55 = .ok (.iconst 0, 1) := by decide +kernel
theorem dX11_wrong_56 : decode cX11_wrong 56 = .ok (.ior, 1) := by decide +kernel
theorem dX11_wrong_57 : decode cX11_wrong 57 = .ok (.istore_n 2, 1) := by decide +kernel
theorem dX11_wrong_58 : decode cX11_wrong 58 = .ok (.iinc 3 1, 3) := by decide +kernel
theorem dX11_wrong_61 : decode cX11_wrong 61 = .ok (.goto (-48), 3) := by decide +kernel
theorem dX11_wrong_64 : decode cX11_wrong 64 = .ok (.iload_n 2, 1) := by decide +kernel
theorem dX11_wrong_65 : decode cX11_wrong 65 = .ok (.ireturn, 1) := by decide +kernel
theorem dX11_asTold_0 : decode cX11_asTold 0 = .ok (.aload_n 0, 1) := by decide +kernel
theorem dX11_asTold_1 : decode cX11_asTold 1 = .ok (.iconst (-1), 1) := by decide +kernel
theorem dX11_asTold_2 : decode cX11_asTold 2 = .ok (.invokevirtual 188, 3) := by decide +kernel
theorem dX11_asTold_5 : decode cX11_asTold 5 = .ok (.ifCond .eq 7, 3) := by decide +kernel
theorem dX11_asTold_8 : decode cX11_asTold 8 = .ok (.iconst 1, 1) := by decide +kernel
theorem dX11_asTold_9 : decode cX11_asTold 9 = .ok (.goto 4, 3) := by decide +kernel
theorem dX11_asTold_12 : decode cX11_asTold 12 = .ok (.iconst 0, 1) := by decide +kernel
theorem dX11_asTold_13 : decode cX11_asTold 13 = .ok (.ireturn, 1) := by decide +kernel
theorem dX11_place_0 : decode cX11_place 0 = .ok (.sipush 500, 3) := by decide +kernel
theorem dX11_place_3 : decode cX11_place 3 = .ok (.iload_n 0, 1) := by decide +kernel
theorem dX11_place_4 : decode cX11_place 4 = .ok (.imul, 1) := by decide +kernel
theorem dX11_place_5 : decode cX11_place 5 = .ok (.bipush 100, 2) := by decide +kernel
theorem dX11_place_7 : decode cX11_place 7 = .ok (.iload_n 1, 1) := by decide +kernel
theorem dX11_place_8 : decode cX11_place 8 = .ok (.imul, 1) := by decide +kernel
theorem dX11_place_9 : decode cX11_place 9 = .ok (.iadd, 1) := by decide +kernel
theorem dX11_place_10 : decode cX11_place 10 = .ok (.iload_n 2, 1) := by decide +kernel
theorem dX11_place_11 : decode cX11_place 11 = .ok (.iadd, 1) := by decide +kernel
theorem dX11_place_12 : decode cX11_place 12 = .ok (.ireturn, 1) := by decide +kernel
theorem dX11_goes_0 : decode cX11_goes 0 = .ok (.iconst 0, 1) := by decide +kernel
theorem dX11_goes_1 : decode cX11_goes 1 = .ok (.istore_n 3, 1) := by decide +kernel
theorem dX11_goes_2 : decode cX11_goes 2 = .ok (.iload_n 3, 1) := by decide +kernel
theorem dX11_goes_3 : decode cX11_goes 3 = .ok (.iload_n 2, 1) := by decide +kernel
theorem dX11_goes_4 : decode cX11_goes 4 = .ok (.iadd, 1) := by decide +kernel
theorem dX11_goes_5 : decode cX11_goes 5 = .ok (.bipush 100, 2) := by decide +kernel
theorem dX11_goes_7 : decode cX11_goes 7 = .ok (.if_icmp .ge 122, 3) := by decide +kernel
theorem dX11_goes_10 : decode cX11_goes 10 = .ok (.iconst 1, 1) := by decide +kernel
theorem dX11_goes_11 : decode cX11_goes 11 = .ok (.istore 4, 2) := by decide +kernel
theorem dX11_goes_13 : decode cX11_goes 13 = .ok (.iload 4, 2) := by decide +kernel
theorem dX11_goes_15 : decode cX11_goes 15 = .ok (.aload_n 0, 1) := by decide +kernel
theorem dX11_goes_16 : decode cX11_goes 16 = .ok (.getfield 7, 3) := by decide +kernel
theorem dX11_goes_19 : decode cX11_goes 19 = .ok (.iconst 2, 1) := by decide +kernel
theorem dX11_goes_20 : decode cX11_goes 20 = .ok (.iaload, 1) := by decide +kernel
theorem dX11_goes_21 : decode cX11_goes 21 = .ok (.iconst 1, 1) := by decide +kernel
theorem dX11_goes_22 : decode cX11_goes 22 = .ok (.iadd, 1) := by decide +kernel
theorem dX11_goes_23 : decode cX11_goes 23 = .ok (.if_icmp .gt 100, 3) := by decide +kernel
theorem dX11_goes_26 : decode cX11_goes 26 = .ok (.iload_n 1, 1) := by decide +kernel
theorem dX11_goes_27 : decode cX11_goes 27 = .ok (.iload 4, 2) := by decide +kernel
theorem dX11_goes_29 : decode cX11_goes 29 = .ok (.iload_n 3, 1) := by decide +kernel
theorem dX11_goes_30 : decode cX11_goes 30 = .ok (.iload_n 2, 1) := by decide +kernel
theorem dX11_goes_31 : decode cX11_goes 31 = .ok (.iadd, 1) := by decide +kernel
theorem dX11_goes_32 : decode cX11_goes 32 = .ok (.invokestatic 191, 3) := by decide +kernel
theorem dX11_goes_35 : decode cX11_goes 35 = .ok (.istore 5, 2) := by decide +kernel
theorem dX11_goes_37 : decode cX11_goes 37 = .ok (.iload 4, 2) := by decide +kernel
theorem dX11_goes_39 : decode cX11_goes 39 = .ok (.iconst 1, 1) := by decide +kernel
theorem dX11_goes_40 : decode cX11_goes 40 = .ok (.if_icmp .ne 34, 3) := by decide +kernel
theorem dX11_goes_43 : decode cX11_goes 43 = .ok (.aload_n 0, 1) := by decide +kernel
theorem dX11_goes_44 : decode cX11_goes 44 = .ok (.getfield 44, 3) := by decide +kernel
theorem dX11_goes_47 : decode cX11_goes 47 = .ok (.iconst 1, 1) := by decide +kernel
theorem dX11_goes_48 : decode cX11_goes 48 = .ok (.iload_n 1, 1) := by decide +kernel
theorem dX11_goes_49 : decode cX11_goes 49 = .ok (.isub, 1) := by decide +kernel
theorem dX11_goes_50 : decode cX11_goes 50 = .ok (.iconst 0, 1) := by decide +kernel
theorem dX11_goes_51 : decode cX11_goes 51 = .ok (.iload_n 3, 1) := by decide +kernel
theorem dX11_goes_52 : decode cX11_goes 52 = .ok (.invokestatic 191, 3) := by decide +kernel
theorem dX11_goes_55 : decode cX11_goes 55 = .ok (.baload, 1) := by decide +kernel
theorem dX11_goes_56 : decode cX11_goes 56 = .ok (.ifCond .ne 14, 3) := by decide +kernel
theorem dX11_goes_59 : decode cX11_goes 59 = .ok (.aload_n 0, 1) := by decide +kernel
theorem dX11_goes_60 : decode cX11_goes 60 = .ok (.iconst 1, 1) := by decide +kernel
theorem dX11_goes_61 : decode cX11_goes 61 = .ok (.iload_n 1, 1) := by decide +kernel
theorem dX11_goes_62 : decode cX11_goes 62 = .ok (.isub, 1) := by decide +kernel
theorem dX11_goes_63 : decode cX11_goes 63 = .ok (.iload_n 3, 1) := by decide +kernel
theorem dX11_goes_64 : decode cX11_goes 64 = .ok (.invokevirtual 194, 3) := by decide +kernel
theorem dX11_goes_67 : decode cX11_goes 67 = .ok (.ifCond .eq 7, 3) := by decide +kernel
theorem dX11_goes_70 : decode cX11_goes 70 = .ok (.iconst 1, 1) := by decide +kernel
theorem dX11_goes_71 : decode cX11_goes 71 = .ok (.goto 4, 3) := by decide +kernel
theorem dX11_goes_74 : decode cX11_goes 74 = .ok (.iconst 0, 1) := by decide +kernel
theorem dX11_goes_75 : decode cX11_goes 75 = .ok (.istore 6, 2) := by decide +kernel
theorem dX11_goes_77 : decode cX11_goes 77 = .ok (.aload_n 0, 1) := by decide +kernel
theorem dX11_goes_78 : decode cX11_goes 78 = .ok (.getfield 47, 3) := by decide +kernel
theorem dX11_goes_81 : decode cX11_goes 81 = .ok (.iload 5, 2) := by decide +kernel
theorem dX11_goes_83 : decode cX11_goes 83 = .ok (.iload 6, 2) := by decide +kernel
theorem dX11_goes_85 : decode cX11_goes 85 = .ok (.ifCond .ne 26, 3) := by decide +kernel
theorem dX11_goes_88 : decode cX11_goes 88 = .ok (.iload 4, 2) := by decide +kernel
theorem dX11_goes_90 : decode cX11_goes 90 = .ok (.iconst 1, 1) := by decide +kernel
theorem dX11_goes_91 : decode cX11_goes 91 = .ok (.if_icmp .le 24, 3) := by decide +kernel
theorem dX11_goes_94 : decode cX11_goes 94 = .ok (.aload_n 0, 1) := by decide +kernel
theorem dX11_goes_95 : decode cX11_goes 95 = .ok (.getfield 44, 3) := by decide +kernel
theorem dX11_goes_98 : decode cX11_goes 98 = .ok (.iload_n 1, 1) := by decide +kernel
theorem dX11_goes_99 : decode cX11_goes 99 = .ok (.iload 4, 2) := by decide +kernel
theorem dX11_goes_101 : decode cX11_goes 101 = .ok (.iconst 1, 1) := by decide +kernel
theorem dX11_goes_102 : decode cX11_goes 102 = .ok (.isub, 1) := by decide +kernel
theorem dX11_goes_103 : decode cX11_goes 103 = .ok (.iload_n 3, 1) := by decide +kernel
theorem dX11_goes_104 : decode cX11_goes 104 = .ok (.invokestatic 191, 3) := by decide +kernel
theorem dX11_goes_107 : decode cX11_goes 107 = .ok (.baload, 1) := by decide +kernel
theorem dX11_goes_108 : decode cX11_goes 108 = .ok (.ifCond .eq 7, 3) := by decide +kernel
theorem dX11_goes_111 : decode cX11_goes 111 = .ok (.iconst 1, 1) := by decide +kernel
theorem dX11_goes_112 : decode cX11_goes 112 = .ok (.goto 4, 3) := by decide +kernel
theorem dX11_goes_115 : decode cX11_goes 115 = .ok (.iconst 0, 1) := by decide +kernel
theorem dX11_goes_116 : decode cX11_goes 116 = .ok (.bastore, 1) := by decide +kernel
theorem dX11_goes_117 : decode cX11_goes 117 = .ok (.iinc 4 1, 3) := by decide +kernel
theorem dX11_goes_120 : decode cX11_goes 120 = .ok (.goto (-107), 3) := by decide +kernel
theorem dX11_goes_123 : decode cX11_goes 123 = .ok (.iinc 3 1, 3) := by decide +kernel
theorem dX11_goes_126 : decode cX11_goes 126 = .ok (.goto (-124), 3) := by decide +kernel
theorem dX11_goes_129 : decode cX11_goes 129 = .ok (.return_, 1) := by decide +kernel
theorem dX11_anyOf_0 : decode cX11_anyOf 0 = .ok (.iconst 0, 1) := by decide +kernel
theorem dX11_anyOf_1 : decode cX11_anyOf 1 = .ok (.istore_n 3, 1) := by decide +kernel
theorem dX11_anyOf_2 : decode cX11_anyOf 2 = .ok (.iconst 1, 1) := by decide +kernel
theorem dX11_anyOf_3 : decode cX11_anyOf 3 = .ok (.istore 4, 2) := by decide +kernel
theorem dX11_anyOf_5 : decode cX11_anyOf 5 = .ok (.iload 4, 2) := by decide +kernel
theorem dX11_anyOf_7 : decode cX11_anyOf 7 = .ok (.aload_n 0, 1) := by decide +kernel
theorem dX11_anyOf_8 : decode cX11_anyOf 8 = .ok (.getfield 7, 3) := by decide +kernel
theorem dX11_anyOf_11 : decode cX11_anyOf 11 = .ok (.iconst 2, 1) := by decide +kernel
theorem dX11_anyOf_12 : decode cX11_anyOf 12 = .ok (.iaload, 1) := by decide +kernel
theorem dX11_anyOf_13 : decode cX11_anyOf 13 = .ok (.iconst 1, 1) := by decide +kernel
theorem dX11_anyOf_14 : decode cX11_anyOf 14 = .ok (.iadd, 1) := by decide +kernel
theorem dX11_anyOf_15 : decode cX11_anyOf 15 = .ok (.if_icmp .gt 34, 3) := by decide +kernel
theorem dX11_anyOf_18 : decode cX11_anyOf 18 = .ok (.iload_n 3, 1) := by decide +kernel
theorem dX11_anyOf_19 : decode cX11_anyOf 19 = .ok (.ifCond .ne 18, 3) := by decide +kernel
theorem dX11_anyOf_22 : decode cX11_anyOf 22 = .ok (.aload_n 0, 1) := by decide +kernel
theorem dX11_anyOf_23 : decode cX11_anyOf 23 = .ok (.getfield 44, 3) := by decide +kernel
theorem dX11_anyOf_26 : decode cX11_anyOf 26 = .ok (.iload_n 1, 1) := by decide +kernel
theorem dX11_anyOf_27 : decode cX11_anyOf 27 = .ok (.iload 4, 2) := by decide +kernel
theorem dX11_anyOf_29 : decode cX11_anyOf 29 = .ok (.iload_n 2, 1) := by decide +kernel
theorem dX11_anyOf_30 : decode cX11_anyOf 30 = .ok (.invokestatic 191, 3) := by decide +kernel
theorem dX11_anyOf_33 : decode cX11_anyOf 33 = .ok (.baload, 1) := by decide +kernel
theorem dX11_anyOf_34 : decode cX11_anyOf 34 = .ok (.ifCond .eq 7, 3) := by decide +kernel
theorem dX11_anyOf_37 : decode cX11_anyOf 37 = .ok (.iconst 1, 1) := by decide +kernel
theorem dX11_anyOf_38 : decode cX11_anyOf 38 = .ok (.goto 4, 3) := by decide +kernel
theorem dX11_anyOf_41 : decode cX11_anyOf 41 = .ok (.iconst 0, 1) := by decide +kernel
theorem dX11_anyOf_42 : decode cX11_anyOf 42 = .ok (.istore_n 3, 1) := by decide +kernel
theorem dX11_anyOf_43 : decode cX11_anyOf 43 = .ok (.iinc 4 1, 3) := by decide +kernel
theorem dX11_anyOf_46 : decode cX11_anyOf 46 = .ok (.goto (-41), 3) := by decide +kernel
theorem dX11_anyOf_49 : decode cX11_anyOf 49 = .ok (.iload_n 3, 1) := by decide +kernel
theorem dX11_anyOf_50 : decode cX11_anyOf 50 = .ok (.ireturn, 1) := by decide +kernel
theorem dX11_soonest_0 : decode cX11_soonest 0 = .ok (.iload_n 1, 1) := by decide +kernel
theorem dX11_soonest_1 : decode cX11_soonest 1 = .ok (.i2l, 1) := by decide +kernel
theorem dX11_soonest_2 : decode cX11_soonest 2 = .ok (.lconst 1, 1) := by decide +kernel
theorem dX11_soonest_3 : decode cX11_soonest 3 = .ok (.ldc2_w 197, 3) := by decide +kernel
theorem dX11_soonest_6 : decode cX11_soonest 6 = .ok (.invokestatic 57, 3) := by decide +kernel
theorem dX11_soonest_9 : decode cX11_soonest 9 = .ok (.ifCond .eq 27, 3) := by decide +kernel
theorem dX11_soonest_12 : decode cX11_soonest 12 = .ok (.iload_n 2, 1) := by decide +kernel
theorem dX11_soonest_13 : decode cX11_soonest 13 = .ok (.i2l, 1) := by decide +kernel
theorem dX11_soonest_14 : decode cX11_soonest 14 = .ok (.lconst 1, 1) := by decide +kernel
theorem dX11_soonest_15 : decode cX11_soonest 15 = .ok (.ldc2_w 179, 3) := by decide +kernel
theorem dX11_soonest_18 : decode cX11_soonest 18 = .ok (.invokestatic 57, 3) := by decide +kernel
theorem dX11_soonest_21 : decode cX11_soonest 21 = .ok (.ifCond .eq 15, 3) := by decide +kernel
theorem dX11_soonest_24 : decode cX11_soonest 24 = .ok (.iload_n 3, 1) := by decide +kernel
theorem dX11_soonest_25 : decode cX11_soonest 25 = .ok (.i2l, 1) := by decide +kernel
theorem dX11_soonest_26 : decode cX11_soonest 26 = .ok (.lconst 1, 1) := by decide +kernel
theorem dX11_soonest_27 : decode cX11_soonest 27 = .ok (.ldc2_w 179, 3) := by decide +kernel
theorem dX11_soonest_30 : decode cX11_soonest 30 = .ok (.invokestatic 57, 3) := by decide +kernel
theorem dX11_soonest_33 : decode cX11_soonest 33 = .ok (.ifCond .ne 5, 3) := by decide +kernel
theorem dX11_soonest_36 : decode cX11_soonest 36 = .ok (.iconst (-1), 1) := by decide +kernel
theorem dX11_soonest_37 : decode cX11_soonest 37 = .ok (.ireturn, 1) := by decide +kernel
theorem dX11_soonest_38 : decode cX11_soonest 38 = .ok (.iconst 0, 1) := by decide +kernel
theorem dX11_soonest_39 : decode cX11_soonest 39 = .ok (.istore 4, 2) := by decide +kernel
theorem dX11_soonest_41 : decode cX11_soonest 41 = .ok (.iload 4, 2) := by decide +kernel
theorem dX11_soonest_43 : decode cX11_soonest 43 = .ok (.sipush 1000, 3) := by decide +kernel
theorem dX11_soonest_46 : decode cX11_soonest 46 = .ok (.if_icmp .ge 43, 3) := by decide +kernel
theorem dX11_soonest_49 : decode cX11_soonest 49 = .ok (.aload_n 0, 1) := by decide +kernel
theorem dX11_soonest_50 : decode cX11_soonest 50 = .ok (.getfield 44, 3) := by decide +kernel
theorem dX11_soonest_53 : decode cX11_soonest 53 = .ok (.iload 4, 2) := by decide +kernel
theorem dX11_soonest_55 : decode cX11_soonest 55 = .ok (.iload 4, 2) := by decide +kernel
theorem dX11_soonest_57 : decode cX11_soonest 57 = .ok (.iconst 0, 1) := by decide +kernel
theorem dX11_soonest_58 : decode cX11_soonest 58 = .ok (.iconst 0, 1) := by decide +kernel
theorem dX11_soonest_59 : decode cX11_soonest 59 = .ok (.iconst 0, 1) := by decide +kernel
theorem dX11_soonest_60 : decode cX11_soonest 60 = .ok (.invokestatic 191, 3) := by decide +kernel
theorem dX11_soonest_63 : decode cX11_soonest 63 = .ok (.if_icmp .eq 14, 3) := by decide +kernel
theorem dX11_soonest_66 : decode cX11_soonest 66 = .ok (.iload 4, 2) := by decide +kernel
theorem dX11_soonest_68 : decode cX11_soonest 68 = .ok (.iconst 1, 1) := by decide +kernel
theorem dX11_soonest_69 : decode cX11_soonest 69 = .ok (.iconst 0, 1) := by decide +kernel
theorem dX11_soonest_70 : decode cX11_soonest 70 = .ok (.iconst 0, 1) := by decide +kernel
theorem dX11_soonest_71 : decode cX11_soonest 71 = .ok (.invokestatic 191, 3) := by decide +kernel
theorem dX11_soonest_74 : decode cX11_soonest 74 = .ok (.if_icmp .ne 7, 3) := by decide +kernel
theorem dX11_soonest_77 : decode cX11_soonest 77 = .ok (.iconst 1, 1) := by decide +kernel
theorem dX11_soonest_78 : decode cX11_soonest 78 = .ok (.goto 4, 3) := by decide +kernel
theorem dX11_soonest_81 : decode cX11_soonest 81 = .ok (.iconst 0, 1) := by decide +kernel
theorem dX11_soonest_82 : decode cX11_soonest 82 = .ok (.bastore, 1) := by decide +kernel
theorem dX11_soonest_83 : decode cX11_soonest 83 = .ok (.iinc 4 1, 3) := by decide +kernel
theorem dX11_soonest_86 : decode cX11_soonest 86 = .ok (.goto (-45), 3) := by decide +kernel
theorem dX11_soonest_89 : decode cX11_soonest 89 = .ok (.iconst 1, 1) := by decide +kernel
theorem dX11_soonest_90 : decode cX11_soonest 90 = .ok (.istore 4, 2) := by decide +kernel
theorem dX11_soonest_92 : decode cX11_soonest 92 = .ok (.iload 4, 2) := by decide +kernel
theorem dX11_soonest_94 : decode cX11_soonest 94 = .ok (.bipush 60, 2) := by decide +kernel
theorem dX11_soonest_96 : decode cX11_soonest 96 = .ok (.if_icmp .gt 98, 3) := by decide +kernel
theorem dX11_soonest_99 : decode cX11_soonest 99 = .ok (.iconst 0, 1) := by decide +kernel
theorem dX11_soonest_100 : decode cX11_soonest 100 = .ok (.istore 5, 2) := by decide +kernel
theorem dX11_soonest_102 : decode cX11_soonest 102 = .ok (.iload 5, 2) := by decide +kernel
theorem dX11_soonest_104 : decode cX11_soonest 104 = .ok (.sipush 1000, 3) := by decide +kernel
theorem dX11_soonest_107 : decode cX11_soonest 107 = .ok (.if_icmp .ge 17, 3) := by decide +kernel
theorem dX11_soonest_110 : decode cX11_soonest 110 = .ok (.aload_n 0, 1) := by decide +kernel
theorem dX11_soonest_111 : decode cX11_soonest 111 = .ok (.getfield 47, 3) := by decide +kernel
theorem dX11_soonest_114 : decode cX11_soonest 114 = .ok (.iload 5, 2) := by decide +kernel
theorem dX11_soonest_116 : decode cX11_soonest 116 = .ok (.iconst 0, 1) := by decide +kernel
theorem dX11_soonest_117 : decode cX11_soonest 117 = .ok (.bastore, 1) := by decide +kernel
theorem dX11_soonest_118 : decode cX11_soonest 118 = .ok (.iinc 5 1, 3) := by decide +kernel
theorem dX11_soonest_121 : decode cX11_soonest 121 = .ok (.goto (-19), 3) := by decide +kernel
theorem dX11_soonest_124 : decode cX11_soonest 124 = .ok (.aload_n 0, 1) := by decide +kernel
theorem dX11_soonest_125 : decode cX11_soonest 125 = .ok (.iconst 0, 1) := by decide +kernel
theorem dX11_soonest_126 : decode cX11_soonest 126 = .ok (.iload_n 2, 1) := by decide +kernel
theorem dX11_soonest_127 : decode cX11_soonest 127 = .ok (.invokevirtual 199, 3) := by decide +kernel
theorem dX11_soonest_130 : decode cX11_soonest 130 = .ok (.aload_n 0, 1) := by decide +kernel
theorem dX11_soonest_131 : decode cX11_soonest 131 = .ok (.iconst 1, 1) := by decide +kernel
theorem dX11_soonest_132 : decode cX11_soonest 132 = .ok (.iload_n 3, 1) := by decide +kernel
theorem dX11_soonest_133 : decode cX11_soonest 133 = .ok (.invokevirtual 199, 3) := by decide +kernel
theorem dX11_soonest_136 : decode cX11_soonest 136 = .ok (.iconst 0, 1) := by decide +kernel
theorem dX11_soonest_137 : decode cX11_soonest 137 = .ok (.istore 5, 2) := by decide +kernel
theorem dX11_soonest_139 : decode cX11_soonest 139 = .ok (.iload 5, 2) := by decide +kernel
theorem dX11_soonest_141 : decode cX11_soonest 141 = .ok (.sipush 1000, 3) := by decide +kernel
theorem dX11_soonest_144 : decode cX11_soonest 144 = .ok (.if_icmp .ge 23, 3) := by decide +kernel
theorem dX11_soonest_147 : decode cX11_soonest 147 = .ok (.aload_n 0, 1) := by decide +kernel
theorem dX11_soonest_148 : decode cX11_soonest 148 = .ok (.getfield 44, 3) := by decide +kernel
theorem dX11_soonest_151 : decode cX11_soonest 151 = .ok (.iload 5, 2) := by decide +kernel
theorem dX11_soonest_153 : decode cX11_soonest 153 = .ok (.aload_n 0, 1) := by decide +kernel
theorem dX11_soonest_154 : decode cX11_soonest 154 = .ok (.getfield 47, 3) := by decide +kernel
theorem dX11_soonest_157 : decode cX11_soonest 157 = .ok (.iload 5, 2) := by decide +kernel
theorem dX11_soonest_159 : decode cX11_soonest 159 = .ok (.baload, 1) := by decide +kernel
theorem dX11_soonest_160 : decode cX11_soonest 160 = .ok (.bastore, 1) := by decide +kernel
theorem dX11_soonest_161 : decode cX11_soonest 161 = .ok (.iinc 5 1, 3) := by decide +kernel
theorem dX11_soonest_164 : decode cX11_soonest 164 = .ok (.goto (-25), 3) := by decide +kernel
theorem dX11_soonest_167 : decode cX11_soonest 167 = .ok (.aload_n 0, 1) := by decide +kernel
theorem dX11_soonest_168 : decode cX11_soonest 168 = .ok (.iconst 0, 1) := by decide +kernel
theorem dX11_soonest_169 : decode cX11_soonest 169 = .ok (.iload_n 1, 1) := by decide +kernel
theorem dX11_soonest_170 : decode cX11_soonest 170 = .ok (.invokevirtual 194, 3) := by decide +kernel
theorem dX11_soonest_173 : decode cX11_soonest 173 = .ok (.ifCond .ne 12, 3) := by decide +kernel
theorem dX11_soonest_176 : decode cX11_soonest 176 = .ok (.aload_n 0, 1) := by decide +kernel
theorem dX11_soonest_177 : decode cX11_soonest 177 = .ok (.iconst 1, 1) := by decide +kernel
theorem dX11_soonest_178 : decode cX11_soonest 178 = .ok (.iload_n 1, 1) := by decide +kernel
theorem dX11_soonest_179 : decode cX11_soonest 179 = .ok (.invokevirtual 194, 3) := by decide +kernel
theorem dX11_soonest_182 : decode cX11_soonest 182 = .ok (.ifCond .eq 6, 3) := by decide +kernel
theorem dX11_soonest_185 : decode cX11_soonest 185 = .ok (.iload 4, 2) := by decide +kernel
theorem dX11_soonest_187 : decode cX11_soonest 187 = .ok (.ireturn, 1) := by decide +kernel
theorem dX11_soonest_188 : decode cX11_soonest 188 = .ok (.iinc 4 1, 3) := by decide +kernel
theorem dX11_soonest_191 : decode cX11_soonest 191 = .ok (.goto (-99), 3) := by decide +kernel
theorem dX11_soonest_194 : decode cX11_soonest 194 = .ok (.bipush (-9), 2) := by decide +kernel
theorem dX11_soonest_196 : decode cX11_soonest 196 = .ok (.ireturn, 1) := by decide +kernel
theorem dX11_rate_0 : decode cX11_rate 0 = .ok (.iload_n 1, 1) := by decide +kernel
theorem dX11_rate_1 : decode cX11_rate 1 = .ok (.i2l, 1) := by decide +kernel
theorem dX11_rate_2 : decode cX11_rate 2 = .ok (.lconst 0, 1) := by decide +kernel
theorem dX11_rate_3 : decode cX11_rate 3 = .ok (.ldc2_w 203, 3) := by decide +kernel
theorem dX11_rate_6 : decode cX11_rate 6 = .ok (.invokestatic 57, 3) := by decide +kernel
theorem dX11_rate_9 : decode cX11_rate 9 = .ok (.ifCond .eq 10, 3) := by decide +kernel
theorem dX11_rate_12 : decode cX11_rate 12 = .ok (.iload_n 2, 1) := by decide +kernel
theorem dX11_rate_13 : decode cX11_rate 13 = .ok (.invokestatic 119, 3) := by decide +kernel
theorem dX11_rate_16 : decode cX11_rate 16 = .ok (.ifCond .ne 6, 3) := by decide +kernel
theorem dX11_rate_19 : decode cX11_rate 19 = .ok (.ldc 205, 2) := by decide +kernel
theorem dX11_rate_21 : decode cX11_rate 21 = .ok (.ireturn, 1) := by decide +kernel
theorem dX11_rate_22 : decode cX11_rate 22 = .ok (.aload_n 0, 1) := by decide +kernel
theorem dX11_rate_23 : decode cX11_rate 23 = .ok (.iload_n 2, 1) := by decide +kernel
theorem dX11_rate_24 : decode cX11_rate 24 = .ok (.aload_n 0, 1) := by decide +kernel
theorem dX11_rate_25 : decode cX11_rate 25 = .ok (.iload_n 2, 1) := by decide +kernel
theorem dX11_rate_26 : decode cX11_rate 26 = .ok (.invokevirtual 129, 3) := by decide +kernel
theorem dX11_rate_29 : decode cX11_rate 29 = .ok (.invokevirtual 125, 3) := by decide +kernel
theorem dX11_rate_32 : decode cX11_rate 32 = .ok (.istore_n 3, 1) := by decide +kernel
theorem dX11_rate_33 : decode cX11_rate 33 = .ok (.aload_n 0, 1) := by decide +kernel
theorem dX11_rate_34 : decode cX11_rate 34 = .ok (.dup, 1) := by decide +kernel
theorem dX11_rate_35 : decode cX11_rate 35 = .ok (.getfield 206, 3) := by decide +kernel
theorem dX11_rate_38 : decode cX11_rate 38 = .ok (.lconst 1, 1) := by decide +kernel
theorem dX11_rate_39 : decode cX11_rate 39 = .ok (.ladd, 1) := by decide +kernel
theorem dX11_rate_40 : decode cX11_rate 40 = .ok (.putfield 206, 3) := by decide +kernel
theorem dX11_rate_43 : decode cX11_rate 43 = .ok (.iload_n 1, 1) := by decide +kernel
theorem dX11_rate_44 : decode cX11_rate 44 = .ok (.tableswitch 143 1 5 #[36, 56, 76, 98, 120], 36) := by decide +kernel
theorem dX11_rate_80 : decode cX11_rate 80 = .ok (.aload_n 0, 1) := by decide +kernel
theorem dX11_rate_81 : decode cX11_rate 81 = .ok (.dup, 1) := by decide +kernel
theorem dX11_rate_82 : decode cX11_rate 82 = .ok (.getfield 206, 3) := by decide +kernel
theorem dX11_rate_85 : decode cX11_rate 85 = .ok (.ldc2_w 181, 3) := by decide +kernel
theorem dX11_rate_88 : decode cX11_rate 88 = .ok (.ladd, 1) := by decide +kernel
theorem dX11_rate_89 : decode cX11_rate 89 = .ok (.putfield 206, 3) := by decide +kernel
theorem dX11_rate_92 : decode cX11_rate 92 = .ok (.iload_n 3, 1) := by decide +kernel
theorem dX11_rate_93 : decode cX11_rate 93 = .ok (.aload_n 0, 1) := by decide +kernel
theorem dX11_rate_94 : decode cX11_rate 94 = .ok (.iload_n 2, 1) := by decide +kernel
theorem dX11_rate_95 : decode cX11_rate 95 = .ok (.invokevirtual 143, 3) := by decide +kernel
theorem dX11_rate_98 : decode cX11_rate 98 = .ok (.iadd, 1) := by decide +kernel
theorem dX11_rate_99 : decode cX11_rate 99 = .ok (.ireturn, 1) := by decide +kernel
theorem dX11_rate_100 : decode cX11_rate 100 = .ok (.aload_n 0, 1) := by decide +kernel
theorem dX11_rate_101 : decode cX11_rate 101 = .ok (.dup, 1) := by decide +kernel
theorem dX11_rate_102 : decode cX11_rate 102 = .ok (.getfield 206, 3) := by decide +kernel
theorem dX11_rate_105 : decode cX11_rate 105 = .ok (.ldc2_w 210, 3) := by decide +kernel
theorem dX11_rate_108 : decode cX11_rate 108 = .ok (.ladd, 1) := by decide +kernel
theorem dX11_rate_109 : decode cX11_rate 109 = .ok (.putfield 206, 3) := by decide +kernel
theorem dX11_rate_112 : decode cX11_rate 112 = .ok (.iload_n 3, 1) := by decide +kernel
theorem dX11_rate_113 : decode cX11_rate 113 = .ok (.aload_n 0, 1) := by decide +kernel
theorem dX11_rate_114 : decode cX11_rate 114 = .ok (.iload_n 2, 1) := by decide +kernel
theorem dX11_rate_115 : decode cX11_rate 115 = .ok (.invokevirtual 212, 3) := by decide +kernel
theorem dX11_rate_118 : decode cX11_rate 118 = .ok (.isub, 1) := by decide +kernel
theorem dX11_rate_119 : decode cX11_rate 119 = .ok (.ireturn, 1) := by decide +kernel
theorem dX11_rate_120 : decode cX11_rate 120 = .ok (.aload_n 0, 1) := by decide +kernel
theorem dX11_rate_121 : decode cX11_rate 121 = .ok (.dup, 1) := by decide +kernel
theorem dX11_rate_122 : decode cX11_rate 122 = .ok (.getfield 206, 3) := by decide +kernel
theorem dX11_rate_125 : decode cX11_rate 125 = .ok (.ldc2_w 215, 3) := by decide +kernel
theorem dX11_rate_128 : decode cX11_rate 128 = .ok (.ladd, 1) := by decide +kernel
theorem dX11_rate_129 : decode cX11_rate 129 = .ok (.putfield 206, 3) := by decide +kernel
theorem dX11_rate_132 : decode cX11_rate 132 = .ok (.iconst 2, 1) := by decide +kernel
theorem dX11_rate_133 : decode cX11_rate 133 = .ok (.iload_n 3, 1) := by decide +kernel
theorem dX11_rate_134 : decode cX11_rate 134 = .ok (.aload_n 0, 1) := by decide +kernel
theorem dX11_rate_135 : decode cX11_rate 135 = .ok (.iload_n 2, 1) := by decide +kernel
theorem dX11_rate_136 : decode cX11_rate 136 = .ok (.invokevirtual 143, 3) := by decide +kernel
theorem dX11_rate_139 : decode cX11_rate 139 = .ok (.iadd, 1) := by decide +kernel
theorem dX11_rate_140 : decode cX11_rate 140 = .ok (.imul, 1) := by decide +kernel
theorem dX11_rate_141 : decode cX11_rate 141 = .ok (.ireturn, 1) := by decide +kernel
theorem dX11_rate_142 : decode cX11_rate 142 = .ok (.aload_n 0, 1) := by decide +kernel
theorem dX11_rate_143 : decode cX11_rate 143 = .ok (.dup, 1) := by decide +kernel
theorem dX11_rate_144 : decode cX11_rate 144 = .ok (.getfield 206, 3) := by decide +kernel
theorem dX11_rate_147 : decode cX11_rate 147 = .ok (.ldc2_w 217, 3) := by decide +kernel
theorem dX11_rate_150 : decode cX11_rate 150 = .ok (.ladd, 1) := by decide +kernel
theorem dX11_rate_151 : decode cX11_rate 151 = .ok (.putfield 206, 3) := by decide +kernel
theorem dX11_rate_154 : decode cX11_rate 154 = .ok (.iload_n 3, 1) := by decide +kernel
theorem dX11_rate_155 : decode cX11_rate 155 = .ok (.aload_n 0, 1) := by decide +kernel
theorem dX11_rate_156 : decode cX11_rate 156 = .ok (.iload_n 2, 1) := by decide +kernel
theorem dX11_rate_157 : decode cX11_rate 157 = .ok (.invokevirtual 212, 3) := by decide +kernel
theorem dX11_rate_160 : decode cX11_rate 160 = .ok (.isub, 1) := by decide +kernel
theorem dX11_rate_161 : decode cX11_rate 161 = .ok (.iload_n 2, 1) := by decide +kernel
theorem dX11_rate_162 : decode cX11_rate 162 = .ok (.iadd, 1) := by decide +kernel
theorem dX11_rate_163 : decode cX11_rate 163 = .ok (.ireturn, 1) := by decide +kernel
theorem dX11_rate_164 : decode cX11_rate 164 = .ok (.aload_n 0, 1) := by decide +kernel
theorem dX11_rate_165 : decode cX11_rate 165 = .ok (.dup, 1) := by decide +kernel
theorem dX11_rate_166 : decode cX11_rate 166 = .ok (.getfield 206, 3) := by decide +kernel
theorem dX11_rate_169 : decode cX11_rate 169 = .ok (.ldc2_w 219, 3) := by decide +kernel
theorem dX11_rate_172 : decode cX11_rate 172 = .ok (.ladd, 1) := by decide +kernel
theorem dX11_rate_173 : decode cX11_rate 173 = .ok (.putfield 206, 3) := by decide +kernel
theorem dX11_rate_176 : decode cX11_rate 176 = .ok (.iload_n 3, 1) := by decide +kernel
theorem dX11_rate_177 : decode cX11_rate 177 = .ok (.aload_n 0, 1) := by decide +kernel
theorem dX11_rate_178 : decode cX11_rate 178 = .ok (.iconst 2, 1) := by decide +kernel
theorem dX11_rate_179 : decode cX11_rate 179 = .ok (.invokevirtual 129, 3) := by decide +kernel
theorem dX11_rate_182 : decode cX11_rate 182 = .ok (.invokestatic 165, 3) := by decide +kernel
theorem dX11_rate_185 : decode cX11_rate 185 = .ok (.iadd, 1) := by decide +kernel
theorem dX11_rate_186 : decode cX11_rate 186 = .ok (.ireturn, 1) := by decide +kernel
theorem dX11_rate_187 : decode cX11_rate 187 = .ok (.iload_n 3, 1) := by decide +kernel
theorem dX11_rate_188 : decode cX11_rate 188 = .ok (.ireturn, 1) := by decide +kernel
theorem dX11_keep_0 : decode cX11_keep 0 = .ok (.iload_n 1, 1) := by decide +kernel
theorem dX11_keep_1 : decode cX11_keep 1 = .ok (.invokestatic 119, 3) := by decide +kernel
theorem dX11_keep_4 : decode cX11_keep 4 = .ok (.ifCond .ne 5, 3) := by decide +kernel
theorem dX11_keep_7 : decode cX11_keep 7 = .ok (.iconst (-1), 1) := by decide +kernel
theorem dX11_keep_8 : decode cX11_keep 8 = .ok (.ireturn, 1) := by decide +kernel
theorem dX11_keep_9 : decode cX11_keep 9 = .ok (.aload_n 0, 1) := by decide +kernel
theorem dX11_keep_10 : decode cX11_keep 10 = .ok (.getfield 16, 3) := by decide +kernel
theorem dX11_keep_13 : decode cX11_keep 13 = .ok (.iconst 0, 1) := by decide +kernel
theorem dX11_keep_14 : decode cX11_keep 14 = .ok (.aload_n 0, 1) := by decide +kernel
theorem dX11_keep_15 : decode cX11_keep 15 = .ok (.getfield 22, 3) := by decide +kernel
theorem dX11_keep_18 : decode cX11_keep 18 = .ok (.bipush 9, 2) := by decide +kernel
theorem dX11_keep_20 : decode cX11_keep 20 = .ok (.iload_n 1, 1) := by decide +kernel
theorem dX11_keep_21 : decode cX11_keep 21 = .ok (.imul, 1) := by decide +kernel
theorem dX11_keep_22 : decode cX11_keep 22 = .ok (.invokestatic 133, 3) := by decide +kernel
theorem dX11_keep_25 : decode cX11_keep 25 = .ok (.aload_n 0, 1) := by decide +kernel
theorem dX11_keep_26 : decode cX11_keep 26 = .ok (.getfield 25, 3) := by decide +kernel
theorem dX11_keep_29 : decode cX11_keep 29 = .ok (.iload_n 1, 1) := by decide +kernel
theorem dX11_keep_30 : decode cX11_keep 30 = .ok (.iconst 1, 1) := by decide +kernel
theorem dX11_keep_31 : decode cX11_keep 31 = .ok (.bastore, 1) := by decide +kernel
theorem dX11_keep_32 : decode cX11_keep 32 = .ok (.aload_n 0, 1) := by decide +kernel
theorem dX11_keep_33 : decode cX11_keep 33 = .ok (.getfield 16, 3) := by decide +kernel
theorem dX11_keep_36 : decode cX11_keep 36 = .ok (.bipush 6, 2) := by decide +kernel
theorem dX11_keep_38 : decode cX11_keep 38 = .ok (.iaload, 1) := by decide +kernel
theorem dX11_keep_39 : decode cX11_keep 39 = .ok (.ireturn, 1) := by decide +kernel
theorem dX11_back_0 : decode cX11_back 0 = .ok (.iload_n 1, 1) := by decide +kernel
theorem dX11_back_1 : decode cX11_back 1 = .ok (.invokestatic 119, 3) := by decide +kernel
theorem dX11_back_4 : decode cX11_back 4 = .ok (.ifCond .ne 5, 3) := by decide +kernel
theorem dX11_back_7 : decode cX11_back 7 = .ok (.iconst (-1), 1) := by decide +kernel
theorem dX11_back_8 : decode cX11_back 8 = .ok (.ireturn, 1) := by decide +kernel
theorem dX11_back_9 : decode cX11_back 9 = .ok (.aload_n 0, 1) := by decide +kernel
theorem dX11_back_10 : decode cX11_back 10 = .ok (.getfield 25, 3) := by decide +kernel
theorem dX11_back_13 : decode cX11_back 13 = .ok (.iload_n 1, 1) := by decide +kernel
theorem dX11_back_14 : decode cX11_back 14 = .ok (.baload, 1) := by decide +kernel
theorem dX11_back_15 : decode cX11_back 15 = .ok (.ifCond .ne 6, 3) := by decide +kernel
theorem dX11_back_18 : decode cX11_back 18 = .ok (.bipush (-2), 2) := by decide +kernel
theorem dX11_back_20 : decode cX11_back 20 = .ok (.ireturn, 1) := by decide +kernel
theorem dX11_back_21 : decode cX11_back 21 = .ok (.aload_n 0, 1) := by decide +kernel
theorem dX11_back_22 : decode cX11_back 22 = .ok (.getfield 22, 3) := by decide +kernel
theorem dX11_back_25 : decode cX11_back 25 = .ok (.bipush 9, 2) := by decide +kernel
theorem dX11_back_27 : decode cX11_back 27 = .ok (.iload_n 1, 1) := by decide +kernel
theorem dX11_back_28 : decode cX11_back 28 = .ok (.imul, 1) := by decide +kernel
theorem dX11_back_29 : decode cX11_back 29 = .ok (.aload_n 0, 1) := by decide +kernel
theorem dX11_back_30 : decode cX11_back 30 = .ok (.getfield 16, 3) := by decide +kernel
theorem dX11_back_33 : decode cX11_back 33 = .ok (.iconst 0, 1) := by decide +kernel
theorem dX11_back_34 : decode cX11_back 34 = .ok (.invokestatic 133, 3) := by decide +kernel
theorem dX11_back_37 : decode cX11_back 37 = .ok (.aload_n 0, 1) := by decide +kernel
theorem dX11_back_38 : decode cX11_back 38 = .ok (.iconst 0, 1) := by decide +kernel
theorem dX11_back_39 : decode cX11_back 39 = .ok (.putfield 61, 3) := by decide +kernel
theorem dX11_back_42 : decode cX11_back 42 = .ok (.aload_n 0, 1) := by decide +kernel
theorem dX11_back_43 : decode cX11_back 43 = .ok (.getfield 16, 3) := by decide +kernel
theorem dX11_back_46 : decode cX11_back 46 = .ok (.bipush 6, 2) := by decide +kernel
theorem dX11_back_48 : decode cX11_back 48 = .ok (.iaload, 1) := by decide +kernel
theorem dX11_back_49 : decode cX11_back 49 = .ok (.ireturn, 1) := by decide +kernel
theorem dX11_count_0 : decode cX11_count 0 = .ok (.iload_n 1, 1) := by decide +kernel
theorem dX11_count_1 : decode cX11_count 1 = .ok (.tableswitch 56 0 5 #[39, 39, 39, 39, 46, 51], 39) := by decide +kernel
theorem dX11_count_40 : decode cX11_count 40 = .ok (.aload_n 0, 1) := by decide +kernel
theorem dX11_count_41 : decode cX11_count 41 = .ok (.getfield 7, 3) := by decide +kernel
theorem dX11_count_44 : decode cX11_count 44 = .ok (.iload_n 1, 1) := by decide +kernel
theorem dX11_count_45 : decode cX11_count 45 = .ok (.iaload, 1) := by decide +kernel
theorem dX11_count_46 : decode cX11_count 46 = .ok (.ireturn, 1) := by decide +kernel
theorem dX11_count_47 : decode cX11_count 47 = .ok (.aload_n 0, 1) := by decide +kernel
theorem dX11_count_48 : decode cX11_count 48 = .ok (.getfield 65, 3) := by decide +kernel
theorem dX11_count_51 : decode cX11_count 51 = .ok (.ireturn, 1) := by decide +kernel
theorem dX11_count_52 : decode cX11_count 52 = .ok (.aload_n 0, 1) := by decide +kernel
theorem dX11_count_53 : decode cX11_count 53 = .ok (.getfield 70, 3) := by decide +kernel
theorem dX11_count_56 : decode cX11_count 56 = .ok (.ireturn, 1) := by decide +kernel
theorem dX11_count_57 : decode cX11_count 57 = .ok (.iconst (-1), 1) := by decide +kernel
theorem dX11_count_58 : decode cX11_count 58 = .ok (.ireturn, 1) := by decide +kernel
theorem dX11_trace_0 : decode cX11_trace 0 = .ok (.aload_n 0, 1) := by decide +kernel
theorem dX11_trace_1 : decode cX11_trace 1 = .ok (.getfield 206, 3) := by decide +kernel
theorem dX11_trace_4 : decode cX11_trace 4 = .ok (.lreturn, 1) := by decide +kernel
theorem dJ6_bitCount_0f7a4_0 : decode cJ6_bitCount_0f7a4 0 = .ok (.iload_n 0, 1) := by decide +kernel
theorem dJ6_bitCount_0f7a4_1 : decode cJ6_bitCount_0f7a4 1 = .ok (.iload_n 0, 1) := by decide +kernel
theorem dJ6_bitCount_0f7a4_2 : decode cJ6_bitCount_0f7a4 2 = .ok (.iconst 1, 1) := by decide +kernel
theorem dJ6_bitCount_0f7a4_3 : decode cJ6_bitCount_0f7a4 3 = .ok (.iushr, 1) := by decide +kernel
theorem dJ6_bitCount_0f7a4_4 : decode cJ6_bitCount_0f7a4 4 = .ok (.ldc_w 265, 3) := by decide +kernel
theorem dJ6_bitCount_0f7a4_7 : decode cJ6_bitCount_0f7a4 7 = .ok (.iand, 1) := by decide +kernel
theorem dJ6_bitCount_0f7a4_8 : decode cJ6_bitCount_0f7a4 8 = .ok (.isub, 1) := by decide +kernel
theorem dJ6_bitCount_0f7a4_9 : decode cJ6_bitCount_0f7a4 9 = .ok (.istore_n 0, 1) := by decide +kernel
theorem dJ6_bitCount_0f7a4_10 : decode cJ6_bitCount_0f7a4 10 = .ok (.iload_n 0, 1) := by decide +kernel
theorem dJ6_bitCount_0f7a4_11 : decode cJ6_bitCount_0f7a4 11 = .ok (.ldc_w 266, 3) := by decide +kernel
theorem dJ6_bitCount_0f7a4_14 : decode cJ6_bitCount_0f7a4 14 = .ok (.iand, 1) := by decide +kernel
theorem dJ6_bitCount_0f7a4_15 : decode cJ6_bitCount_0f7a4 15 = .ok (.iload_n 0, 1) := by decide +kernel
theorem dJ6_bitCount_0f7a4_16 : decode cJ6_bitCount_0f7a4 16 = .ok (.iconst 2, 1) := by decide +kernel
theorem dJ6_bitCount_0f7a4_17 : decode cJ6_bitCount_0f7a4 17 = .ok (.iushr, 1) := by decide +kernel
theorem dJ6_bitCount_0f7a4_18 : decode cJ6_bitCount_0f7a4 18 = .ok (.ldc_w 266, 3) := by decide +kernel
theorem dJ6_bitCount_0f7a4_21 : decode cJ6_bitCount_0f7a4 21 = .ok (.iand, 1) := by decide +kernel
theorem dJ6_bitCount_0f7a4_22 : decode cJ6_bitCount_0f7a4 22 = .ok (.iadd, 1) := by decide +kernel
theorem dJ6_bitCount_0f7a4_23 : decode cJ6_bitCount_0f7a4 23 = .ok (.istore_n 0, 1) := by decide +kernel
theorem dJ6_bitCount_0f7a4_24 : decode cJ6_bitCount_0f7a4 24 = .ok (.iload_n 0, 1) := by decide +kernel
theorem dJ6_bitCount_0f7a4_25 : decode cJ6_bitCount_0f7a4 25 = .ok (.iload_n 0, 1) := by decide +kernel
theorem dJ6_bitCount_0f7a4_26 : decode cJ6_bitCount_0f7a4 26 = .ok (.iconst 4, 1) := by decide +kernel
theorem dJ6_bitCount_0f7a4_27 : decode cJ6_bitCount_0f7a4 27 = .ok (.iushr, 1) := by decide +kernel
theorem dJ6_bitCount_0f7a4_28 : decode cJ6_bitCount_0f7a4 28 = .ok (.iadd, 1) := by decide +kernel
theorem dJ6_bitCount_0f7a4_29 : decode cJ6_bitCount_0f7a4 29 = .ok (.ldc_w 267, 3) := by decide +kernel
theorem dJ6_bitCount_0f7a4_32 : decode cJ6_bitCount_0f7a4 32 = .ok (.iand, 1) := by decide +kernel
theorem dJ6_bitCount_0f7a4_33 : decode cJ6_bitCount_0f7a4 33 = .ok (.istore_n 0, 1) := by decide +kernel
theorem dJ6_bitCount_0f7a4_34 : decode cJ6_bitCount_0f7a4 34 = .ok (.iload_n 0, 1) := by decide +kernel
theorem dJ6_bitCount_0f7a4_35 : decode cJ6_bitCount_0f7a4 35 = .ok (.iload_n 0, 1) := by decide +kernel
theorem dJ6_bitCount_0f7a4_36 : decode cJ6_bitCount_0f7a4 36 = .ok (.bipush 8, 2) := by decide +kernel
theorem dJ6_bitCount_0f7a4_38 : decode cJ6_bitCount_0f7a4 38 = .ok (.iushr, 1) := by decide +kernel
theorem dJ6_bitCount_0f7a4_39 : decode cJ6_bitCount_0f7a4 39 = .ok (.iadd, 1) := by decide +kernel
theorem dJ6_bitCount_0f7a4_40 : decode cJ6_bitCount_0f7a4 40 = .ok (.istore_n 0, 1) := by decide +kernel
theorem dJ6_bitCount_0f7a4_41 : decode cJ6_bitCount_0f7a4 41 = .ok (.iload_n 0, 1) := by decide +kernel
theorem dJ6_bitCount_0f7a4_42 : decode cJ6_bitCount_0f7a4 42 = .ok (.iload_n 0, 1) := by decide +kernel
theorem dJ6_bitCount_0f7a4_43 : decode cJ6_bitCount_0f7a4 43 = .ok (.bipush 16, 2) := by decide +kernel
theorem dJ6_bitCount_0f7a4_45 : decode cJ6_bitCount_0f7a4 45 = .ok (.iushr, 1) := by decide +kernel
theorem dJ6_bitCount_0f7a4_46 : decode cJ6_bitCount_0f7a4 46 = .ok (.iadd, 1) := by decide +kernel
theorem dJ6_bitCount_0f7a4_47 : decode cJ6_bitCount_0f7a4 47 = .ok (.istore_n 0, 1) := by decide +kernel
theorem dJ6_bitCount_0f7a4_48 : decode cJ6_bitCount_0f7a4 48 = .ok (.iload_n 0, 1) := by decide +kernel
theorem dJ6_bitCount_0f7a4_49 : decode cJ6_bitCount_0f7a4 49 = .ok (.bipush 63, 2) := by decide +kernel
theorem dJ6_bitCount_0f7a4_51 : decode cJ6_bitCount_0f7a4 51 = .ok (.iand, 1) := by decide +kernel
theorem dJ6_bitCount_0f7a4_52 : decode cJ6_bitCount_0f7a4 52 = .ok (.ireturn, 1) := by decide +kernel
theorem dJ9_max_7cf53_0 : decode cJ9_max_7cf53 0 = .ok (.iload_n 0, 1) := by decide +kernel
theorem dJ9_max_7cf53_1 : decode cJ9_max_7cf53 1 = .ok (.iload_n 1, 1) := by decide +kernel
theorem dJ9_max_7cf53_2 : decode cJ9_max_7cf53 2 = .ok (.if_icmp .lt 7, 3) := by decide +kernel
theorem dJ9_max_7cf53_5 : decode cJ9_max_7cf53 5 = .ok (.iload_n 0, 1) := by decide +kernel
theorem dJ9_max_7cf53_6 : decode cJ9_max_7cf53 6 = .ok (.goto 4, 3) := by decide +kernel
theorem dJ9_max_7cf53_9 : decode cJ9_max_7cf53 9 = .ok (.iload_n 1, 1) := by decide +kernel
theorem dJ9_max_7cf53_10 : decode cJ9_max_7cf53 10 = .ok (.ireturn, 1) := by decide +kernel
theorem dJ9_min_7cf53_0 : decode cJ9_min_7cf53 0 = .ok (.iload_n 0, 1) := by decide +kernel
theorem dJ9_min_7cf53_1 : decode cJ9_min_7cf53 1 = .ok (.iload_n 1, 1) := by decide +kernel
theorem dJ9_min_7cf53_2 : decode cJ9_min_7cf53 2 = .ok (.if_icmp .gt 7, 3) := by decide +kernel
theorem dJ9_min_7cf53_5 : decode cJ9_min_7cf53 5 = .ok (.iload_n 0, 1) := by decide +kernel
theorem dJ9_min_7cf53_6 : decode cJ9_min_7cf53 6 = .ok (.goto 4, 3) := by decide +kernel
theorem dJ9_min_7cf53_9 : decode cJ9_min_7cf53 9 = .ok (.iload_n 1, 1) := by decide +kernel
theorem dJ9_min_7cf53_10 : decode cJ9_min_7cf53 10 = .ok (.ireturn, 1) := by decide +kernel
theorem dL_law_0 : decode cL_law 0 = .ok (.new 7, 3) := by decide +kernel
theorem dL_law_3 : decode cL_law 3 = .ok (.dup, 1) := by decide +kernel
theorem dL_law_4 : decode cL_law 4 = .ok (.invokespecial 9, 3) := by decide +kernel
theorem dL_law_7 : decode cL_law 7 = .ok (.astore_n 1, 1) := by decide +kernel
theorem dL_law_8 : decode cL_law 8 = .ok (.new 10, 3) := by decide +kernel
theorem dL_law_11 : decode cL_law 11 = .ok (.dup, 1) := by decide +kernel
theorem dL_law_12 : decode cL_law 12 = .ok (.invokespecial 12, 3) := by decide +kernel
theorem dL_law_15 : decode cL_law 15 = .ok (.astore_n 2, 1) := by decide +kernel
theorem dL_law_16 : decode cL_law 16 = .ok (.iconst 0, 1) := by decide +kernel
theorem dL_law_17 : decode cL_law 17 = .ok (.istore_n 3, 1) := by decide +kernel
theorem dL_law_18 : decode cL_law 18 = .ok (.iload_n 3, 1) := by decide +kernel
theorem dL_law_19 : decode cL_law 19 = .ok (.aload_n 0, 1) := by decide +kernel
theorem dL_law_20 : decode cL_law 20 = .ok (.arraylength, 1) := by decide +kernel
theorem dL_law_21 : decode cL_law 21 = .ok (.iconst 4, 1) := by decide +kernel
theorem dL_law_22 : decode cL_law 22 = .ok (.isub, 1) := by decide +kernel
theorem dL_law_23 : decode cL_law 23 = .ok (.if_icmp .gt 912, 3) := by decide +kernel
theorem dL_law_26 : decode cL_law 26 = .ok (.aload_n 0, 1) := by decide +kernel
theorem dL_law_27 : decode cL_law 27 = .ok (.iload_n 3, 1) := by decide +kernel
theorem dL_law_28 : decode cL_law 28 = .ok (.iaload, 1) := by decide +kernel
theorem dL_law_29 : decode cL_law 29 = .ok (.bipush 31, 2) := by decide +kernel
theorem dL_law_31 : decode cL_law 31 = .ok (.iand, 1) := by decide +kernel
theorem dL_law_32 : decode cL_law 32 = .ok (.tableswitch 897 0 29 #[136, 159, 172, 185, 218, 251, 274, 307, 330, 343, 366, 389, 422, 455, 488, 511, 534, 567, 590, 623, 646, 689, 702, 725, 738, 781, 814, 837, 860, 883], 136) := by decide +kernel
theorem dL_law_168 : decode cL_law 168 = .ok (.aload_n 1, 1) := by decide +kernel
theorem dL_law_169 : decode cL_law 169 = .ok (.aload_n 0, 1) := by decide +kernel
theorem dL_law_170 : decode cL_law 170 = .ok (.iload_n 3, 1) := by decide +kernel
theorem dL_law_171 : decode cL_law 171 = .ok (.iconst 1, 1) := by decide +kernel
theorem dL_law_172 : decode cL_law 172 = .ok (.iadd, 1) := by decide +kernel
theorem dL_law_173 : decode cL_law 173 = .ok (.iaload, 1) := by decide +kernel
theorem dL_law_174 : decode cL_law 174 = .ok (.invokevirtual 13, 3) := by decide +kernel
theorem dL_law_177 : decode cL_law 177 = .ok (.aload_n 2, 1) := by decide +kernel
theorem dL_law_178 : decode cL_law 178 = .ok (.aload_n 0, 1) := by decide +kernel
theorem dL_law_179 : decode cL_law 179 = .ok (.iload_n 3, 1) := by decide +kernel
theorem dL_law_180 : decode cL_law 180 = .ok (.iconst 1, 1) := by decide +kernel
theorem dL_law_181 : decode cL_law 181 = .ok (.iadd, 1) := by decide +kernel
theorem dL_law_182 : decode cL_law 182 = .ok (.iaload, 1) := by decide +kernel
theorem dL_law_183 : decode cL_law 183 = .ok (.invokevirtual 17, 3) := by decide +kernel
theorem dL_law_186 : decode cL_law 186 = .ok (.if_icmp .eq 743, 3) := by decide +kernel
theorem dL_law_189 : decode cL_law 189 = .ok (.iconst 0, 1) := by decide +kernel
theorem dL_law_190 : decode cL_law 190 = .ok (.ireturn, 1) := by decide +kernel
theorem dL_law_191 : decode cL_law 191 = .ok (.aload_n 1, 1) := by decide +kernel
theorem dL_law_192 : decode cL_law 192 = .ok (.invokevirtual 18, 3) := by decide +kernel
theorem dL_law_195 : decode cL_law 195 = .ok (.aload_n 2, 1) := by decide +kernel
theorem dL_law_196 : decode cL_law 196 = .ok (.invokevirtual 22, 3) := by decide +kernel
theorem dL_law_199 : decode cL_law 199 = .ok (.if_icmp .eq 730, 3) := by decide +kernel
theorem dL_law_202 : decode cL_law 202 = .ok (.iconst 0, 1) := by decide +kernel
theorem dL_law_203 : decode cL_law 203 = .ok (.ireturn, 1) := by decide +kernel
theorem dL_law_204 : decode cL_law 204 = .ok (.aload_n 1, 1) := by decide +kernel
theorem dL_law_205 : decode cL_law 205 = .ok (.invokevirtual 23, 3) := by decide +kernel
theorem dL_law_208 : decode cL_law 208 = .ok (.aload_n 2, 1) := by decide +kernel
theorem dL_law_209 : decode cL_law 209 = .ok (.invokevirtual 26, 3) := by decide +kernel
theorem dL_law_212 : decode cL_law 212 = .ok (.if_icmp .eq 717, 3) := by decide +kernel
theorem dL_law_215 : decode cL_law 215 = .ok (.iconst 0, 1) := by decide +kernel
theorem dL_law_216 : decode cL_law 216 = .ok (.ireturn, 1) := by decide +kernel
theorem dL_law_217 : decode cL_law 217 = .ok (.aload_n 1, 1) := by decide +kernel
theorem dL_law_218 : decode cL_law 218 = .ok (.aload_n 0, 1) := by decide +kernel
theorem dL_law_219 : decode cL_law 219 = .ok (.iload_n 3, 1) := by decide +kernel
theorem dL_law_220 : decode cL_law 220 = .ok (.iconst 1, 1) := by decide +kernel
theorem dL_law_221 : decode cL_law 221 = .ok (.iadd, 1) := by decide +kernel
theorem dL_law_222 : decode cL_law 222 = .ok (.iaload, 1) := by decide +kernel
theorem dL_law_223 : decode cL_law 223 = .ok (.aload_n 0, 1) := by decide +kernel
theorem dL_law_224 : decode cL_law 224 = .ok (.iload_n 3, 1) := by decide +kernel
theorem dL_law_225 : decode cL_law 225 = .ok (.iconst 2, 1) := by decide +kernel
theorem dL_law_226 : decode cL_law 226 = .ok (.iadd, 1) := by decide +kernel
theorem dL_law_227 : decode cL_law 227 = .ok (.iaload, 1) := by decide +kernel
theorem dL_law_228 : decode cL_law 228 = .ok (.invokevirtual 27, 3) := by decide +kernel
theorem dL_law_231 : decode cL_law 231 = .ok (.aload_n 2, 1) := by decide +kernel
theorem dL_law_232 : decode cL_law 232 = .ok (.aload_n 0, 1) := by decide +kernel
theorem dL_law_233 : decode cL_law 233 = .ok (.iload_n 3, 1) := by decide +kernel
theorem dL_law_234 : decode cL_law 234 = .ok (.iconst 1, 1) := by decide +kernel
theorem dL_law_235 : decode cL_law 235 = .ok (.iadd, 1) := by decide +kernel
theorem dL_law_236 : decode cL_law 236 = .ok (.iaload, 1) := by decide +kernel
theorem dL_law_237 : decode cL_law 237 = .ok (.aload_n 0, 1) := by decide +kernel
theorem dL_law_238 : decode cL_law 238 = .ok (.iload_n 3, 1) := by decide +kernel
theorem dL_law_239 : decode cL_law 239 = .ok (.iconst 2, 1) := by decide +kernel
theorem dL_law_240 : decode cL_law 240 = .ok (.iadd, 1) := by decide +kernel
theorem dL_law_241 : decode cL_law 241 = .ok (.iaload, 1) := by decide +kernel
theorem dL_law_242 : decode cL_law 242 = .ok (.invokevirtual 31, 3) := by decide +kernel
theorem dL_law_245 : decode cL_law 245 = .ok (.if_icmp .eq 684, 3) := by decide +kernel
theorem dL_law_248 : decode cL_law 248 = .ok (.iconst 0, 1) := by decide +kernel
theorem dL_law_249 : decode cL_law 249 = .ok (.ireturn, 1) := by decide +kernel
theorem dL_law_250 : decode cL_law 250 = .ok (.aload_n 1, 1) := by decide +kernel
theorem dL_law_251 : decode cL_law 251 = .ok (.aload_n 0, 1) := by decide +kernel
theorem dL_law_252 : decode cL_law 252 = .ok (.iload_n 3, 1) := by decide +kernel
theorem dL_law_253 : decode cL_law 253 = .ok (.iconst 1, 1) := by decide +kernel
theorem dL_law_254 : decode cL_law 254 = .ok (.iadd, 1) := by decide +kernel
theorem dL_law_255 : decode cL_law 255 = .ok (.iaload, 1) := by decide +kernel
theorem dL_law_256 : decode cL_law 256 = .ok (.aload_n 0, 1) := by decide +kernel
theorem dL_law_257 : decode cL_law 257 = .ok (.iload_n 3, 1) := by decide +kernel
theorem dL_law_258 : decode cL_law 258 = .ok (.iconst 2, 1) := by decide +kernel
theorem dL_law_259 : decode cL_law 259 = .ok (.iadd, 1) := by decide +kernel
theorem dL_law_260 : decode cL_law 260 = .ok (.iaload, 1) := by decide +kernel
theorem dL_law_261 : decode cL_law 261 = .ok (.invokevirtual 32, 3) := by decide +kernel
theorem dL_law_264 : decode cL_law 264 = .ok (.aload_n 2, 1) := by decide +kernel
theorem dL_law_265 : decode cL_law 265 = .ok (.aload_n 0, 1) := by decide +kernel
theorem dL_law_266 : decode cL_law 266 = .ok (.iload_n 3, 1) := by decide +kernel
theorem dL_law_267 : decode cL_law 267 = .ok (.iconst 1, 1) := by decide +kernel
theorem dL_law_268 : decode cL_law 268 = .ok (.iadd, 1) := by decide +kernel
theorem dL_law_269 : decode cL_law 269 = .ok (.iaload, 1) := by decide +kernel
theorem dL_law_270 : decode cL_law 270 = .ok (.aload_n 0, 1) := by decide +kernel
theorem dL_law_271 : decode cL_law 271 = .ok (.iload_n 3, 1) := by decide +kernel
theorem dL_law_272 : decode cL_law 272 = .ok (.iconst 2, 1) := by decide +kernel
theorem dL_law_273 : decode cL_law 273 = .ok (.iadd, 1) := by decide +kernel
theorem dL_law_274 : decode cL_law 274 = .ok (.iaload, 1) := by decide +kernel
theorem dL_law_275 : decode cL_law 275 = .ok (.invokevirtual 35, 3) := by decide +kernel
theorem dL_law_278 : decode cL_law 278 = .ok (.if_icmp .eq 651, 3) := by decide +kernel
theorem dL_law_281 : decode cL_law 281 = .ok (.iconst 0, 1) := by decide +kernel
theorem dL_law_282 : decode cL_law 282 = .ok (.ireturn, 1) := by decide +kernel
theorem dL_law_283 : decode cL_law 283 = .ok (.aload_n 1, 1) := by decide +kernel
theorem dL_law_284 : decode cL_law 284 = .ok (.aload_n 0, 1) := by decide +kernel
theorem dL_law_285 : decode cL_law 285 = .ok (.iload_n 3, 1) := by decide +kernel
theorem dL_law_286 : decode cL_law 286 = .ok (.iconst 1, 1) := by decide +kernel
theorem dL_law_287 : decode cL_law 287 = .ok (.iadd, 1) := by decide +kernel
theorem dL_law_288 : decode cL_law 288 = .ok (.iaload, 1) := by decide +kernel
theorem dL_law_289 : decode cL_law 289 = .ok (.invokevirtual 36, 3) := by decide +kernel
theorem dL_law_292 : decode cL_law 292 = .ok (.aload_n 2, 1) := by decide +kernel
theorem dL_law_293 : decode cL_law 293 = .ok (.aload_n 0, 1) := by decide +kernel
theorem dL_law_294 : decode cL_law 294 = .ok (.iload_n 3, 1) := by decide +kernel
theorem dL_law_295 : decode cL_law 295 = .ok (.iconst 1, 1) := by decide +kernel
theorem dL_law_296 : decode cL_law 296 = .ok (.iadd, 1) := by decide +kernel
theorem dL_law_297 : decode cL_law 297 = .ok (.iaload, 1) := by decide +kernel
theorem dL_law_298 : decode cL_law 298 = .ok (.invokevirtual 39, 3) := by decide +kernel
theorem dL_law_301 : decode cL_law 301 = .ok (.if_icmp .eq 628, 3) := by decide +kernel
theorem dL_law_304 : decode cL_law 304 = .ok (.iconst 0, 1) := by decide +kernel
theorem dL_law_305 : decode cL_law 305 = .ok (.ireturn, 1) := by decide +kernel
theorem dL_law_306 : decode cL_law 306 = .ok (.aload_n 1, 1) := by decide +kernel
theorem dL_law_307 : decode cL_law 307 = .ok (.aload_n 0, 1) := by decide +kernel
theorem dL_law_308 : decode cL_law 308 = .ok (.iload_n 3, 1) := by decide +kernel
theorem dL_law_309 : decode cL_law 309 = .ok (.iconst 1, 1) := by decide +kernel
theorem dL_law_310 : decode cL_law 310 = .ok (.iadd, 1) := by decide +kernel
theorem dL_law_311 : decode cL_law 311 = .ok (.iaload, 1) := by decide +kernel
theorem dL_law_312 : decode cL_law 312 = .ok (.aload_n 0, 1) := by decide +kernel
theorem dL_law_313 : decode cL_law 313 = .ok (.iload_n 3, 1) := by decide +kernel
theorem dL_law_314 : decode cL_law 314 = .ok (.iconst 2, 1) := by decide +kernel
theorem dL_law_315 : decode cL_law 315 = .ok (.iadd, 1) := by decide +kernel
theorem dL_law_316 : decode cL_law 316 = .ok (.iaload, 1) := by decide +kernel
theorem dL_law_317 : decode cL_law 317 = .ok (.invokevirtual 40, 3) := by decide +kernel
theorem dL_law_320 : decode cL_law 320 = .ok (.aload_n 2, 1) := by decide +kernel
theorem dL_law_321 : decode cL_law 321 = .ok (.aload_n 0, 1) := by decide +kernel
theorem dL_law_322 : decode cL_law 322 = .ok (.iload_n 3, 1) := by decide +kernel
theorem dL_law_323 : decode cL_law 323 = .ok (.iconst 1, 1) := by decide +kernel
theorem dL_law_324 : decode cL_law 324 = .ok (.iadd, 1) := by decide +kernel
theorem dL_law_325 : decode cL_law 325 = .ok (.iaload, 1) := by decide +kernel
theorem dL_law_326 : decode cL_law 326 = .ok (.aload_n 0, 1) := by decide +kernel
theorem dL_law_327 : decode cL_law 327 = .ok (.iload_n 3, 1) := by decide +kernel
theorem dL_law_328 : decode cL_law 328 = .ok (.iconst 2, 1) := by decide +kernel
theorem dL_law_329 : decode cL_law 329 = .ok (.iadd, 1) := by decide +kernel
theorem dL_law_330 : decode cL_law 330 = .ok (.iaload, 1) := by decide +kernel
theorem dL_law_331 : decode cL_law 331 = .ok (.invokevirtual 43, 3) := by decide +kernel
theorem dL_law_334 : decode cL_law 334 = .ok (.if_icmp .eq 595, 3) := by decide +kernel
theorem dL_law_337 : decode cL_law 337 = .ok (.iconst 0, 1) := by decide +kernel
theorem dL_law_338 : decode cL_law 338 = .ok (.ireturn, 1) := by decide +kernel
theorem dL_law_339 : decode cL_law 339 = .ok (.aload_n 1, 1) := by decide +kernel
theorem dL_law_340 : decode cL_law 340 = .ok (.aload_n 0, 1) := by decide +kernel
theorem dL_law_341 : decode cL_law 341 = .ok (.iload_n 3, 1) := by decide +kernel
theorem dL_law_342 : decode cL_law 342 = .ok (.iconst 1, 1) := by decide +kernel
theorem dL_law_343 : decode cL_law 343 = .ok (.iadd, 1) := by decide +kernel
theorem dL_law_344 : decode cL_law 344 = .ok (.iaload, 1) := by decide +kernel
theorem dL_law_345 : decode cL_law 345 = .ok (.invokevirtual 44, 3) := by decide +kernel
theorem dL_law_348 : decode cL_law 348 = .ok (.aload_n 2, 1) := by decide +kernel
theorem dL_law_349 : decode cL_law 349 = .ok (.aload_n 0, 1) := by decide +kernel
theorem dL_law_350 : decode cL_law 350 = .ok (.iload_n 3, 1) := by decide +kernel
theorem dL_law_351 : decode cL_law 351 = .ok (.iconst 1, 1) := by decide +kernel
theorem dL_law_352 : decode cL_law 352 = .ok (.iadd, 1) := by decide +kernel
theorem dL_law_353 : decode cL_law 353 = .ok (.iaload, 1) := by decide +kernel
theorem dL_law_354 : decode cL_law 354 = .ok (.invokevirtual 47, 3) := by decide +kernel
theorem dL_law_357 : decode cL_law 357 = .ok (.if_icmp .eq 572, 3) := by decide +kernel
theorem dL_law_360 : decode cL_law 360 = .ok (.iconst 0, 1) := by decide +kernel
theorem dL_law_361 : decode cL_law 361 = .ok (.ireturn, 1) := by decide +kernel
theorem dL_law_362 : decode cL_law 362 = .ok (.aload_n 1, 1) := by decide +kernel
theorem dL_law_363 : decode cL_law 363 = .ok (.invokevirtual 48, 3) := by decide +kernel
theorem dL_law_366 : decode cL_law 366 = .ok (.aload_n 2, 1) := by decide +kernel
theorem dL_law_367 : decode cL_law 367 = .ok (.invokevirtual 51, 3) := by decide +kernel
theorem dL_law_370 : decode cL_law 370 = .ok (.if_icmp .eq 559, 3) := by decide +kernel
theorem dL_law_373 : decode cL_law 373 = .ok (.iconst 0, 1) := by decide +kernel
theorem dL_law_374 : decode cL_law 374 = .ok (.ireturn, 1) := by decide +kernel
theorem dL_law_375 : decode cL_law 375 = .ok (.aload_n 1, 1) := by decide +kernel
theorem dL_law_376 : decode cL_law 376 = .ok (.aload_n 0, 1) := by decide +kernel
theorem dL_law_377 : decode cL_law 377 = .ok (.iload_n 3, 1) := by decide +kernel
theorem dL_law_378 : decode cL_law 378 = .ok (.iconst 1, 1) := by decide +kernel
theorem dL_law_379 : decode cL_law 379 = .ok (.iadd, 1) := by decide +kernel
theorem dL_law_380 : decode cL_law 380 = .ok (.iaload, 1) := by decide +kernel
theorem dL_law_381 : decode cL_law 381 = .ok (.invokevirtual 52, 3) := by decide +kernel
theorem dL_law_384 : decode cL_law 384 = .ok (.aload_n 2, 1) := by decide +kernel
theorem dL_law_385 : decode cL_law 385 = .ok (.aload_n 0, 1) := by decide +kernel
theorem dL_law_386 : decode cL_law 386 = .ok (.iload_n 3, 1) := by decide +kernel
theorem dL_law_387 : decode cL_law 387 = .ok (.iconst 1, 1) := by decide +kernel
theorem dL_law_388 : decode cL_law 388 = .ok (.iadd, 1) := by decide +kernel
theorem dL_law_389 : decode cL_law 389 = .ok (.iaload, 1) := by decide +kernel
theorem dL_law_390 : decode cL_law 390 = .ok (.invokevirtual 55, 3) := by decide +kernel
theorem dL_law_393 : decode cL_law 393 = .ok (.if_icmp .eq 536, 3) := by decide +kernel
theorem dL_law_396 : decode cL_law 396 = .ok (.iconst 0, 1) := by decide +kernel
theorem dL_law_397 : decode cL_law 397 = .ok (.ireturn, 1) := by decide +kernel
theorem dL_law_398 : decode cL_law 398 = .ok (.aload_n 1, 1) := by decide +kernel
theorem dL_law_399 : decode cL_law 399 = .ok (.aload_n 0, 1) := by decide +kernel
theorem dL_law_400 : decode cL_law 400 = .ok (.iload_n 3, 1) := by decide +kernel
theorem dL_law_401 : decode cL_law 401 = .ok (.iconst 1, 1) := by decide +kernel
theorem dL_law_402 : decode cL_law 402 = .ok (.iadd, 1) := by decide +kernel
theorem dL_law_403 : decode cL_law 403 = .ok (.iaload, 1) := by decide +kernel
theorem dL_law_404 : decode cL_law 404 = .ok (.invokevirtual 56, 3) := by decide +kernel
theorem dL_law_407 : decode cL_law 407 = .ok (.aload_n 2, 1) := by decide +kernel
theorem dL_law_408 : decode cL_law 408 = .ok (.aload_n 0, 1) := by decide +kernel
theorem dL_law_409 : decode cL_law 409 = .ok (.iload_n 3, 1) := by decide +kernel
theorem dL_law_410 : decode cL_law 410 = .ok (.iconst 1, 1) := by decide +kernel
theorem dL_law_411 : decode cL_law 411 = .ok (.iadd, 1) := by decide +kernel
theorem dL_law_412 : decode cL_law 412 = .ok (.iaload, 1) := by decide +kernel
theorem dL_law_413 : decode cL_law 413 = .ok (.invokevirtual 59, 3) := by decide +kernel
theorem dL_law_416 : decode cL_law 416 = .ok (.if_icmp .eq 513, 3) := by decide +kernel
theorem dL_law_419 : decode cL_law 419 = .ok (.iconst 0, 1) := by decide +kernel
theorem dL_law_420 : decode cL_law 420 = .ok (.ireturn, 1) := by decide +kernel
theorem dL_law_421 : decode cL_law 421 = .ok (.aload_n 1, 1) := by decide +kernel
theorem dL_law_422 : decode cL_law 422 = .ok (.aload_n 0, 1) := by decide +kernel
theorem dL_law_423 : decode cL_law 423 = .ok (.iload_n 3, 1) := by decide +kernel
theorem dL_law_424 : decode cL_law 424 = .ok (.iconst 1, 1) := by decide +kernel
theorem dL_law_425 : decode cL_law 425 = .ok (.iadd, 1) := by decide +kernel
theorem dL_law_426 : decode cL_law 426 = .ok (.iaload, 1) := by decide +kernel
theorem dL_law_427 : decode cL_law 427 = .ok (.aload_n 0, 1) := by decide +kernel
theorem dL_law_428 : decode cL_law 428 = .ok (.iload_n 3, 1) := by decide +kernel
theorem dL_law_429 : decode cL_law 429 = .ok (.iconst 2, 1) := by decide +kernel
theorem dL_law_430 : decode cL_law 430 = .ok (.iadd, 1) := by decide +kernel
theorem dL_law_431 : decode cL_law 431 = .ok (.iaload, 1) := by decide +kernel
theorem dL_law_432 : decode cL_law 432 = .ok (.invokevirtual 60, 3) := by decide +kernel
theorem dL_law_435 : decode cL_law 435 = .ok (.aload_n 2, 1) := by decide +kernel
theorem dL_law_436 : decode cL_law 436 = .ok (.aload_n 0, 1) := by decide +kernel
theorem dL_law_437 : decode cL_law 437 = .ok (.iload_n 3, 1) := by decide +kernel
theorem dL_law_438 : decode cL_law 438 = .ok (.iconst 1, 1) := by decide +kernel
theorem dL_law_439 : decode cL_law 439 = .ok (.iadd, 1) := by decide +kernel
theorem dL_law_440 : decode cL_law 440 = .ok (.iaload, 1) := by decide +kernel
theorem dL_law_441 : decode cL_law 441 = .ok (.aload_n 0, 1) := by decide +kernel
theorem dL_law_442 : decode cL_law 442 = .ok (.iload_n 3, 1) := by decide +kernel
theorem dL_law_443 : decode cL_law 443 = .ok (.iconst 2, 1) := by decide +kernel
theorem dL_law_444 : decode cL_law 444 = .ok (.iadd, 1) := by decide +kernel
theorem dL_law_445 : decode cL_law 445 = .ok (.iaload, 1) := by decide +kernel
theorem dL_law_446 : decode cL_law 446 = .ok (.invokevirtual 63, 3) := by decide +kernel
theorem dL_law_449 : decode cL_law 449 = .ok (.if_icmp .eq 480, 3) := by decide +kernel
theorem dL_law_452 : decode cL_law 452 = .ok (.iconst 0, 1) := by decide +kernel
theorem dL_law_453 : decode cL_law 453 = .ok (.ireturn, 1) := by decide +kernel
theorem dL_law_454 : decode cL_law 454 = .ok (.aload_n 1, 1) := by decide +kernel
theorem dL_law_455 : decode cL_law 455 = .ok (.aload_n 0, 1) := by decide +kernel
theorem dL_law_456 : decode cL_law 456 = .ok (.iload_n 3, 1) := by decide +kernel
theorem dL_law_457 : decode cL_law 457 = .ok (.iconst 1, 1) := by decide +kernel
theorem dL_law_458 : decode cL_law 458 = .ok (.iadd, 1) := by decide +kernel
theorem dL_law_459 : decode cL_law 459 = .ok (.iaload, 1) := by decide +kernel
theorem dL_law_460 : decode cL_law 460 = .ok (.aload_n 0, 1) := by decide +kernel
theorem dL_law_461 : decode cL_law 461 = .ok (.iload_n 3, 1) := by decide +kernel
theorem dL_law_462 : decode cL_law 462 = .ok (.iconst 2, 1) := by decide +kernel
theorem dL_law_463 : decode cL_law 463 = .ok (.iadd, 1) := by decide +kernel
theorem dL_law_464 : decode cL_law 464 = .ok (.iaload, 1) := by decide +kernel
theorem dL_law_465 : decode cL_law 465 = .ok (.invokevirtual 64, 3) := by decide +kernel
theorem dL_law_468 : decode cL_law 468 = .ok (.aload_n 2, 1) := by decide +kernel
theorem dL_law_469 : decode cL_law 469 = .ok (.aload_n 0, 1) := by decide +kernel
theorem dL_law_470 : decode cL_law 470 = .ok (.iload_n 3, 1) := by decide +kernel
theorem dL_law_471 : decode cL_law 471 = .ok (.iconst 1, 1) := by decide +kernel
theorem dL_law_472 : decode cL_law 472 = .ok (.iadd, 1) := by decide +kernel
theorem dL_law_473 : decode cL_law 473 = .ok (.iaload, 1) := by decide +kernel
theorem dL_law_474 : decode cL_law 474 = .ok (.aload_n 0, 1) := by decide +kernel
theorem dL_law_475 : decode cL_law 475 = .ok (.iload_n 3, 1) := by decide +kernel
theorem dL_law_476 : decode cL_law 476 = .ok (.iconst 2, 1) := by decide +kernel
theorem dL_law_477 : decode cL_law 477 = .ok (.iadd, 1) := by decide +kernel
theorem dL_law_478 : decode cL_law 478 = .ok (.iaload, 1) := by decide +kernel
theorem dL_law_479 : decode cL_law 479 = .ok (.invokevirtual 67, 3) := by decide +kernel
theorem dL_law_482 : decode cL_law 482 = .ok (.if_icmp .eq 447, 3) := by decide +kernel
theorem dL_law_485 : decode cL_law 485 = .ok (.iconst 0, 1) := by decide +kernel
theorem dL_law_486 : decode cL_law 486 = .ok (.ireturn, 1) := by decide +kernel
theorem dL_law_487 : decode cL_law 487 = .ok (.aload_n 1, 1) := by decide +kernel
theorem dL_law_488 : decode cL_law 488 = .ok (.aload_n 0, 1) := by decide +kernel
theorem dL_law_489 : decode cL_law 489 = .ok (.iload_n 3, 1) := by decide +kernel
theorem dL_law_490 : decode cL_law 490 = .ok (.iconst 1, 1) := by decide +kernel
theorem dL_law_491 : decode cL_law 491 = .ok (.iadd, 1) := by decide +kernel
theorem dL_law_492 : decode cL_law 492 = .ok (.iaload, 1) := by decide +kernel
theorem dL_law_493 : decode cL_law 493 = .ok (.aload_n 0, 1) := by decide +kernel
theorem dL_law_494 : decode cL_law 494 = .ok (.iload_n 3, 1) := by decide +kernel
theorem dL_law_495 : decode cL_law 495 = .ok (.iconst 2, 1) := by decide +kernel
theorem dL_law_496 : decode cL_law 496 = .ok (.iadd, 1) := by decide +kernel
theorem dL_law_497 : decode cL_law 497 = .ok (.iaload, 1) := by decide +kernel
theorem dL_law_498 : decode cL_law 498 = .ok (.invokevirtual 68, 3) := by decide +kernel
theorem dL_law_501 : decode cL_law 501 = .ok (.aload_n 2, 1) := by decide +kernel
theorem dL_law_502 : decode cL_law 502 = .ok (.aload_n 0, 1) := by decide +kernel
theorem dL_law_503 : decode cL_law 503 = .ok (.iload_n 3, 1) := by decide +kernel
theorem dL_law_504 : decode cL_law 504 = .ok (.iconst 1, 1) := by decide +kernel
theorem dL_law_505 : decode cL_law 505 = .ok (.iadd, 1) := by decide +kernel
theorem dL_law_506 : decode cL_law 506 = .ok (.iaload, 1) := by decide +kernel
theorem dL_law_507 : decode cL_law 507 = .ok (.aload_n 0, 1) := by decide +kernel
theorem dL_law_508 : decode cL_law 508 = .ok (.iload_n 3, 1) := by decide +kernel
theorem dL_law_509 : decode cL_law 509 = .ok (.iconst 2, 1) := by decide +kernel
theorem dL_law_510 : decode cL_law 510 = .ok (.iadd, 1) := by decide +kernel
theorem dL_law_511 : decode cL_law 511 = .ok (.iaload, 1) := by decide +kernel
theorem dL_law_512 : decode cL_law 512 = .ok (.invokevirtual 71, 3) := by decide +kernel
theorem dL_law_515 : decode cL_law 515 = .ok (.if_icmp .eq 414, 3) := by decide +kernel
theorem dL_law_518 : decode cL_law 518 = .ok (.iconst 0, 1) := by decide +kernel
theorem dL_law_519 : decode cL_law 519 = .ok (.ireturn, 1) := by decide +kernel
theorem dL_law_520 : decode cL_law 520 = .ok (.aload_n 1, 1) := by decide +kernel
theorem dL_law_521 : decode cL_law 521 = .ok (.aload_n 0, 1) := by decide +kernel
theorem dL_law_522 : decode cL_law 522 = .ok (.iload_n 3, 1) := by decide +kernel
theorem dL_law_523 : decode cL_law 523 = .ok (.iconst 1, 1) := by decide +kernel
theorem dL_law_524 : decode cL_law 524 = .ok (.iadd, 1) := by decide +kernel
theorem dL_law_525 : decode cL_law 525 = .ok (.iaload, 1) := by decide +kernel
theorem dL_law_526 : decode cL_law 526 = .ok (.invokevirtual 72, 3) := by decide +kernel
theorem dL_law_529 : decode cL_law 529 = .ok (.aload_n 2, 1) := by decide +kernel
theorem dL_law_530 : decode cL_law 530 = .ok (.aload_n 0, 1) := by decide +kernel
theorem dL_law_531 : decode cL_law 531 = .ok (.iload_n 3, 1) := by decide +kernel
theorem dL_law_532 : decode cL_law 532 = .ok (.iconst 1, 1) := by decide +kernel
theorem dL_law_533 : decode cL_law 533 = .ok (.iadd, 1) := by decide +kernel
theorem dL_law_534 : decode cL_law 534 = .ok (.iaload, 1) := by decide +kernel
theorem dL_law_535 : decode cL_law 535 = .ok (.invokevirtual 75, 3) := by decide +kernel
theorem dL_law_538 : decode cL_law 538 = .ok (.if_icmp .eq 391, 3) := by decide +kernel
theorem dL_law_541 : decode cL_law 541 = .ok (.iconst 0, 1) := by decide +kernel
theorem dL_law_542 : decode cL_law 542 = .ok (.ireturn, 1) := by decide +kernel
theorem dL_law_543 : decode cL_law 543 = .ok (.aload_n 1, 1) := by decide +kernel
theorem dL_law_544 : decode cL_law 544 = .ok (.aload_n 0, 1) := by decide +kernel
theorem dL_law_545 : decode cL_law 545 = .ok (.iload_n 3, 1) := by decide +kernel
theorem dL_law_546 : decode cL_law 546 = .ok (.iconst 1, 1) := by decide +kernel
theorem dL_law_547 : decode cL_law 547 = .ok (.iadd, 1) := by decide +kernel
theorem dL_law_548 : decode cL_law 548 = .ok (.iaload, 1) := by decide +kernel
theorem dL_law_549 : decode cL_law 549 = .ok (.invokevirtual 76, 3) := by decide +kernel
theorem dL_law_552 : decode cL_law 552 = .ok (.aload_n 2, 1) := by decide +kernel
theorem dL_law_553 : decode cL_law 553 = .ok (.aload_n 0, 1) := by decide +kernel
theorem dL_law_554 : decode cL_law 554 = .ok (.iload_n 3, 1) := by decide +kernel
theorem dL_law_555 : decode cL_law 555 = .ok (.iconst 1, 1) := by decide +kernel
theorem dL_law_556 : decode cL_law 556 = .ok (.iadd, 1) := by decide +kernel
theorem dL_law_557 : decode cL_law 557 = .ok (.iaload, 1) := by decide +kernel
theorem dL_law_558 : decode cL_law 558 = .ok (.invokevirtual 79, 3) := by decide +kernel
theorem dL_law_561 : decode cL_law 561 = .ok (.if_icmp .eq 368, 3) := by decide +kernel
theorem dL_law_564 : decode cL_law 564 = .ok (.iconst 0, 1) := by decide +kernel
theorem dL_law_565 : decode cL_law 565 = .ok (.ireturn, 1) := by decide +kernel
theorem dL_law_566 : decode cL_law 566 = .ok (.aload_n 1, 1) := by decide +kernel
theorem dL_law_567 : decode cL_law 567 = .ok (.aload_n 0, 1) := by decide +kernel
theorem dL_law_568 : decode cL_law 568 = .ok (.iload_n 3, 1) := by decide +kernel
theorem dL_law_569 : decode cL_law 569 = .ok (.iconst 1, 1) := by decide +kernel
theorem dL_law_570 : decode cL_law 570 = .ok (.iadd, 1) := by decide +kernel
theorem dL_law_571 : decode cL_law 571 = .ok (.iaload, 1) := by decide +kernel
theorem dL_law_572 : decode cL_law 572 = .ok (.aload_n 0, 1) := by decide +kernel
theorem dL_law_573 : decode cL_law 573 = .ok (.iload_n 3, 1) := by decide +kernel
theorem dL_law_574 : decode cL_law 574 = .ok (.iconst 2, 1) := by decide +kernel
theorem dL_law_575 : decode cL_law 575 = .ok (.iadd, 1) := by decide +kernel
theorem dL_law_576 : decode cL_law 576 = .ok (.iaload, 1) := by decide +kernel
theorem dL_law_577 : decode cL_law 577 = .ok (.invokevirtual 80, 3) := by decide +kernel
theorem dL_law_580 : decode cL_law 580 = .ok (.aload_n 2, 1) := by decide +kernel
theorem dL_law_581 : decode cL_law 581 = .ok (.aload_n 0, 1) := by decide +kernel
theorem dL_law_582 : decode cL_law 582 = .ok (.iload_n 3, 1) := by decide +kernel
theorem dL_law_583 : decode cL_law 583 = .ok (.iconst 1, 1) := by decide +kernel
theorem dL_law_584 : decode cL_law 584 = .ok (.iadd, 1) := by decide +kernel
theorem dL_law_585 : decode cL_law 585 = .ok (.iaload, 1) := by decide +kernel
theorem dL_law_586 : decode cL_law 586 = .ok (.aload_n 0, 1) := by decide +kernel
theorem dL_law_587 : decode cL_law 587 = .ok (.iload_n 3, 1) := by decide +kernel
theorem dL_law_588 : decode cL_law 588 = .ok (.iconst 2, 1) := by decide +kernel
theorem dL_law_589 : decode cL_law 589 = .ok (.iadd, 1) := by decide +kernel
theorem dL_law_590 : decode cL_law 590 = .ok (.iaload, 1) := by decide +kernel
theorem dL_law_591 : decode cL_law 591 = .ok (.invokevirtual 83, 3) := by decide +kernel
theorem dL_law_594 : decode cL_law 594 = .ok (.if_icmp .eq 335, 3) := by decide +kernel
theorem dL_law_597 : decode cL_law 597 = .ok (.iconst 0, 1) := by decide +kernel
theorem dL_law_598 : decode cL_law 598 = .ok (.ireturn, 1) := by decide +kernel
theorem dL_law_599 : decode cL_law 599 = .ok (.aload_n 1, 1) := by decide +kernel
theorem dL_law_600 : decode cL_law 600 = .ok (.aload_n 0, 1) := by decide +kernel
theorem dL_law_601 : decode cL_law 601 = .ok (.iload_n 3, 1) := by decide +kernel
theorem dL_law_602 : decode cL_law 602 = .ok (.iconst 1, 1) := by decide +kernel
theorem dL_law_603 : decode cL_law 603 = .ok (.iadd, 1) := by decide +kernel
theorem dL_law_604 : decode cL_law 604 = .ok (.iaload, 1) := by decide +kernel
theorem dL_law_605 : decode cL_law 605 = .ok (.invokevirtual 84, 3) := by decide +kernel
theorem dL_law_608 : decode cL_law 608 = .ok (.aload_n 2, 1) := by decide +kernel
theorem dL_law_609 : decode cL_law 609 = .ok (.aload_n 0, 1) := by decide +kernel
theorem dL_law_610 : decode cL_law 610 = .ok (.iload_n 3, 1) := by decide +kernel
theorem dL_law_611 : decode cL_law 611 = .ok (.iconst 1, 1) := by decide +kernel
theorem dL_law_612 : decode cL_law 612 = .ok (.iadd, 1) := by decide +kernel
theorem dL_law_613 : decode cL_law 613 = .ok (.iaload, 1) := by decide +kernel
theorem dL_law_614 : decode cL_law 614 = .ok (.invokevirtual 87, 3) := by decide +kernel
theorem dL_law_617 : decode cL_law 617 = .ok (.if_icmp .eq 312, 3) := by decide +kernel
theorem dL_law_620 : decode cL_law 620 = .ok (.iconst 0, 1) := by decide +kernel
theorem dL_law_621 : decode cL_law 621 = .ok (.ireturn, 1) := by decide +kernel
theorem dL_law_622 : decode cL_law 622 = .ok (.aload_n 1, 1) := by decide +kernel
theorem dL_law_623 : decode cL_law 623 = .ok (.aload_n 0, 1) := by decide +kernel
theorem dL_law_624 : decode cL_law 624 = .ok (.iload_n 3, 1) := by decide +kernel
theorem dL_law_625 : decode cL_law 625 = .ok (.iconst 1, 1) := by decide +kernel
theorem dL_law_626 : decode cL_law 626 = .ok (.iadd, 1) := by decide +kernel
theorem dL_law_627 : decode cL_law 627 = .ok (.iaload, 1) := by decide +kernel
theorem dL_law_628 : decode cL_law 628 = .ok (.aload_n 0, 1) := by decide +kernel
theorem dL_law_629 : decode cL_law 629 = .ok (.iload_n 3, 1) := by decide +kernel
theorem dL_law_630 : decode cL_law 630 = .ok (.iconst 2, 1) := by decide +kernel
theorem dL_law_631 : decode cL_law 631 = .ok (.iadd, 1) := by decide +kernel
theorem dL_law_632 : decode cL_law 632 = .ok (.iaload, 1) := by decide +kernel
theorem dL_law_633 : decode cL_law 633 = .ok (.invokevirtual 88, 3) := by decide +kernel
theorem dL_law_636 : decode cL_law 636 = .ok (.aload_n 2, 1) := by decide +kernel
theorem dL_law_637 : decode cL_law 637 = .ok (.aload_n 0, 1) := by decide +kernel
theorem dL_law_638 : decode cL_law 638 = .ok (.iload_n 3, 1) := by decide +kernel
theorem dL_law_639 : decode cL_law 639 = .ok (.iconst 1, 1) := by decide +kernel
theorem dL_law_640 : decode cL_law 640 = .ok (.iadd, 1) := by decide +kernel
theorem dL_law_641 : decode cL_law 641 = .ok (.iaload, 1) := by decide +kernel
theorem dL_law_642 : decode cL_law 642 = .ok (.aload_n 0, 1) := by decide +kernel
theorem dL_law_643 : decode cL_law 643 = .ok (.iload_n 3, 1) := by decide +kernel
theorem dL_law_644 : decode cL_law 644 = .ok (.iconst 2, 1) := by decide +kernel
theorem dL_law_645 : decode cL_law 645 = .ok (.iadd, 1) := by decide +kernel
theorem dL_law_646 : decode cL_law 646 = .ok (.iaload, 1) := by decide +kernel
theorem dL_law_647 : decode cL_law 647 = .ok (.invokevirtual 91, 3) := by decide +kernel
theorem dL_law_650 : decode cL_law 650 = .ok (.if_icmp .eq 279, 3) := by decide +kernel
theorem dL_law_653 : decode cL_law 653 = .ok (.iconst 0, 1) := by decide +kernel
theorem dL_law_654 : decode cL_law 654 = .ok (.ireturn, 1) := by decide +kernel
theorem dL_law_655 : decode cL_law 655 = .ok (.aload_n 1, 1) := by decide +kernel
theorem dL_law_656 : decode cL_law 656 = .ok (.aload_n 0, 1) := by decide +kernel
theorem dL_law_657 : decode cL_law 657 = .ok (.iload_n 3, 1) := by decide +kernel
theorem dL_law_658 : decode cL_law 658 = .ok (.iconst 1, 1) := by decide +kernel
theorem dL_law_659 : decode cL_law 659 = .ok (.iadd, 1) := by decide +kernel
theorem dL_law_660 : decode cL_law 660 = .ok (.iaload, 1) := by decide +kernel
theorem dL_law_661 : decode cL_law 661 = .ok (.invokevirtual 92, 3) := by decide +kernel
theorem dL_law_664 : decode cL_law 664 = .ok (.aload_n 2, 1) := by decide +kernel
theorem dL_law_665 : decode cL_law 665 = .ok (.aload_n 0, 1) := by decide +kernel
theorem dL_law_666 : decode cL_law 666 = .ok (.iload_n 3, 1) := by decide +kernel
theorem dL_law_667 : decode cL_law 667 = .ok (.iconst 1, 1) := by decide +kernel
theorem dL_law_668 : decode cL_law 668 = .ok (.iadd, 1) := by decide +kernel
theorem dL_law_669 : decode cL_law 669 = .ok (.iaload, 1) := by decide +kernel
theorem dL_law_670 : decode cL_law 670 = .ok (.invokevirtual 95, 3) := by decide +kernel
theorem dL_law_673 : decode cL_law 673 = .ok (.if_icmp .eq 256, 3) := by decide +kernel
theorem dL_law_676 : decode cL_law 676 = .ok (.iconst 0, 1) := by decide +kernel
theorem dL_law_677 : decode cL_law 677 = .ok (.ireturn, 1) := by decide +kernel
theorem dL_law_678 : decode cL_law 678 = .ok (.aload_n 1, 1) := by decide +kernel
theorem dL_law_679 : decode cL_law 679 = .ok (.aload_n 0, 1) := by decide +kernel
theorem dL_law_680 : decode cL_law 680 = .ok (.iload_n 3, 1) := by decide +kernel
theorem dL_law_681 : decode cL_law 681 = .ok (.iconst 1, 1) := by decide +kernel
theorem dL_law_682 : decode cL_law 682 = .ok (.iadd, 1) := by decide +kernel
theorem dL_law_683 : decode cL_law 683 = .ok (.iaload, 1) := by decide +kernel
theorem dL_law_684 : decode cL_law 684 = .ok (.aload_n 0, 1) := by decide +kernel
theorem dL_law_685 : decode cL_law 685 = .ok (.iload_n 3, 1) := by decide +kernel
theorem dL_law_686 : decode cL_law 686 = .ok (.iconst 2, 1) := by decide +kernel
theorem dL_law_687 : decode cL_law 687 = .ok (.iadd, 1) := by decide +kernel
theorem dL_law_688 : decode cL_law 688 = .ok (.iaload, 1) := by decide +kernel
theorem dL_law_689 : decode cL_law 689 = .ok (.aload_n 0, 1) := by decide +kernel
theorem dL_law_690 : decode cL_law 690 = .ok (.iload_n 3, 1) := by decide +kernel
theorem dL_law_691 : decode cL_law 691 = .ok (.iconst 3, 1) := by decide +kernel
theorem dL_law_692 : decode cL_law 692 = .ok (.iadd, 1) := by decide +kernel
theorem dL_law_693 : decode cL_law 693 = .ok (.iaload, 1) := by decide +kernel
theorem dL_law_694 : decode cL_law 694 = .ok (.invokevirtual 96, 3) := by decide +kernel
theorem dL_law_697 : decode cL_law 697 = .ok (.aload_n 2, 1) := by decide +kernel
theorem dL_law_698 : decode cL_law 698 = .ok (.aload_n 0, 1) := by decide +kernel
theorem dL_law_699 : decode cL_law 699 = .ok (.iload_n 3, 1) := by decide +kernel
theorem dL_law_700 : decode cL_law 700 = .ok (.iconst 1, 1) := by decide +kernel
theorem dL_law_701 : decode cL_law 701 = .ok (.iadd, 1) := by decide +kernel
theorem dL_law_702 : decode cL_law 702 = .ok (.iaload, 1) := by decide +kernel
theorem dL_law_703 : decode cL_law 703 = .ok (.aload_n 0, 1) := by decide +kernel
theorem dL_law_704 : decode cL_law 704 = .ok (.iload_n 3, 1) := by decide +kernel
theorem dL_law_705 : decode cL_law 705 = .ok (.iconst 2, 1) := by decide +kernel
theorem dL_law_706 : decode cL_law 706 = .ok (.iadd, 1) := by decide +kernel
theorem dL_law_707 : decode cL_law 707 = .ok (.iaload, 1) := by decide +kernel
theorem dL_law_708 : decode cL_law 708 = .ok (.aload_n 0, 1) := by decide +kernel
theorem dL_law_709 : decode cL_law 709 = .ok (.iload_n 3, 1) := by decide +kernel
theorem dL_law_710 : decode cL_law 710 = .ok (.iconst 3, 1) := by decide +kernel
theorem dL_law_711 : decode cL_law 711 = .ok (.iadd, 1) := by decide +kernel
theorem dL_law_712 : decode cL_law 712 = .ok (.iaload, 1) := by decide +kernel
theorem dL_law_713 : decode cL_law 713 = .ok (.invokevirtual 100, 3) := by decide +kernel
theorem dL_law_716 : decode cL_law 716 = .ok (.if_icmp .eq 213, 3) := by decide +kernel
theorem dL_law_719 : decode cL_law 719 = .ok (.iconst 0, 1) := by decide +kernel
theorem dL_law_720 : decode cL_law 720 = .ok (.ireturn, 1) := by decide +kernel
theorem dL_law_721 : decode cL_law 721 = .ok (.aload_n 1, 1) := by decide +kernel
theorem dL_law_722 : decode cL_law 722 = .ok (.invokevirtual 101, 3) := by decide +kernel
theorem dL_law_725 : decode cL_law 725 = .ok (.aload_n 2, 1) := by decide +kernel
theorem dL_law_726 : decode cL_law 726 = .ok (.invokevirtual 104, 3) := by decide +kernel
theorem dL_law_729 : decode cL_law 729 = .ok (.if_icmp .eq 200, 3) := by decide +kernel
theorem dL_law_732 : decode cL_law 732 = .ok (.iconst 0, 1) := by decide +kernel
theorem dL_law_733 : decode cL_law 733 = .ok (.ireturn, 1) := by decide +kernel
theorem dL_law_734 : decode cL_law 734 = .ok (.aload_n 1, 1) := by decide +kernel
theorem dL_law_735 : decode cL_law 735 = .ok (.aload_n 0, 1) := by decide +kernel
theorem dL_law_736 : decode cL_law 736 = .ok (.iload_n 3, 1) := by decide +kernel
theorem dL_law_737 : decode cL_law 737 = .ok (.iconst 1, 1) := by decide +kernel
theorem dL_law_738 : decode cL_law 738 = .ok (.iadd, 1) := by decide +kernel
theorem dL_law_739 : decode cL_law 739 = .ok (.iaload, 1) := by decide +kernel
theorem dL_law_740 : decode cL_law 740 = .ok (.invokevirtual 105, 3) := by decide +kernel
theorem dL_law_743 : decode cL_law 743 = .ok (.aload_n 2, 1) := by decide +kernel
theorem dL_law_744 : decode cL_law 744 = .ok (.aload_n 0, 1) := by decide +kernel
theorem dL_law_745 : decode cL_law 745 = .ok (.iload_n 3, 1) := by decide +kernel
theorem dL_law_746 : decode cL_law 746 = .ok (.iconst 1, 1) := by decide +kernel
theorem dL_law_747 : decode cL_law 747 = .ok (.iadd, 1) := by decide +kernel
theorem dL_law_748 : decode cL_law 748 = .ok (.iaload, 1) := by decide +kernel
theorem dL_law_749 : decode cL_law 749 = .ok (.invokevirtual 108, 3) := by decide +kernel
theorem dL_law_752 : decode cL_law 752 = .ok (.if_icmp .eq 177, 3) := by decide +kernel
theorem dL_law_755 : decode cL_law 755 = .ok (.iconst 0, 1) := by decide +kernel
theorem dL_law_756 : decode cL_law 756 = .ok (.ireturn, 1) := by decide +kernel
theorem dL_law_757 : decode cL_law 757 = .ok (.aload_n 1, 1) := by decide +kernel
theorem dL_law_758 : decode cL_law 758 = .ok (.invokevirtual 109, 3) := by decide +kernel
theorem dL_law_761 : decode cL_law 761 = .ok (.aload_n 2, 1) := by decide +kernel
theorem dL_law_762 : decode cL_law 762 = .ok (.invokevirtual 112, 3) := by decide +kernel
theorem dL_law_765 : decode cL_law 765 = .ok (.if_icmp .eq 164, 3) := by decide +kernel
theorem dL_law_768 : decode cL_law 768 = .ok (.iconst 0, 1) := by decide +kernel
theorem dL_law_769 : decode cL_law 769 = .ok (.ireturn, 1) := by decide +kernel
theorem dL_law_770 : decode cL_law 770 = .ok (.aload_n 1, 1) := by decide +kernel
theorem dL_law_771 : decode cL_law 771 = .ok (.aload_n 0, 1) := by decide +kernel
theorem dL_law_772 : decode cL_law 772 = .ok (.iload_n 3, 1) := by decide +kernel
theorem dL_law_773 : decode cL_law 773 = .ok (.iconst 1, 1) := by decide +kernel
theorem dL_law_774 : decode cL_law 774 = .ok (.iadd, 1) := by decide +kernel
theorem dL_law_775 : decode cL_law 775 = .ok (.iaload, 1) := by decide +kernel
theorem dL_law_776 : decode cL_law 776 = .ok (.aload_n 0, 1) := by decide +kernel
theorem dL_law_777 : decode cL_law 777 = .ok (.iload_n 3, 1) := by decide +kernel
theorem dL_law_778 : decode cL_law 778 = .ok (.iconst 2, 1) := by decide +kernel
theorem dL_law_779 : decode cL_law 779 = .ok (.iadd, 1) := by decide +kernel
theorem dL_law_780 : decode cL_law 780 = .ok (.iaload, 1) := by decide +kernel
theorem dL_law_781 : decode cL_law 781 = .ok (.aload_n 0, 1) := by decide +kernel
theorem dL_law_782 : decode cL_law 782 = .ok (.iload_n 3, 1) := by decide +kernel
theorem dL_law_783 : decode cL_law 783 = .ok (.iconst 3, 1) := by decide +kernel
theorem dL_law_784 : decode cL_law 784 = .ok (.iadd, 1) := by decide +kernel
theorem dL_law_785 : decode cL_law 785 = .ok (.iaload, 1) := by decide +kernel
theorem dL_law_786 : decode cL_law 786 = .ok (.invokevirtual 113, 3) := by decide +kernel
theorem dL_law_789 : decode cL_law 789 = .ok (.aload_n 2, 1) := by decide +kernel
theorem dL_law_790 : decode cL_law 790 = .ok (.aload_n 0, 1) := by decide +kernel
theorem dL_law_791 : decode cL_law 791 = .ok (.iload_n 3, 1) := by decide +kernel
theorem dL_law_792 : decode cL_law 792 = .ok (.iconst 1, 1) := by decide +kernel
theorem dL_law_793 : decode cL_law 793 = .ok (.iadd, 1) := by decide +kernel
theorem dL_law_794 : decode cL_law 794 = .ok (.iaload, 1) := by decide +kernel
theorem dL_law_795 : decode cL_law 795 = .ok (.aload_n 0, 1) := by decide +kernel
theorem dL_law_796 : decode cL_law 796 = .ok (.iload_n 3, 1) := by decide +kernel
theorem dL_law_797 : decode cL_law 797 = .ok (.iconst 2, 1) := by decide +kernel
theorem dL_law_798 : decode cL_law 798 = .ok (.iadd, 1) := by decide +kernel
theorem dL_law_799 : decode cL_law 799 = .ok (.iaload, 1) := by decide +kernel
theorem dL_law_800 : decode cL_law 800 = .ok (.aload_n 0, 1) := by decide +kernel
theorem dL_law_801 : decode cL_law 801 = .ok (.iload_n 3, 1) := by decide +kernel
theorem dL_law_802 : decode cL_law 802 = .ok (.iconst 3, 1) := by decide +kernel
theorem dL_law_803 : decode cL_law 803 = .ok (.iadd, 1) := by decide +kernel
theorem dL_law_804 : decode cL_law 804 = .ok (.iaload, 1) := by decide +kernel
theorem dL_law_805 : decode cL_law 805 = .ok (.invokevirtual 116, 3) := by decide +kernel
theorem dL_law_808 : decode cL_law 808 = .ok (.if_icmp .eq 121, 3) := by decide +kernel
theorem dL_law_811 : decode cL_law 811 = .ok (.iconst 0, 1) := by decide +kernel
theorem dL_law_812 : decode cL_law 812 = .ok (.ireturn, 1) := by decide +kernel
theorem dL_law_813 : decode cL_law 813 = .ok (.aload_n 1, 1) := by decide +kernel
theorem dL_law_814 : decode cL_law 814 = .ok (.aload_n 0, 1) := by decide +kernel
theorem dL_law_815 : decode cL_law 815 = .ok (.iload_n 3, 1) := by decide +kernel
theorem dL_law_816 : decode cL_law 816 = .ok (.iconst 1, 1) := by decide +kernel
theorem dL_law_817 : decode cL_law 817 = .ok (.iadd, 1) := by decide +kernel
theorem dL_law_818 : decode cL_law 818 = .ok (.iaload, 1) := by decide +kernel
theorem dL_law_819 : decode cL_law 819 = .ok (.aload_n 0, 1) := by decide +kernel
theorem dL_law_820 : decode cL_law 820 = .ok (.iload_n 3, 1) := by decide +kernel
theorem dL_law_821 : decode cL_law 821 = .ok (.iconst 2, 1) := by decide +kernel
theorem dL_law_822 : decode cL_law 822 = .ok (.iadd, 1) := by decide +kernel
theorem dL_law_823 : decode cL_law 823 = .ok (.iaload, 1) := by decide +kernel
theorem dL_law_824 : decode cL_law 824 = .ok (.invokevirtual 117, 3) := by decide +kernel
theorem dL_law_827 : decode cL_law 827 = .ok (.aload_n 2, 1) := by decide +kernel
theorem dL_law_828 : decode cL_law 828 = .ok (.aload_n 0, 1) := by decide +kernel
theorem dL_law_829 : decode cL_law 829 = .ok (.iload_n 3, 1) := by decide +kernel
theorem dL_law_830 : decode cL_law 830 = .ok (.iconst 1, 1) := by decide +kernel
theorem dL_law_831 : decode cL_law 831 = .ok (.iadd, 1) := by decide +kernel
theorem dL_law_832 : decode cL_law 832 = .ok (.iaload, 1) := by decide +kernel
theorem dL_law_833 : decode cL_law 833 = .ok (.aload_n 0, 1) := by decide +kernel
theorem dL_law_834 : decode cL_law 834 = .ok (.iload_n 3, 1) := by decide +kernel
theorem dL_law_835 : decode cL_law 835 = .ok (.iconst 2, 1) := by decide +kernel
theorem dL_law_836 : decode cL_law 836 = .ok (.iadd, 1) := by decide +kernel
theorem dL_law_837 : decode cL_law 837 = .ok (.iaload, 1) := by decide +kernel
theorem dL_law_838 : decode cL_law 838 = .ok (.invokevirtual 120, 3) := by decide +kernel
theorem dL_law_841 : decode cL_law 841 = .ok (.if_icmp .eq 88, 3) := by decide +kernel
theorem dL_law_844 : decode cL_law 844 = .ok (.iconst 0, 1) := by decide +kernel
theorem dL_law_845 : decode cL_law 845 = .ok (.ireturn, 1) := by decide +kernel
theorem dL_law_846 : decode cL_law 846 = .ok (.aload_n 1, 1) := by decide +kernel
theorem dL_law_847 : decode cL_law 847 = .ok (.aload_n 0, 1) := by decide +kernel
theorem dL_law_848 : decode cL_law 848 = .ok (.iload_n 3, 1) := by decide +kernel
theorem dL_law_849 : decode cL_law 849 = .ok (.iconst 1, 1) := by decide +kernel
theorem dL_law_850 : decode cL_law 850 = .ok (.iadd, 1) := by decide +kernel
theorem dL_law_851 : decode cL_law 851 = .ok (.iaload, 1) := by decide +kernel
theorem dL_law_852 : decode cL_law 852 = .ok (.invokevirtual 121, 3) := by decide +kernel
theorem dL_law_855 : decode cL_law 855 = .ok (.aload_n 2, 1) := by decide +kernel
theorem dL_law_856 : decode cL_law 856 = .ok (.aload_n 0, 1) := by decide +kernel
theorem dL_law_857 : decode cL_law 857 = .ok (.iload_n 3, 1) := by decide +kernel
theorem dL_law_858 : decode cL_law 858 = .ok (.iconst 1, 1) := by decide +kernel
theorem dL_law_859 : decode cL_law 859 = .ok (.iadd, 1) := by decide +kernel
theorem dL_law_860 : decode cL_law 860 = .ok (.iaload, 1) := by decide +kernel
theorem dL_law_861 : decode cL_law 861 = .ok (.invokevirtual 124, 3) := by decide +kernel
theorem dL_law_864 : decode cL_law 864 = .ok (.if_icmp .eq 65, 3) := by decide +kernel
theorem dL_law_867 : decode cL_law 867 = .ok (.iconst 0, 1) := by decide +kernel
theorem dL_law_868 : decode cL_law 868 = .ok (.ireturn, 1) := by decide +kernel
theorem dL_law_869 : decode cL_law 869 = .ok (.aload_n 1, 1) := by decide +kernel
theorem dL_law_870 : decode cL_law 870 = .ok (.aload_n 0, 1) := by decide +kernel
theorem dL_law_871 : decode cL_law 871 = .ok (.iload_n 3, 1) := by decide +kernel
theorem dL_law_872 : decode cL_law 872 = .ok (.iconst 1, 1) := by decide +kernel
theorem dL_law_873 : decode cL_law 873 = .ok (.iadd, 1) := by decide +kernel
theorem dL_law_874 : decode cL_law 874 = .ok (.iaload, 1) := by decide +kernel
theorem dL_law_875 : decode cL_law 875 = .ok (.invokevirtual 125, 3) := by decide +kernel
theorem dL_law_878 : decode cL_law 878 = .ok (.aload_n 2, 1) := by decide +kernel
theorem dL_law_879 : decode cL_law 879 = .ok (.aload_n 0, 1) := by decide +kernel
theorem dL_law_880 : decode cL_law 880 = .ok (.iload_n 3, 1) := by decide +kernel
theorem dL_law_881 : decode cL_law 881 = .ok (.iconst 1, 1) := by decide +kernel
theorem dL_law_882 : decode cL_law 882 = .ok (.iadd, 1) := by decide +kernel
theorem dL_law_883 : decode cL_law 883 = .ok (.iaload, 1) := by decide +kernel
theorem dL_law_884 : decode cL_law 884 = .ok (.invokevirtual 128, 3) := by decide +kernel
theorem dL_law_887 : decode cL_law 887 = .ok (.if_icmp .eq 42, 3) := by decide +kernel
theorem dL_law_890 : decode cL_law 890 = .ok (.iconst 0, 1) := by decide +kernel
theorem dL_law_891 : decode cL_law 891 = .ok (.ireturn, 1) := by decide +kernel
theorem dL_law_892 : decode cL_law 892 = .ok (.aload_n 1, 1) := by decide +kernel
theorem dL_law_893 : decode cL_law 893 = .ok (.aload_n 0, 1) := by decide +kernel
theorem dL_law_894 : decode cL_law 894 = .ok (.iload_n 3, 1) := by decide +kernel
theorem dL_law_895 : decode cL_law 895 = .ok (.iconst 1, 1) := by decide +kernel
theorem dL_law_896 : decode cL_law 896 = .ok (.iadd, 1) := by decide +kernel
theorem dL_law_897 : decode cL_law 897 = .ok (.iaload, 1) := by decide +kernel
theorem dL_law_898 : decode cL_law 898 = .ok (.invokevirtual 129, 3) := by decide +kernel
theorem dL_law_901 : decode cL_law 901 = .ok (.aload_n 2, 1) := by decide +kernel
theorem dL_law_902 : decode cL_law 902 = .ok (.aload_n 0, 1) := by decide +kernel
theorem dL_law_903 : decode cL_law 903 = .ok (.iload_n 3, 1) := by decide +kernel
theorem dL_law_904 : decode cL_law 904 = .ok (.iconst 1, 1) := by decide +kernel
theorem dL_law_905 : decode cL_law 905 = .ok (.iadd, 1) := by decide +kernel
theorem dL_law_906 : decode cL_law 906 = .ok (.iaload, 1) := by decide +kernel
theorem dL_law_907 : decode cL_law 907 = .ok (.invokevirtual 132, 3) := by decide +kernel
theorem dL_law_910 : decode cL_law 910 = .ok (.if_icmp .eq 19, 3) := by decide +kernel
theorem dL_law_913 : decode cL_law 913 = .ok (.iconst 0, 1) := by decide +kernel
theorem dL_law_914 : decode cL_law 914 = .ok (.ireturn, 1) := by decide +kernel
theorem dL_law_915 : decode cL_law 915 = .ok (.aload_n 1, 1) := by decide +kernel
theorem dL_law_916 : decode cL_law 916 = .ok (.invokevirtual 133, 3) := by decide +kernel
theorem dL_law_919 : decode cL_law 919 = .ok (.aload_n 2, 1) := by decide +kernel
theorem dL_law_920 : decode cL_law 920 = .ok (.invokevirtual 137, 3) := by decide +kernel
theorem dL_law_923 : decode cL_law 923 = .ok (.lcmp, 1) := by decide +kernel
theorem dL_law_924 : decode cL_law 924 = .ok (.ifCond .eq 5, 3) := by decide +kernel
theorem dL_law_927 : decode cL_law 927 = .ok (.iconst 0, 1) := by decide +kernel
theorem dL_law_928 : decode cL_law 928 = .ok (.ireturn, 1) := by decide +kernel
theorem dL_law_929 : decode cL_law 929 = .ok (.iinc 3 4, 3) := by decide +kernel
theorem dL_law_932 : decode cL_law 932 = .ok (.goto (-914), 3) := by decide +kernel
theorem dL_law_935 : decode cL_law 935 = .ok (.iconst 1, 1) := by decide +kernel
theorem dL_law_936 : decode cL_law 936 = .ok (.ireturn, 1) := by decide +kernel
end
section
/-- words that hold on in a callee: those of the tables, and the links of nest mates, casts, arrays of ours -/
def aNk (w : Cond) : Bool := match w with
  | .fieldLinkNest .. => true
  | .methodLinkNest .. => true
  | .castable .. => true
  | .arrayOver (.object _) => true
  | _ => false
def aGW (w : Cond) : Bool := goodWord w || aNk w
def lw_gn : List Cond := lw_tbl.filter aGW
def lw_gt : List Cond := lw_tbl.filter goodWord
theorem gn_of {w : Cond} (h : w ∈ lw_tbl) (hg : aGW w = true) : w ∈ lw_gn := List.mem_filter.mpr ⟨h, hg⟩
def aKc (k : aM) (n : Nat) : Prop := Cond.code k.1 k.2.1 k.2.2.1 k.2.2.2 ∈ lw_tbl ∧ Cond.initialized k.1.cls ∈ lw_tbl ∧ (k.1.cls ≠ "java/lang/invoke/MethodHandle" ∧ k.1.cls ≠ "java/lang/invoke/VarHandle" ∧ (parseMethodDescriptor k.1.desc).map (fun d => d.parameters.length) = some n) ∧ k.2.2.1 ≤ 21 ∧ plainName k.1.cls = true
def aKV (k : aM) (n : Nat) : Prop := aKc k n ∧ Cond.instanceMethod k.1 ∈ lw_tbl ∧ Cond.selects k.1.cls k.1 k.1 ∈ lw_tbl
def aKS (k : aM) (n : Nat) : Prop := aKc k n ∧ Cond.static k.1 ∈ lw_tbl
def aKI (k : aM) (n : Nat) : Prop := aKc k n ∧ Cond.instanceMethod k.1 ∈ lw_tbl ∧ k.1.name = "<init>"
theorem knX0_init : aKI kX0_init 0 := ⟨⟨List.mem_of_getElem? (i := 213) (by decide +kernel), List.mem_of_getElem? (i := 59) (by decide +kernel), by decide +kernel, by decide, by decide +kernel⟩, List.mem_of_getElem? (i := 212) (by decide +kernel), rfl⟩
theorem knX1_init : aKI kX1_init 0 := ⟨⟨List.mem_of_getElem? (i := 206) (by decide +kernel), List.mem_of_getElem? (i := 58) (by decide +kernel), by decide +kernel, by decide, by decide +kernel⟩, List.mem_of_getElem? (i := 205) (by decide +kernel), rfl⟩
theorem knX1_verdict : aKV kX1_verdict 2 := ⟨⟨List.mem_of_getElem? (i := 709) (by decide +kernel), List.mem_of_getElem? (i := 58) (by decide +kernel), by decide +kernel, by decide, by decide +kernel⟩, List.mem_of_getElem? (i := 677) (by decide +kernel), List.mem_of_getElem? (i := 678) (by decide +kernel)⟩
theorem knX2_init : aKI kX2_init 0 := ⟨⟨List.mem_of_getElem? (i := 227) (by decide +kernel), List.mem_of_getElem? (i := 61) (by decide +kernel), by decide +kernel, by decide, by decide +kernel⟩, List.mem_of_getElem? (i := 226) (by decide +kernel), rfl⟩
theorem knX3_init : aKI kX3_init 0 := ⟨⟨List.mem_of_getElem? (i := 158) (by decide +kernel), List.mem_of_getElem? (i := 56) (by decide +kernel), by decide +kernel, by decide, by decide +kernel⟩, List.mem_of_getElem? (i := 157) (by decide +kernel), rfl⟩
theorem knX3_begin : aKV kX3_begin 0 := ⟨⟨List.mem_of_getElem? (i := 251) (by decide +kernel), List.mem_of_getElem? (i := 56) (by decide +kernel), by decide +kernel, by decide, by decide +kernel⟩, List.mem_of_getElem? (i := 249) (by decide +kernel), List.mem_of_getElem? (i := 250) (by decide +kernel)⟩
theorem knX3_become : aKV kX3_become 1 := ⟨⟨List.mem_of_getElem? (i := 722) (by decide +kernel), List.mem_of_getElem? (i := 56) (by decide +kernel), by decide +kernel, by decide, by decide +kernel⟩, List.mem_of_getElem? (i := 720) (by decide +kernel), List.mem_of_getElem? (i := 721) (by decide +kernel)⟩
theorem knX3_whose : aKV kX3_whose 1 := ⟨⟨List.mem_of_getElem? (i := 416) (by decide +kernel), List.mem_of_getElem? (i := 56) (by decide +kernel), by decide +kernel, by decide, by decide +kernel⟩, List.mem_of_getElem? (i := 414) (by decide +kernel), List.mem_of_getElem? (i := 415) (by decide +kernel)⟩
theorem knX3_put : aKV kX3_put 2 := ⟨⟨List.mem_of_getElem? (i := 443) (by decide +kernel), List.mem_of_getElem? (i := 56) (by decide +kernel), by decide +kernel, by decide, by decide +kernel⟩, List.mem_of_getElem? (i := 441) (by decide +kernel), List.mem_of_getElem? (i := 442) (by decide +kernel)⟩
theorem knX3_setOf : aKV kX3_setOf 2 := ⟨⟨List.mem_of_getElem? (i := 435) (by decide +kernel), List.mem_of_getElem? (i := 56) (by decide +kernel), by decide +kernel, by decide, by decide +kernel⟩, List.mem_of_getElem? (i := 433) (by decide +kernel), List.mem_of_getElem? (i := 434) (by decide +kernel)⟩
theorem knX3_walk : aKV kX3_walk 1 := ⟨⟨List.mem_of_getElem? (i := 466) (by decide +kernel), List.mem_of_getElem? (i := 56) (by decide +kernel), by decide +kernel, by decide, by decide +kernel⟩, List.mem_of_getElem? (i := 464) (by decide +kernel), List.mem_of_getElem? (i := 465) (by decide +kernel)⟩
theorem knX3_unwalk : aKV kX3_unwalk 0 := ⟨⟨List.mem_of_getElem? (i := 482) (by decide +kernel), List.mem_of_getElem? (i := 56) (by decide +kernel), by decide +kernel, by decide, by decide +kernel⟩, List.mem_of_getElem? (i := 480) (by decide +kernel), List.mem_of_getElem? (i := 481) (by decide +kernel)⟩
theorem knX3_footOf : aKV kX3_footOf 1 := ⟨⟨List.mem_of_getElem? (i := 462) (by decide +kernel), List.mem_of_getElem? (i := 56) (by decide +kernel), by decide +kernel, by decide, by decide +kernel⟩, List.mem_of_getElem? (i := 460) (by decide +kernel), List.mem_of_getElem? (i := 461) (by decide +kernel)⟩
theorem knX3_stepsOf : aKV kX3_stepsOf 1 := ⟨⟨List.mem_of_getElem? (i := 458) (by decide +kernel), List.mem_of_getElem? (i := 56) (by decide +kernel), by decide +kernel, by decide, by decide +kernel⟩, List.mem_of_getElem? (i := 456) (by decide +kernel), List.mem_of_getElem? (i := 457) (by decide +kernel)⟩
theorem knX3_firstRunOver : aKV kX3_firstRunOver 1 := ⟨⟨List.mem_of_getElem? (i := 629) (by decide +kernel), List.mem_of_getElem? (i := 56) (by decide +kernel), by decide +kernel, by decide, by decide +kernel⟩, List.mem_of_getElem? (i := 627) (by decide +kernel), List.mem_of_getElem? (i := 628) (by decide +kernel)⟩
theorem knX3_longestRun : aKV kX3_longestRun 0 := ⟨⟨List.mem_of_getElem? (i := 637) (by decide +kernel), List.mem_of_getElem? (i := 56) (by decide +kernel), by decide +kernel, by decide, by decide +kernel⟩, List.mem_of_getElem? (i := 635) (by decide +kernel), List.mem_of_getElem? (i := 636) (by decide +kernel)⟩
theorem knX3_changes : aKV kX3_changes 0 := ⟨⟨List.mem_of_getElem? (i := 642) (by decide +kernel), List.mem_of_getElem? (i := 56) (by decide +kernel), by decide +kernel, by decide, by decide +kernel⟩, List.mem_of_getElem? (i := 640) (by decide +kernel), List.mem_of_getElem? (i := 641) (by decide +kernel)⟩
theorem knX3_changesAt : aKV kX3_changesAt 1 := ⟨⟨List.mem_of_getElem? (i := 633) (by decide +kernel), List.mem_of_getElem? (i := 56) (by decide +kernel), by decide +kernel, by decide, by decide +kernel⟩, List.mem_of_getElem? (i := 632) (by decide +kernel), List.mem_of_getElem? (i := 21) (by decide +kernel)⟩
theorem knX4_init : aKI kX4_init 0 := ⟨⟨List.mem_of_getElem? (i := 178) (by decide +kernel), List.mem_of_getElem? (i := 57) (by decide +kernel), by decide +kernel, by decide, by decide +kernel⟩, List.mem_of_getElem? (i := 177) (by decide +kernel), rfl⟩
theorem knX4_total : aKV kX4_total 2 := ⟨⟨List.mem_of_getElem? (i := 527) (by decide +kernel), List.mem_of_getElem? (i := 57) (by decide +kernel), by decide +kernel, by decide, by decide +kernel⟩, List.mem_of_getElem? (i := 525) (by decide +kernel), List.mem_of_getElem? (i := 526) (by decide +kernel)⟩
theorem knX4_lead : aKV kX4_lead 3 := ⟨⟨List.mem_of_getElem? (i := 514) (by decide +kernel), List.mem_of_getElem? (i := 57) (by decide +kernel), by decide +kernel, by decide, by decide +kernel⟩, List.mem_of_getElem? (i := 513) (by decide +kernel), List.mem_of_getElem? (i := 16) (by decide +kernel)⟩
theorem knX4_isFair : aKV kX4_isFair 2 := ⟨⟨List.mem_of_getElem? (i := 510) (by decide +kernel), List.mem_of_getElem? (i := 57) (by decide +kernel), by decide +kernel, by decide, by decide +kernel⟩, List.mem_of_getElem? (i := 509) (by decide +kernel), List.mem_of_getElem? (i := 15) (by decide +kernel)⟩
theorem knX4_fairCount : aKV kX4_fairCount 1 := ⟨⟨List.mem_of_getElem? (i := 505) (by decide +kernel), List.mem_of_getElem? (i := 57) (by decide +kernel), by decide +kernel, by decide, by decide +kernel⟩, List.mem_of_getElem? (i := 503) (by decide +kernel), List.mem_of_getElem? (i := 504) (by decide +kernel)⟩
theorem knX4_best : aKV kX4_best 1 := ⟨⟨List.mem_of_getElem? (i := 523) (by decide +kernel), List.mem_of_getElem? (i := 57) (by decide +kernel), by decide +kernel, by decide, by decide +kernel⟩, List.mem_of_getElem? (i := 521) (by decide +kernel), List.mem_of_getElem? (i := 522) (by decide +kernel)⟩
theorem knX4_mostTotal : aKV kX4_mostTotal 1 := ⟨⟨List.mem_of_getElem? (i := 532) (by decide +kernel), List.mem_of_getElem? (i := 57) (by decide +kernel), by decide +kernel, by decide, by decide +kernel⟩, List.mem_of_getElem? (i := 530) (by decide +kernel), List.mem_of_getElem? (i := 531) (by decide +kernel)⟩
theorem knX4_leftToCutter : aKV kX4_leftToCutter 3 := ⟨⟨List.mem_of_getElem? (i := 545) (by decide +kernel), List.mem_of_getElem? (i := 57) (by decide +kernel), by decide +kernel, by decide, by decide +kernel⟩, List.mem_of_getElem? (i := 543) (by decide +kernel), List.mem_of_getElem? (i := 544) (by decide +kernel)⟩
theorem knX4_bestCut : aKV kX4_bestCut 2 := ⟨⟨List.mem_of_getElem? (i := 541) (by decide +kernel), List.mem_of_getElem? (i := 57) (by decide +kernel), by decide +kernel, by decide, by decide +kernel⟩, List.mem_of_getElem? (i := 539) (by decide +kernel), List.mem_of_getElem? (i := 540) (by decide +kernel)⟩
theorem knX4_outcome : aKV kX4_outcome 5 := ⟨⟨List.mem_of_getElem? (i := 554) (by decide +kernel), List.mem_of_getElem? (i := 57) (by decide +kernel), by decide +kernel, by decide, by decide +kernel⟩, List.mem_of_getElem? (i := 553) (by decide +kernel), List.mem_of_getElem? (i := 17) (by decide +kernel)⟩
theorem knX4_seekLie : aKV kX4_seekLie 2 := ⟨⟨List.mem_of_getElem? (i := 564) (by decide +kernel), List.mem_of_getElem? (i := 57) (by decide +kernel), by decide +kernel, by decide, by decide +kernel⟩, List.mem_of_getElem? (i := 562) (by decide +kernel), List.mem_of_getElem? (i := 563) (by decide +kernel)⟩
theorem knX4_listOthersFair : aKV kX4_listOthersFair 2 := ⟨⟨List.mem_of_getElem? (i := 568) (by decide +kernel), List.mem_of_getElem? (i := 57) (by decide +kernel), by decide +kernel, by decide, by decide +kernel⟩, List.mem_of_getElem? (i := 567) (by decide +kernel), List.mem_of_getElem? (i := 18) (by decide +kernel)⟩
theorem knX4_ownInBestTold : aKV kX4_ownInBestTold 2 := ⟨⟨List.mem_of_getElem? (i := 572) (by decide +kernel), List.mem_of_getElem? (i := 57) (by decide +kernel), by decide +kernel, by decide, by decide +kernel⟩, List.mem_of_getElem? (i := 571) (by decide +kernel), List.mem_of_getElem? (i := 19) (by decide +kernel)⟩
theorem knX4_greatestSale : aKV kX4_greatestSale 2 := ⟨⟨List.mem_of_getElem? (i := 581) (by decide +kernel), List.mem_of_getElem? (i := 57) (by decide +kernel), by decide +kernel, by decide, by decide +kernel⟩, List.mem_of_getElem? (i := 579) (by decide +kernel), List.mem_of_getElem? (i := 580) (by decide +kernel)⟩
theorem knX4_fairLots : aKV kX4_fairLots 2 := ⟨⟨List.mem_of_getElem? (i := 600) (by decide +kernel), List.mem_of_getElem? (i := 57) (by decide +kernel), by decide +kernel, by decide, by decide +kernel⟩, List.mem_of_getElem? (i := 598) (by decide +kernel), List.mem_of_getElem? (i := 599) (by decide +kernel)⟩
theorem knX5_init : aKI kX5_init 0 := ⟨⟨List.mem_of_getElem? (i := 80) (by decide +kernel), List.mem_of_getElem? (i := 54) (by decide +kernel), by decide +kernel, by decide, by decide +kernel⟩, List.mem_of_getElem? (i := 79) (by decide +kernel), rfl⟩
theorem knX5_add : aKV kX5_add 1 := ⟨⟨List.mem_of_getElem? (i := 314) (by decide +kernel), List.mem_of_getElem? (i := 54) (by decide +kernel), by decide +kernel, by decide, by decide +kernel⟩, List.mem_of_getElem? (i := 312) (by decide +kernel), List.mem_of_getElem? (i := 313) (by decide +kernel)⟩
theorem knX5_empty : aKV kX5_empty 0 := ⟨⟨List.mem_of_getElem? (i := 322) (by decide +kernel), List.mem_of_getElem? (i := 54) (by decide +kernel), by decide +kernel, by decide, by decide +kernel⟩, List.mem_of_getElem? (i := 320) (by decide +kernel), List.mem_of_getElem? (i := 321) (by decide +kernel)⟩
theorem knX5_read : aKV kX5_read 1 := ⟨⟨List.mem_of_getElem? (i := 330) (by decide +kernel), List.mem_of_getElem? (i := 54) (by decide +kernel), by decide +kernel, by decide, by decide +kernel⟩, List.mem_of_getElem? (i := 328) (by decide +kernel), List.mem_of_getElem? (i := 329) (by decide +kernel)⟩
theorem knX5_readGood : aKV kX5_readGood 1 := ⟨⟨List.mem_of_getElem? (i := 353) (by decide +kernel), List.mem_of_getElem? (i := 54) (by decide +kernel), by decide +kernel, by decide, by decide +kernel⟩, List.mem_of_getElem? (i := 352) (by decide +kernel), List.mem_of_getElem? (i := 4) (by decide +kernel)⟩
theorem knX5_readPair : aKV kX5_readPair 1 := ⟨⟨List.mem_of_getElem? (i := 369) (by decide +kernel), List.mem_of_getElem? (i := 54) (by decide +kernel), by decide +kernel, by decide, by decide +kernel⟩, List.mem_of_getElem? (i := 368) (by decide +kernel), List.mem_of_getElem? (i := 7) (by decide +kernel)⟩
theorem knX5_readHops : aKV kX5_readHops 1 := ⟨⟨List.mem_of_getElem? (i := 377) (by decide +kernel), List.mem_of_getElem? (i := 54) (by decide +kernel), by decide +kernel, by decide, by decide +kernel⟩, List.mem_of_getElem? (i := 376) (by decide +kernel), List.mem_of_getElem? (i := 8) (by decide +kernel)⟩
theorem knX5_readCells : aKV kX5_readCells 1 := ⟨⟨List.mem_of_getElem? (i := 381) (by decide +kernel), List.mem_of_getElem? (i := 54) (by decide +kernel), by decide +kernel, by decide, by decide +kernel⟩, List.mem_of_getElem? (i := 380) (by decide +kernel), List.mem_of_getElem? (i := 9) (by decide +kernel)⟩
theorem knX5_nextNumber : aKV kX5_nextNumber 2 := ⟨⟨List.mem_of_getElem? (i := 357) (by decide +kernel), List.mem_of_getElem? (i := 54) (by decide +kernel), by decide +kernel, by decide, by decide +kernel⟩, List.mem_of_getElem? (i := 356) (by decide +kernel), List.mem_of_getElem? (i := 5) (by decide +kernel)⟩
theorem knX5_nextEnds : aKV kX5_nextEnds 0 := ⟨⟨List.mem_of_getElem? (i := 365) (by decide +kernel), List.mem_of_getElem? (i := 54) (by decide +kernel), by decide +kernel, by decide, by decide +kernel⟩, List.mem_of_getElem? (i := 364) (by decide +kernel), List.mem_of_getElem? (i := 6) (by decide +kernel)⟩
theorem knX5_letterAt : aKV kX5_letterAt 1 := ⟨⟨List.mem_of_getElem? (i := 339) (by decide +kernel), List.mem_of_getElem? (i := 54) (by decide +kernel), by decide +kernel, by decide, by decide +kernel⟩, List.mem_of_getElem? (i := 338) (by decide +kernel), List.mem_of_getElem? (i := 2) (by decide +kernel)⟩
theorem knX5_nextToken : aKV kX5_nextToken 0 := ⟨⟨List.mem_of_getElem? (i := 335) (by decide +kernel), List.mem_of_getElem? (i := 54) (by decide +kernel), by decide +kernel, by decide, by decide +kernel⟩, List.mem_of_getElem? (i := 334) (by decide +kernel), List.mem_of_getElem? (i := 1) (by decide +kernel)⟩
theorem knX5_takeNumber : aKV kX5_takeNumber 0 := ⟨⟨List.mem_of_getElem? (i := 346) (by decide +kernel), List.mem_of_getElem? (i := 54) (by decide +kernel), by decide +kernel, by decide, by decide +kernel⟩, List.mem_of_getElem? (i := 345) (by decide +kernel), List.mem_of_getElem? (i := 3) (by decide +kernel)⟩
theorem knX5_isDigit : aKS kX5_isDigit 1 := ⟨⟨List.mem_of_getElem? (i := 342) (by decide +kernel), List.mem_of_getElem? (i := 54) (by decide +kernel), by decide +kernel, by decide, by decide +kernel⟩, List.mem_of_getElem? (i := 341) (by decide +kernel)⟩
theorem knX6_init : aKI kX6_init 0 := ⟨⟨List.mem_of_getElem? (i := 113) (by decide +kernel), List.mem_of_getElem? (i := 55) (by decide +kernel), by decide +kernel, by decide, by decide +kernel⟩, List.mem_of_getElem? (i := 112) (by decide +kernel), rfl⟩
theorem knX6_begin : aKV kX6_begin 0 := ⟨⟨List.mem_of_getElem? (i := 118) (by decide +kernel), List.mem_of_getElem? (i := 55) (by decide +kernel), by decide +kernel, by decide, by decide +kernel⟩, List.mem_of_getElem? (i := 116) (by decide +kernel), List.mem_of_getElem? (i := 117) (by decide +kernel)⟩
theorem knX6_addGood : aKV kX6_addGood 2 := ⟨⟨List.mem_of_getElem? (i := 361) (by decide +kernel), List.mem_of_getElem? (i := 55) (by decide +kernel), by decide +kernel, by decide, by decide +kernel⟩, List.mem_of_getElem? (i := 359) (by decide +kernel), List.mem_of_getElem? (i := 360) (by decide +kernel)⟩
theorem knX6_addPair : aKV kX6_addPair 3 := ⟨⟨List.mem_of_getElem? (i := 373) (by decide +kernel), List.mem_of_getElem? (i := 55) (by decide +kernel), by decide +kernel, by decide, by decide +kernel⟩, List.mem_of_getElem? (i := 371) (by decide +kernel), List.mem_of_getElem? (i := 372) (by decide +kernel)⟩
theorem knX6_weigh : aKV kX6_weigh 0 := ⟨⟨List.mem_of_getElem? (i := 385) (by decide +kernel), List.mem_of_getElem? (i := 55) (by decide +kernel), by decide +kernel, by decide, by decide +kernel⟩, List.mem_of_getElem? (i := 383) (by decide +kernel), List.mem_of_getElem? (i := 384) (by decide +kernel)⟩
theorem knX6_all : aKV kX6_all 0 := ⟨⟨List.mem_of_getElem? (i := 389) (by decide +kernel), List.mem_of_getElem? (i := 55) (by decide +kernel), by decide +kernel, by decide, by decide +kernel⟩, List.mem_of_getElem? (i := 387) (by decide +kernel), List.mem_of_getElem? (i := 388) (by decide +kernel)⟩
theorem knX6_worthOf : aKV kX6_worthOf 2 := ⟨⟨List.mem_of_getElem? (i := 397) (by decide +kernel), List.mem_of_getElem? (i := 55) (by decide +kernel), by decide +kernel, by decide, by decide +kernel⟩, List.mem_of_getElem? (i := 395) (by decide +kernel), List.mem_of_getElem? (i := 396) (by decide +kernel)⟩
theorem knX6_worthAlone : aKV kX6_worthAlone 2 := ⟨⟨List.mem_of_getElem? (i := 393) (by decide +kernel), List.mem_of_getElem? (i := 55) (by decide +kernel), by decide +kernel, by decide, by decide +kernel⟩, List.mem_of_getElem? (i := 391) (by decide +kernel), List.mem_of_getElem? (i := 392) (by decide +kernel)⟩
theorem knX6_moreOf : aKV kX6_moreOf 2 := ⟨⟨List.mem_of_getElem? (i := 404) (by decide +kernel), List.mem_of_getElem? (i := 55) (by decide +kernel), by decide +kernel, by decide, by decide +kernel⟩, List.mem_of_getElem? (i := 403) (by decide +kernel), List.mem_of_getElem? (i := 10) (by decide +kernel)⟩
theorem knX6_valueOf : aKV kX6_valueOf 2 := ⟨⟨List.mem_of_getElem? (i := 427) (by decide +kernel), List.mem_of_getElem? (i := 55) (by decide +kernel), by decide +kernel, by decide, by decide +kernel⟩, List.mem_of_getElem? (i := 425) (by decide +kernel), List.mem_of_getElem? (i := 426) (by decide +kernel)⟩
theorem knX6_ownIn : aKV kX6_ownIn 2 := ⟨⟨List.mem_of_getElem? (i := 518) (by decide +kernel), List.mem_of_getElem? (i := 55) (by decide +kernel), by decide +kernel, by decide, by decide +kernel⟩, List.mem_of_getElem? (i := 516) (by decide +kernel), List.mem_of_getElem? (i := 517) (by decide +kernel)⟩
theorem knX6_cellBehind : aKV kX6_cellBehind 1 := ⟨⟨List.mem_of_getElem? (i := 470) (by decide +kernel), List.mem_of_getElem? (i := 55) (by decide +kernel), by decide +kernel, by decide, by decide +kernel⟩, List.mem_of_getElem? (i := 468) (by decide +kernel), List.mem_of_getElem? (i := 469) (by decide +kernel)⟩
theorem knX6_wear : aKV kX6_wear 2 := ⟨⟨List.mem_of_getElem? (i := 474) (by decide +kernel), List.mem_of_getElem? (i := 55) (by decide +kernel), by decide +kernel, by decide, by decide +kernel⟩, List.mem_of_getElem? (i := 472) (by decide +kernel), List.mem_of_getElem? (i := 473) (by decide +kernel)⟩
theorem knX7_init : aKI kX7_init 0 := ⟨⟨List.mem_of_getElem? (i := 241) (by decide +kernel), List.mem_of_getElem? (i := 63) (by decide +kernel), by decide +kernel, by decide, by decide +kernel⟩, List.mem_of_getElem? (i := 240) (by decide +kernel), rfl⟩
theorem knX8_init : aKI kX8_init 0 := ⟨⟨List.mem_of_getElem? (i := 234) (by decide +kernel), List.mem_of_getElem? (i := 62) (by decide +kernel), by decide +kernel, by decide, by decide +kernel⟩, List.mem_of_getElem? (i := 233) (by decide +kernel), rfl⟩
theorem knX9_init : aKI kX9_init 0 := ⟨⟨List.mem_of_getElem? (i := 220) (by decide +kernel), List.mem_of_getElem? (i := 60) (by decide +kernel), by decide +kernel, by decide, by decide +kernel⟩, List.mem_of_getElem? (i := 219) (by decide +kernel), rfl⟩
theorem knX10_init : aKI kX10_init 0 := ⟨⟨List.mem_of_getElem? (i := 72) (by decide +kernel), List.mem_of_getElem? (i := 53) (by decide +kernel), by decide +kernel, by decide, by decide +kernel⟩, List.mem_of_getElem? (i := 71) (by decide +kernel), rfl⟩
theorem knX10_type : aKV kX10_type 1 := ⟨⟨List.mem_of_getElem? (i := 310) (by decide +kernel), List.mem_of_getElem? (i := 53) (by decide +kernel), by decide +kernel, by decide, by decide +kernel⟩, List.mem_of_getElem? (i := 308) (by decide +kernel), List.mem_of_getElem? (i := 309) (by decide +kernel)⟩
theorem knX10_clear : aKV kX10_clear 0 := ⟨⟨List.mem_of_getElem? (i := 318) (by decide +kernel), List.mem_of_getElem? (i := 53) (by decide +kernel), by decide +kernel, by decide, by decide +kernel⟩, List.mem_of_getElem? (i := 316) (by decide +kernel), List.mem_of_getElem? (i := 317) (by decide +kernel)⟩
theorem knX10_suit : aKV kX10_suit 0 := ⟨⟨List.mem_of_getElem? (i := 326) (by decide +kernel), List.mem_of_getElem? (i := 53) (by decide +kernel), by decide +kernel, by decide, by decide +kernel⟩, List.mem_of_getElem? (i := 324) (by decide +kernel), List.mem_of_getElem? (i := 325) (by decide +kernel)⟩
theorem knX10_good : aKV kX10_good 2 := ⟨⟨List.mem_of_getElem? (i := 408) (by decide +kernel), List.mem_of_getElem? (i := 53) (by decide +kernel), by decide +kernel, by decide, by decide +kernel⟩, List.mem_of_getElem? (i := 406) (by decide +kernel), List.mem_of_getElem? (i := 407) (by decide +kernel)⟩
theorem knX10_values : aKV kX10_values 2 := ⟨⟨List.mem_of_getElem? (i := 421) (by decide +kernel), List.mem_of_getElem? (i := 53) (by decide +kernel), by decide +kernel, by decide, by decide +kernel⟩, List.mem_of_getElem? (i := 419) (by decide +kernel), List.mem_of_getElem? (i := 420) (by decide +kernel)⟩
theorem knX10_now : aKV kX10_now 1 := ⟨⟨List.mem_of_getElem? (i := 431) (by decide +kernel), List.mem_of_getElem? (i := 53) (by decide +kernel), by decide +kernel, by decide, by decide +kernel⟩, List.mem_of_getElem? (i := 429) (by decide +kernel), List.mem_of_getElem? (i := 430) (by decide +kernel)⟩
theorem knX10_gives : aKV kX10_gives 2 := ⟨⟨List.mem_of_getElem? (i := 439) (by decide +kernel), List.mem_of_getElem? (i := 53) (by decide +kernel), by decide +kernel, by decide, by decide +kernel⟩, List.mem_of_getElem? (i := 437) (by decide +kernel), List.mem_of_getElem? (i := 438) (by decide +kernel)⟩
theorem knX10_steps : aKV kX10_steps 1 := ⟨⟨List.mem_of_getElem? (i := 454) (by decide +kernel), List.mem_of_getElem? (i := 53) (by decide +kernel), by decide +kernel, by decide, by decide +kernel⟩, List.mem_of_getElem? (i := 452) (by decide +kernel), List.mem_of_getElem? (i := 453) (by decide +kernel)⟩
theorem knX10_undo : aKV kX10_undo 0 := ⟨⟨List.mem_of_getElem? (i := 478) (by decide +kernel), List.mem_of_getElem? (i := 53) (by decide +kernel), by decide +kernel, by decide, by decide +kernel⟩, List.mem_of_getElem? (i := 476) (by decide +kernel), List.mem_of_getElem? (i := 477) (by decide +kernel)⟩
theorem knX10_envy : aKV kX10_envy 1 := ⟨⟨List.mem_of_getElem? (i := 486) (by decide +kernel), List.mem_of_getElem? (i := 53) (by decide +kernel), by decide +kernel, by decide, by decide +kernel⟩, List.mem_of_getElem? (i := 484) (by decide +kernel), List.mem_of_getElem? (i := 485) (by decide +kernel)⟩
theorem knX10_fair : aKV kX10_fair 1 := ⟨⟨List.mem_of_getElem? (i := 501) (by decide +kernel), List.mem_of_getElem? (i := 53) (by decide +kernel), by decide +kernel, by decide, by decide +kernel⟩, List.mem_of_getElem? (i := 499) (by decide +kernel), List.mem_of_getElem? (i := 500) (by decide +kernel)⟩
theorem knX10_cut : aKV kX10_cut 2 := ⟨⟨List.mem_of_getElem? (i := 537) (by decide +kernel), List.mem_of_getElem? (i := 53) (by decide +kernel), by decide +kernel, by decide, by decide +kernel⟩, List.mem_of_getElem? (i := 535) (by decide +kernel), List.mem_of_getElem? (i := 536) (by decide +kernel)⟩
theorem knX10_byTurns : aKV kX10_byTurns 2 := ⟨⟨List.mem_of_getElem? (i := 550) (by decide +kernel), List.mem_of_getElem? (i := 53) (by decide +kernel), by decide +kernel, by decide, by decide +kernel⟩, List.mem_of_getElem? (i := 548) (by decide +kernel), List.mem_of_getElem? (i := 549) (by decide +kernel)⟩
theorem knX10_lies : aKV kX10_lies 2 := ⟨⟨List.mem_of_getElem? (i := 560) (by decide +kernel), List.mem_of_getElem? (i := 53) (by decide +kernel), by decide +kernel, by decide, by decide +kernel⟩, List.mem_of_getElem? (i := 558) (by decide +kernel), List.mem_of_getElem? (i := 559) (by decide +kernel)⟩
theorem knX10_sell : aKV kX10_sell 1 := ⟨⟨List.mem_of_getElem? (i := 577) (by decide +kernel), List.mem_of_getElem? (i := 53) (by decide +kernel), by decide +kernel, by decide, by decide +kernel⟩, List.mem_of_getElem? (i := 575) (by decide +kernel), List.mem_of_getElem? (i := 576) (by decide +kernel)⟩
theorem knX10_adds : aKV kX10_adds 1 := ⟨⟨List.mem_of_getElem? (i := 591) (by decide +kernel), List.mem_of_getElem? (i := 53) (by decide +kernel), by decide +kernel, by decide, by decide +kernel⟩, List.mem_of_getElem? (i := 589) (by decide +kernel), List.mem_of_getElem? (i := 590) (by decide +kernel)⟩
theorem knX10_odds : aKV kX10_odds 2 := ⟨⟨List.mem_of_getElem? (i := 596) (by decide +kernel), List.mem_of_getElem? (i := 53) (by decide +kernel), by decide +kernel, by decide, by decide +kernel⟩, List.mem_of_getElem? (i := 594) (by decide +kernel), List.mem_of_getElem? (i := 595) (by decide +kernel)⟩
theorem knX10_foot : aKV kX10_foot 1 := ⟨⟨List.mem_of_getElem? (i := 612) (by decide +kernel), List.mem_of_getElem? (i := 53) (by decide +kernel), by decide +kernel, by decide, by decide +kernel⟩, List.mem_of_getElem? (i := 610) (by decide +kernel), List.mem_of_getElem? (i := 611) (by decide +kernel)⟩
theorem knX10_worn : aKV kX10_worn 2 := ⟨⟨List.mem_of_getElem? (i := 617) (by decide +kernel), List.mem_of_getElem? (i := 53) (by decide +kernel), by decide +kernel, by decide, by decide +kernel⟩, List.mem_of_getElem? (i := 615) (by decide +kernel), List.mem_of_getElem? (i := 616) (by decide +kernel)⟩
theorem knX10_judge : aKV kX10_judge 1 := ⟨⟨List.mem_of_getElem? (i := 625) (by decide +kernel), List.mem_of_getElem? (i := 53) (by decide +kernel), by decide +kernel, by decide, by decide +kernel⟩, List.mem_of_getElem? (i := 623) (by decide +kernel), List.mem_of_getElem? (i := 624) (by decide +kernel)⟩
theorem knX10_saw : aKV kX10_saw 3 := ⟨⟨List.mem_of_getElem? (i := 646) (by decide +kernel), List.mem_of_getElem? (i := 53) (by decide +kernel), by decide +kernel, by decide, by decide +kernel⟩, List.mem_of_getElem? (i := 644) (by decide +kernel), List.mem_of_getElem? (i := 645) (by decide +kernel)⟩
theorem knX10_forget : aKV kX10_forget 0 := ⟨⟨List.mem_of_getElem? (i := 650) (by decide +kernel), List.mem_of_getElem? (i := 53) (by decide +kernel), by decide +kernel, by decide, by decide +kernel⟩, List.mem_of_getElem? (i := 648) (by decide +kernel), List.mem_of_getElem? (i := 649) (by decide +kernel)⟩
theorem knX10_wrong : aKV kX10_wrong 1 := ⟨⟨List.mem_of_getElem? (i := 654) (by decide +kernel), List.mem_of_getElem? (i := 53) (by decide +kernel), by decide +kernel, by decide, by decide +kernel⟩, List.mem_of_getElem? (i := 652) (by decide +kernel), List.mem_of_getElem? (i := 653) (by decide +kernel)⟩
theorem knX10_asTold : aKV kX10_asTold 0 := ⟨⟨List.mem_of_getElem? (i := 662) (by decide +kernel), List.mem_of_getElem? (i := 53) (by decide +kernel), by decide +kernel, by decide, by decide +kernel⟩, List.mem_of_getElem? (i := 660) (by decide +kernel), List.mem_of_getElem? (i := 661) (by decide +kernel)⟩
theorem knX10_soonest : aKV kX10_soonest 3 := ⟨⟨List.mem_of_getElem? (i := 666) (by decide +kernel), List.mem_of_getElem? (i := 53) (by decide +kernel), by decide +kernel, by decide, by decide +kernel⟩, List.mem_of_getElem? (i := 664) (by decide +kernel), List.mem_of_getElem? (i := 665) (by decide +kernel)⟩
theorem knX10_rate : aKV kX10_rate 2 := ⟨⟨List.mem_of_getElem? (i := 674) (by decide +kernel), List.mem_of_getElem? (i := 53) (by decide +kernel), by decide +kernel, by decide, by decide +kernel⟩, List.mem_of_getElem? (i := 672) (by decide +kernel), List.mem_of_getElem? (i := 673) (by decide +kernel)⟩
theorem knX10_keep : aKV kX10_keep 1 := ⟨⟨List.mem_of_getElem? (i := 714) (by decide +kernel), List.mem_of_getElem? (i := 53) (by decide +kernel), by decide +kernel, by decide, by decide +kernel⟩, List.mem_of_getElem? (i := 712) (by decide +kernel), List.mem_of_getElem? (i := 713) (by decide +kernel)⟩
theorem knX10_back : aKV kX10_back 1 := ⟨⟨List.mem_of_getElem? (i := 727) (by decide +kernel), List.mem_of_getElem? (i := 53) (by decide +kernel), by decide +kernel, by decide, by decide +kernel⟩, List.mem_of_getElem? (i := 725) (by decide +kernel), List.mem_of_getElem? (i := 726) (by decide +kernel)⟩
theorem knX10_count : aKV kX10_count 1 := ⟨⟨List.mem_of_getElem? (i := 731) (by decide +kernel), List.mem_of_getElem? (i := 53) (by decide +kernel), by decide +kernel, by decide, by decide +kernel⟩, List.mem_of_getElem? (i := 729) (by decide +kernel), List.mem_of_getElem? (i := 730) (by decide +kernel)⟩
theorem knX10_trace : aKV kX10_trace 0 := ⟨⟨List.mem_of_getElem? (i := 735) (by decide +kernel), List.mem_of_getElem? (i := 53) (by decide +kernel), by decide +kernel, by decide, by decide +kernel⟩, List.mem_of_getElem? (i := 733) (by decide +kernel), List.mem_of_getElem? (i := 734) (by decide +kernel)⟩
theorem knX10_beginAnew : aKV kX10_beginAnew 0 := ⟨⟨List.mem_of_getElem? (i := 247) (by decide +kernel), List.mem_of_getElem? (i := 53) (by decide +kernel), by decide +kernel, by decide, by decide +kernel⟩, List.mem_of_getElem? (i := 246) (by decide +kernel), List.mem_of_getElem? (i := 0) (by decide +kernel)⟩
theorem knX10_isGood : aKV kX10_isGood 1 := ⟨⟨List.mem_of_getElem? (i := 412) (by decide +kernel), List.mem_of_getElem? (i := 53) (by decide +kernel), by decide +kernel, by decide, by decide +kernel⟩, List.mem_of_getElem? (i := 411) (by decide +kernel), List.mem_of_getElem? (i := 11) (by decide +kernel)⟩
theorem knX10_isCell : aKV kX10_isCell 1 := ⟨⟨List.mem_of_getElem? (i := 621) (by decide +kernel), List.mem_of_getElem? (i := 53) (by decide +kernel), by decide +kernel, by decide, by decide +kernel⟩, List.mem_of_getElem? (i := 620) (by decide +kernel), List.mem_of_getElem? (i := 20) (by decide +kernel)⟩
theorem knX10_isSide : aKS kX10_isSide 1 := ⟨⟨List.mem_of_getElem? (i := 400) (by decide +kernel), List.mem_of_getElem? (i := 53) (by decide +kernel), by decide +kernel, by decide, by decide +kernel⟩, List.mem_of_getElem? (i := 399) (by decide +kernel)⟩
theorem knX10_imageOf : aKV kX10_imageOf 1 := ⟨⟨List.mem_of_getElem? (i := 718) (by decide +kernel), List.mem_of_getElem? (i := 53) (by decide +kernel), by decide +kernel, by decide, by decide +kernel⟩, List.mem_of_getElem? (i := 717) (by decide +kernel), List.mem_of_getElem? (i := 24) (by decide +kernel)⟩
theorem knX10_remember : aKV kX10_remember 1 := ⟨⟨List.mem_of_getElem? (i := 447) (by decide +kernel), List.mem_of_getElem? (i := 53) (by decide +kernel), by decide +kernel, by decide, by decide +kernel⟩, List.mem_of_getElem? (i := 446) (by decide +kernel), List.mem_of_getElem? (i := 12) (by decide +kernel)⟩
theorem knX10_ownValue : aKV kX10_ownValue 1 := ⟨⟨List.mem_of_getElem? (i := 494) (by decide +kernel), List.mem_of_getElem? (i := 53) (by decide +kernel), by decide +kernel, by decide, by decide +kernel⟩, List.mem_of_getElem? (i := 493) (by decide +kernel), List.mem_of_getElem? (i := 14) (by decide +kernel)⟩
theorem knX10_envyOf : aKV kX10_envyOf 1 := ⟨⟨List.mem_of_getElem? (i := 490) (by decide +kernel), List.mem_of_getElem? (i := 53) (by decide +kernel), by decide +kernel, by decide, by decide +kernel⟩, List.mem_of_getElem? (i := 489) (by decide +kernel), List.mem_of_getElem? (i := 13) (by decide +kernel)⟩
theorem knX10_agrees : aKV kX10_agrees 2 := ⟨⟨List.mem_of_getElem? (i := 658) (by decide +kernel), List.mem_of_getElem? (i := 53) (by decide +kernel), by decide +kernel, by decide, by decide +kernel⟩, List.mem_of_getElem? (i := 657) (by decide +kernel), List.mem_of_getElem? (i := 22) (by decide +kernel)⟩
theorem knX10_canBeWalked : aKV kX10_canBeWalked 2 := ⟨⟨List.mem_of_getElem? (i := 670) (by decide +kernel), List.mem_of_getElem? (i := 53) (by decide +kernel), by decide +kernel, by decide, by decide +kernel⟩, List.mem_of_getElem? (i := 669) (by decide +kernel), List.mem_of_getElem? (i := 23) (by decide +kernel)⟩
theorem knX10_power : aKS kX10_power 2 := ⟨⟨List.mem_of_getElem? (i := 603) (by decide +kernel), List.mem_of_getElem? (i := 53) (by decide +kernel), by decide +kernel, by decide, by decide +kernel⟩, List.mem_of_getElem? (i := 602) (by decide +kernel)⟩
theorem knX10_greatestDivisor : aKS kX10_greatestDivisor 2 := ⟨⟨List.mem_of_getElem? (i := 607) (by decide +kernel), List.mem_of_getElem? (i := 53) (by decide +kernel), by decide +kernel, by decide, by decide +kernel⟩, List.mem_of_getElem? (i := 606) (by decide +kernel)⟩
theorem knX11_init : aKI kX11_init 0 := ⟨⟨List.mem_of_getElem? (i := 740) (by decide +kernel), List.mem_of_getElem? (i := 64) (by decide +kernel), by decide +kernel, by decide, by decide +kernel⟩, List.mem_of_getElem? (i := 739) (by decide +kernel), rfl⟩
theorem knX11_in : aKS kX11_in 3 := ⟨⟨List.mem_of_getElem? (i := 818) (by decide +kernel), List.mem_of_getElem? (i := 64) (by decide +kernel), by decide +kernel, by decide, by decide +kernel⟩, List.mem_of_getElem? (i := 817) (by decide +kernel)⟩
theorem knX11_isTwo : aKS kX11_isTwo 1 := ⟨⟨List.mem_of_getElem? (i := 875) (by decide +kernel), List.mem_of_getElem? (i := 64) (by decide +kernel), by decide +kernel, by decide, by decide +kernel⟩, List.mem_of_getElem? (i := 874) (by decide +kernel)⟩
theorem knX11_has : aKS kX11_has 2 := ⟨⟨List.mem_of_getElem? (i := 859) (by decide +kernel), List.mem_of_getElem? (i := 64) (by decide +kernel), by decide +kernel, by decide, by decide +kernel⟩, List.mem_of_getElem? (i := 858) (by decide +kernel)⟩
theorem knX11_bits : aKS kX11_bits 1 := ⟨⟨List.mem_of_getElem? (i := 962) (by decide +kernel), List.mem_of_getElem? (i := 64) (by decide +kernel), by decide +kernel, by decide, by decide +kernel⟩, List.mem_of_getElem? (i := 961) (by decide +kernel)⟩
theorem knX11_clean : aKS kX11_clean 1 := ⟨⟨List.mem_of_getElem? (i := 744) (by decide +kernel), List.mem_of_getElem? (i := 64) (by decide +kernel), by decide +kernel, by decide, by decide +kernel⟩, List.mem_of_getElem? (i := 743) (by decide +kernel)⟩
theorem knX11_begins : aKV kX11_begins 0 := ⟨⟨List.mem_of_getElem? (i := 748) (by decide +kernel), List.mem_of_getElem? (i := 64) (by decide +kernel), by decide +kernel, by decide, by decide +kernel⟩, List.mem_of_getElem? (i := 747) (by decide +kernel), List.mem_of_getElem? (i := 25) (by decide +kernel)⟩
theorem knX11_type : aKV kX11_type 1 := ⟨⟨List.mem_of_getElem? (i := 814) (by decide +kernel), List.mem_of_getElem? (i := 64) (by decide +kernel), by decide +kernel, by decide, by decide +kernel⟩, List.mem_of_getElem? (i := 812) (by decide +kernel), List.mem_of_getElem? (i := 813) (by decide +kernel)⟩
theorem knX11_clear : aKV kX11_clear 0 := ⟨⟨List.mem_of_getElem? (i := 822) (by decide +kernel), List.mem_of_getElem? (i := 64) (by decide +kernel), by decide +kernel, by decide, by decide +kernel⟩, List.mem_of_getElem? (i := 820) (by decide +kernel), List.mem_of_getElem? (i := 821) (by decide +kernel)⟩
theorem knX11_first : aKV kX11_first 0 := ⟨⟨List.mem_of_getElem? (i := 830) (by decide +kernel), List.mem_of_getElem? (i := 64) (by decide +kernel), by decide +kernel, by decide, by decide +kernel⟩, List.mem_of_getElem? (i := 829) (by decide +kernel), List.mem_of_getElem? (i := 26) (by decide +kernel)⟩
theorem knX11_number : aKV kX11_number 3 := ⟨⟨List.mem_of_getElem? (i := 842) (by decide +kernel), List.mem_of_getElem? (i := 64) (by decide +kernel), by decide +kernel, by decide, by decide +kernel⟩, List.mem_of_getElem? (i := 841) (by decide +kernel), List.mem_of_getElem? (i := 29) (by decide +kernel)⟩
theorem knX11_ends : aKV kX11_ends 0 := ⟨⟨List.mem_of_getElem? (i := 848) (by decide +kernel), List.mem_of_getElem? (i := 64) (by decide +kernel), by decide +kernel, by decide, by decide +kernel⟩, List.mem_of_getElem? (i := 847) (by decide +kernel), List.mem_of_getElem? (i := 30) (by decide +kernel)⟩
theorem knX11_takesGood : aKV kX11_takesGood 0 := ⟨⟨List.mem_of_getElem? (i := 838) (by decide +kernel), List.mem_of_getElem? (i := 64) (by decide +kernel), by decide +kernel, by decide, by decide +kernel⟩, List.mem_of_getElem? (i := 837) (by decide +kernel), List.mem_of_getElem? (i := 28) (by decide +kernel)⟩
theorem knX11_takesPair : aKV kX11_takesPair 0 := ⟨⟨List.mem_of_getElem? (i := 852) (by decide +kernel), List.mem_of_getElem? (i := 64) (by decide +kernel), by decide +kernel, by decide, by decide +kernel⟩, List.mem_of_getElem? (i := 851) (by decide +kernel), List.mem_of_getElem? (i := 31) (by decide +kernel)⟩
theorem knX11_takesOne : aKV kX11_takesOne 3 := ⟨⟨List.mem_of_getElem? (i := 856) (by decide +kernel), List.mem_of_getElem? (i := 64) (by decide +kernel), by decide +kernel, by decide, by decide +kernel⟩, List.mem_of_getElem? (i := 855) (by decide +kernel), List.mem_of_getElem? (i := 32) (by decide +kernel)⟩
theorem knX11_takesItem : aKV kX11_takesItem 1 := ⟨⟨List.mem_of_getElem? (i := 834) (by decide +kernel), List.mem_of_getElem? (i := 64) (by decide +kernel), by decide +kernel, by decide, by decide +kernel⟩, List.mem_of_getElem? (i := 833) (by decide +kernel), List.mem_of_getElem? (i := 27) (by decide +kernel)⟩
theorem knX11_suit : aKV kX11_suit 0 := ⟨⟨List.mem_of_getElem? (i := 826) (by decide +kernel), List.mem_of_getElem? (i := 64) (by decide +kernel), by decide +kernel, by decide, by decide +kernel⟩, List.mem_of_getElem? (i := 824) (by decide +kernel), List.mem_of_getElem? (i := 825) (by decide +kernel)⟩
theorem knX11_isGood : aKV kX11_isGood 1 := ⟨⟨List.mem_of_getElem? (i := 867) (by decide +kernel), List.mem_of_getElem? (i := 64) (by decide +kernel), by decide +kernel, by decide, by decide +kernel⟩, List.mem_of_getElem? (i := 866) (by decide +kernel), List.mem_of_getElem? (i := 33) (by decide +kernel)⟩
theorem knX11_all : aKV kX11_all 0 := ⟨⟨List.mem_of_getElem? (i := 879) (by decide +kernel), List.mem_of_getElem? (i := 64) (by decide +kernel), by decide +kernel, by decide, by decide +kernel⟩, List.mem_of_getElem? (i := 878) (by decide +kernel), List.mem_of_getElem? (i := 34) (by decide +kernel)⟩
theorem knX11_valued : aKV kX11_valued 2 := ⟨⟨List.mem_of_getElem? (i := 883) (by decide +kernel), List.mem_of_getElem? (i := 64) (by decide +kernel), by decide +kernel, by decide, by decide +kernel⟩, List.mem_of_getElem? (i := 882) (by decide +kernel), List.mem_of_getElem? (i := 35) (by decide +kernel)⟩
theorem knX11_goodsOf : aKV kX11_goodsOf 1 := ⟨⟨List.mem_of_getElem? (i := 891) (by decide +kernel), List.mem_of_getElem? (i := 64) (by decide +kernel), by decide +kernel, by decide, by decide +kernel⟩, List.mem_of_getElem? (i := 890) (by decide +kernel), List.mem_of_getElem? (i := 36) (by decide +kernel)⟩
theorem knX11_good : aKV kX11_good 2 := ⟨⟨List.mem_of_getElem? (i := 863) (by decide +kernel), List.mem_of_getElem? (i := 64) (by decide +kernel), by decide +kernel, by decide, by decide +kernel⟩, List.mem_of_getElem? (i := 861) (by decide +kernel), List.mem_of_getElem? (i := 862) (by decide +kernel)⟩
theorem knX11_values : aKV kX11_values 2 := ⟨⟨List.mem_of_getElem? (i := 872) (by decide +kernel), List.mem_of_getElem? (i := 64) (by decide +kernel), by decide +kernel, by decide, by decide +kernel⟩, List.mem_of_getElem? (i := 870) (by decide +kernel), List.mem_of_getElem? (i := 871) (by decide +kernel)⟩
theorem knX11_now : aKV kX11_now 1 := ⟨⟨List.mem_of_getElem? (i := 887) (by decide +kernel), List.mem_of_getElem? (i := 64) (by decide +kernel), by decide +kernel, by decide, by decide +kernel⟩, List.mem_of_getElem? (i := 885) (by decide +kernel), List.mem_of_getElem? (i := 886) (by decide +kernel)⟩
theorem knX11_copies : aKS kX11_copies 4 := ⟨⟨List.mem_of_getElem? (i := 902) (by decide +kernel), List.mem_of_getElem? (i := 64) (by decide +kernel), by decide +kernel, by decide, by decide +kernel⟩, List.mem_of_getElem? (i := 901) (by decide +kernel)⟩
theorem knX11_remember : aKV kX11_remember 0 := ⟨⟨List.mem_of_getElem? (i := 899) (by decide +kernel), List.mem_of_getElem? (i := 64) (by decide +kernel), by decide +kernel, by decide, by decide +kernel⟩, List.mem_of_getElem? (i := 898) (by decide +kernel), List.mem_of_getElem? (i := 37) (by decide +kernel)⟩
theorem knX11_gives : aKV kX11_gives 2 := ⟨⟨List.mem_of_getElem? (i := 895) (by decide +kernel), List.mem_of_getElem? (i := 64) (by decide +kernel), by decide +kernel, by decide, by decide +kernel⟩, List.mem_of_getElem? (i := 893) (by decide +kernel), List.mem_of_getElem? (i := 894) (by decide +kernel)⟩
theorem knX11_footOf : aKV kX11_footOf 1 := ⟨⟨List.mem_of_getElem? (i := 914) (by decide +kernel), List.mem_of_getElem? (i := 64) (by decide +kernel), by decide +kernel, by decide, by decide +kernel⟩, List.mem_of_getElem? (i := 913) (by decide +kernel), List.mem_of_getElem? (i := 39) (by decide +kernel)⟩
theorem knX11_wornBy : aKV kX11_wornBy 3 := ⟨⟨List.mem_of_getElem? (i := 918) (by decide +kernel), List.mem_of_getElem? (i := 64) (by decide +kernel), by decide +kernel, by decide, by decide +kernel⟩, List.mem_of_getElem? (i := 917) (by decide +kernel), List.mem_of_getElem? (i := 40) (by decide +kernel)⟩
theorem knX11_stepsOf : aKV kX11_stepsOf 1 := ⟨⟨List.mem_of_getElem? (i := 910) (by decide +kernel), List.mem_of_getElem? (i := 64) (by decide +kernel), by decide +kernel, by decide, by decide +kernel⟩, List.mem_of_getElem? (i := 909) (by decide +kernel), List.mem_of_getElem? (i := 38) (by decide +kernel)⟩
theorem knX11_steps : aKV kX11_steps 1 := ⟨⟨List.mem_of_getElem? (i := 906) (by decide +kernel), List.mem_of_getElem? (i := 64) (by decide +kernel), by decide +kernel, by decide, by decide +kernel⟩, List.mem_of_getElem? (i := 904) (by decide +kernel), List.mem_of_getElem? (i := 905) (by decide +kernel)⟩
theorem knX11_undo : aKV kX11_undo 0 := ⟨⟨List.mem_of_getElem? (i := 922) (by decide +kernel), List.mem_of_getElem? (i := 64) (by decide +kernel), by decide +kernel, by decide, by decide +kernel⟩, List.mem_of_getElem? (i := 920) (by decide +kernel), List.mem_of_getElem? (i := 921) (by decide +kernel)⟩
theorem knX11_envyBy : aKV kX11_envyBy 3 := ⟨⟨List.mem_of_getElem? (i := 930) (by decide +kernel), List.mem_of_getElem? (i := 64) (by decide +kernel), by decide +kernel, by decide, by decide +kernel⟩, List.mem_of_getElem? (i := 929) (by decide +kernel), List.mem_of_getElem? (i := 41) (by decide +kernel)⟩
theorem knX11_envy : aKV kX11_envy 1 := ⟨⟨List.mem_of_getElem? (i := 926) (by decide +kernel), List.mem_of_getElem? (i := 64) (by decide +kernel), by decide +kernel, by decide, by decide +kernel⟩, List.mem_of_getElem? (i := 924) (by decide +kernel), List.mem_of_getElem? (i := 925) (by decide +kernel)⟩
theorem knX11_isFair : aKV kX11_isFair 1 := ⟨⟨List.mem_of_getElem? (i := 939) (by decide +kernel), List.mem_of_getElem? (i := 64) (by decide +kernel), by decide +kernel, by decide, by decide +kernel⟩, List.mem_of_getElem? (i := 938) (by decide +kernel), List.mem_of_getElem? (i := 42) (by decide +kernel)⟩
theorem knX11_together : aKV kX11_together 1 := ⟨⟨List.mem_of_getElem? (i := 947) (by decide +kernel), List.mem_of_getElem? (i := 64) (by decide +kernel), by decide +kernel, by decide, by decide +kernel⟩, List.mem_of_getElem? (i := 946) (by decide +kernel), List.mem_of_getElem? (i := 44) (by decide +kernel)⟩
theorem knX11_best : aKV kX11_best 1 := ⟨⟨List.mem_of_getElem? (i := 943) (by decide +kernel), List.mem_of_getElem? (i := 64) (by decide +kernel), by decide +kernel, by decide, by decide +kernel⟩, List.mem_of_getElem? (i := 942) (by decide +kernel), List.mem_of_getElem? (i := 43) (by decide +kernel)⟩
theorem knX11_fair : aKV kX11_fair 1 := ⟨⟨List.mem_of_getElem? (i := 934) (by decide +kernel), List.mem_of_getElem? (i := 64) (by decide +kernel), by decide +kernel, by decide, by decide +kernel⟩, List.mem_of_getElem? (i := 932) (by decide +kernel), List.mem_of_getElem? (i := 933) (by decide +kernel)⟩
theorem knX11_cut : aKV kX11_cut 2 := ⟨⟨List.mem_of_getElem? (i := 951) (by decide +kernel), List.mem_of_getElem? (i := 64) (by decide +kernel), by decide +kernel, by decide, by decide +kernel⟩, List.mem_of_getElem? (i := 949) (by decide +kernel), List.mem_of_getElem? (i := 950) (by decide +kernel)⟩
theorem knX11_layTurns : aKV kX11_layTurns 1 := ⟨⟨List.mem_of_getElem? (i := 959) (by decide +kernel), List.mem_of_getElem? (i := 64) (by decide +kernel), by decide +kernel, by decide, by decide +kernel⟩, List.mem_of_getElem? (i := 958) (by decide +kernel), List.mem_of_getElem? (i := 45) (by decide +kernel)⟩
theorem knX11_layTake : aKV kX11_layTake 3 := ⟨⟨List.mem_of_getElem? (i := 966) (by decide +kernel), List.mem_of_getElem? (i := 64) (by decide +kernel), by decide +kernel, by decide, by decide +kernel⟩, List.mem_of_getElem? (i := 965) (by decide +kernel), List.mem_of_getElem? (i := 46) (by decide +kernel)⟩
theorem knX11_byTurns : aKV kX11_byTurns 2 := ⟨⟨List.mem_of_getElem? (i := 955) (by decide +kernel), List.mem_of_getElem? (i := 64) (by decide +kernel), by decide +kernel, by decide, by decide +kernel⟩, List.mem_of_getElem? (i := 953) (by decide +kernel), List.mem_of_getElem? (i := 954) (by decide +kernel)⟩
theorem knX11_gains : aKV kX11_gains 3 := ⟨⟨List.mem_of_getElem? (i := 974) (by decide +kernel), List.mem_of_getElem? (i := 64) (by decide +kernel), by decide +kernel, by decide, by decide +kernel⟩, List.mem_of_getElem? (i := 973) (by decide +kernel), List.mem_of_getElem? (i := 47) (by decide +kernel)⟩
theorem knX11_lies : aKV kX11_lies 2 := ⟨⟨List.mem_of_getElem? (i := 970) (by decide +kernel), List.mem_of_getElem? (i := 64) (by decide +kernel), by decide +kernel, by decide, by decide +kernel⟩, List.mem_of_getElem? (i := 968) (by decide +kernel), List.mem_of_getElem? (i := 969) (by decide +kernel)⟩
theorem knX11_sell : aKV kX11_sell 1 := ⟨⟨List.mem_of_getElem? (i := 978) (by decide +kernel), List.mem_of_getElem? (i := 64) (by decide +kernel), by decide +kernel, by decide, by decide +kernel⟩, List.mem_of_getElem? (i := 976) (by decide +kernel), List.mem_of_getElem? (i := 977) (by decide +kernel)⟩
theorem knX11_adds : aKV kX11_adds 1 := ⟨⟨List.mem_of_getElem? (i := 983) (by decide +kernel), List.mem_of_getElem? (i := 64) (by decide +kernel), by decide +kernel, by decide, by decide +kernel⟩, List.mem_of_getElem? (i := 981) (by decide +kernel), List.mem_of_getElem? (i := 982) (by decide +kernel)⟩
theorem knX11_odds : aKV kX11_odds 2 := ⟨⟨List.mem_of_getElem? (i := 987) (by decide +kernel), List.mem_of_getElem? (i := 64) (by decide +kernel), by decide +kernel, by decide, by decide +kernel⟩, List.mem_of_getElem? (i := 985) (by decide +kernel), List.mem_of_getElem? (i := 986) (by decide +kernel)⟩
theorem knX11_foot : aKV kX11_foot 1 := ⟨⟨List.mem_of_getElem? (i := 992) (by decide +kernel), List.mem_of_getElem? (i := 64) (by decide +kernel), by decide +kernel, by decide, by decide +kernel⟩, List.mem_of_getElem? (i := 990) (by decide +kernel), List.mem_of_getElem? (i := 991) (by decide +kernel)⟩
theorem knX11_isCell : aKV kX11_isCell 1 := ⟨⟨List.mem_of_getElem? (i := 1000) (by decide +kernel), List.mem_of_getElem? (i := 64) (by decide +kernel), by decide +kernel, by decide, by decide +kernel⟩, List.mem_of_getElem? (i := 999) (by decide +kernel), List.mem_of_getElem? (i := 48) (by decide +kernel)⟩
theorem knX11_worn : aKV kX11_worn 2 := ⟨⟨List.mem_of_getElem? (i := 996) (by decide +kernel), List.mem_of_getElem? (i := 64) (by decide +kernel), by decide +kernel, by decide, by decide +kernel⟩, List.mem_of_getElem? (i := 994) (by decide +kernel), List.mem_of_getElem? (i := 995) (by decide +kernel)⟩
theorem knX11_judge : aKV kX11_judge 1 := ⟨⟨List.mem_of_getElem? (i := 1004) (by decide +kernel), List.mem_of_getElem? (i := 64) (by decide +kernel), by decide +kernel, by decide, by decide +kernel⟩, List.mem_of_getElem? (i := 1002) (by decide +kernel), List.mem_of_getElem? (i := 1003) (by decide +kernel)⟩
theorem knX11_saw : aKV kX11_saw 3 := ⟨⟨List.mem_of_getElem? (i := 1008) (by decide +kernel), List.mem_of_getElem? (i := 64) (by decide +kernel), by decide +kernel, by decide, by decide +kernel⟩, List.mem_of_getElem? (i := 1006) (by decide +kernel), List.mem_of_getElem? (i := 1007) (by decide +kernel)⟩
theorem knX11_forget : aKV kX11_forget 0 := ⟨⟨List.mem_of_getElem? (i := 1013) (by decide +kernel), List.mem_of_getElem? (i := 64) (by decide +kernel), by decide +kernel, by decide, by decide +kernel⟩, List.mem_of_getElem? (i := 1011) (by decide +kernel), List.mem_of_getElem? (i := 1012) (by decide +kernel)⟩
theorem knX11_isSo : aKV kX11_isSo 1 := ⟨⟨List.mem_of_getElem? (i := 1021) (by decide +kernel), List.mem_of_getElem? (i := 64) (by decide +kernel), by decide +kernel, by decide, by decide +kernel⟩, List.mem_of_getElem? (i := 1020) (by decide +kernel), List.mem_of_getElem? (i := 49) (by decide +kernel)⟩
theorem knX11_wrong : aKV kX11_wrong 1 := ⟨⟨List.mem_of_getElem? (i := 1017) (by decide +kernel), List.mem_of_getElem? (i := 64) (by decide +kernel), by decide +kernel, by decide, by decide +kernel⟩, List.mem_of_getElem? (i := 1015) (by decide +kernel), List.mem_of_getElem? (i := 1016) (by decide +kernel)⟩
theorem knX11_asTold : aKV kX11_asTold 0 := ⟨⟨List.mem_of_getElem? (i := 1025) (by decide +kernel), List.mem_of_getElem? (i := 64) (by decide +kernel), by decide +kernel, by decide, by decide +kernel⟩, List.mem_of_getElem? (i := 1023) (by decide +kernel), List.mem_of_getElem? (i := 1024) (by decide +kernel)⟩
theorem knX11_place : aKS kX11_place 3 := ⟨⟨List.mem_of_getElem? (i := 1033) (by decide +kernel), List.mem_of_getElem? (i := 64) (by decide +kernel), by decide +kernel, by decide, by decide +kernel⟩, List.mem_of_getElem? (i := 1032) (by decide +kernel)⟩
theorem knX11_goes : aKV kX11_goes 2 := ⟨⟨List.mem_of_getElem? (i := 1037) (by decide +kernel), List.mem_of_getElem? (i := 64) (by decide +kernel), by decide +kernel, by decide, by decide +kernel⟩, List.mem_of_getElem? (i := 1036) (by decide +kernel), List.mem_of_getElem? (i := 50) (by decide +kernel)⟩
theorem knX11_anyOf : aKV kX11_anyOf 2 := ⟨⟨List.mem_of_getElem? (i := 1041) (by decide +kernel), List.mem_of_getElem? (i := 64) (by decide +kernel), by decide +kernel, by decide, by decide +kernel⟩, List.mem_of_getElem? (i := 1040) (by decide +kernel), List.mem_of_getElem? (i := 51) (by decide +kernel)⟩
theorem knX11_soonest : aKV kX11_soonest 3 := ⟨⟨List.mem_of_getElem? (i := 1029) (by decide +kernel), List.mem_of_getElem? (i := 64) (by decide +kernel), by decide +kernel, by decide, by decide +kernel⟩, List.mem_of_getElem? (i := 1027) (by decide +kernel), List.mem_of_getElem? (i := 1028) (by decide +kernel)⟩
theorem knX11_rate : aKV kX11_rate 2 := ⟨⟨List.mem_of_getElem? (i := 1045) (by decide +kernel), List.mem_of_getElem? (i := 64) (by decide +kernel), by decide +kernel, by decide, by decide +kernel⟩, List.mem_of_getElem? (i := 1043) (by decide +kernel), List.mem_of_getElem? (i := 1044) (by decide +kernel)⟩
theorem knX11_keep : aKV kX11_keep 1 := ⟨⟨List.mem_of_getElem? (i := 1056) (by decide +kernel), List.mem_of_getElem? (i := 64) (by decide +kernel), by decide +kernel, by decide, by decide +kernel⟩, List.mem_of_getElem? (i := 1054) (by decide +kernel), List.mem_of_getElem? (i := 1055) (by decide +kernel)⟩
theorem knX11_back : aKV kX11_back 1 := ⟨⟨List.mem_of_getElem? (i := 1060) (by decide +kernel), List.mem_of_getElem? (i := 64) (by decide +kernel), by decide +kernel, by decide, by decide +kernel⟩, List.mem_of_getElem? (i := 1058) (by decide +kernel), List.mem_of_getElem? (i := 1059) (by decide +kernel)⟩
theorem knX11_count : aKV kX11_count 1 := ⟨⟨List.mem_of_getElem? (i := 1064) (by decide +kernel), List.mem_of_getElem? (i := 64) (by decide +kernel), by decide +kernel, by decide, by decide +kernel⟩, List.mem_of_getElem? (i := 1062) (by decide +kernel), List.mem_of_getElem? (i := 1063) (by decide +kernel)⟩
theorem knX11_trace : aKV kX11_trace 0 := ⟨⟨List.mem_of_getElem? (i := 1068) (by decide +kernel), List.mem_of_getElem? (i := 64) (by decide +kernel), by decide +kernel, by decide, by decide +kernel⟩, List.mem_of_getElem? (i := 1066) (by decide +kernel), List.mem_of_getElem? (i := 1067) (by decide +kernel)⟩
theorem knJ6_bitCount_0f7a4 : aKS kJ6_bitCount_0f7a4 1 := ⟨⟨List.mem_of_getElem? (i := 584) (by decide +kernel), List.mem_of_getElem? (i := 67) (by decide +kernel), by decide +kernel, by decide, by decide +kernel⟩, List.mem_of_getElem? (i := 583) (by decide +kernel)⟩
theorem mlX10_3 : Cond.methodLink RX10 3 ⟨"java/lang/Object", "<init>", "()V"⟩ ∈ lw_tbl := List.mem_of_getElem? (i := 73) (by decide +kernel)
theorem mlX10_11 : Cond.methodLinkNest RX10 11 yX5_init "ShoesAtLaw" ∈ lw_tbl := List.mem_of_getElem? (i := 78) (by decide +kernel)
theorem mlX10_18 : Cond.methodLink RX10 18 yX6_init ∈ lw_tbl := List.mem_of_getElem? (i := 111) (by decide +kernel)
theorem mlX10_28 : Cond.methodLinkNest RX10 28 yX3_init "ShoesAtLaw" ∈ lw_tbl := List.mem_of_getElem? (i := 156) (by decide +kernel)
theorem mlX10_41 : Cond.methodLinkNest RX10 41 yX4_init "ShoesAtLaw" ∈ lw_tbl := List.mem_of_getElem? (i := 176) (by decide +kernel)
theorem mlX10_65 : Cond.methodLinkNest RX10 65 yX1_init "ShoesAtLaw" ∈ lw_tbl := List.mem_of_getElem? (i := 204) (by decide +kernel)
theorem mlX10_68 : Cond.methodLinkNest RX10 68 yX0_init "ShoesAtLaw" ∈ lw_tbl := List.mem_of_getElem? (i := 211) (by decide +kernel)
theorem mlX10_71 : Cond.methodLinkNest RX10 71 yX9_init "ShoesAtLaw" ∈ lw_tbl := List.mem_of_getElem? (i := 218) (by decide +kernel)
theorem mlX10_74 : Cond.methodLinkNest RX10 74 yX2_init "ShoesAtLaw" ∈ lw_tbl := List.mem_of_getElem? (i := 225) (by decide +kernel)
theorem mlX10_77 : Cond.methodLinkNest RX10 77 yX8_init "ShoesAtLaw" ∈ lw_tbl := List.mem_of_getElem? (i := 232) (by decide +kernel)
theorem mlX10_80 : Cond.methodLinkNest RX10 80 yX7_init "ShoesAtLaw" ∈ lw_tbl := List.mem_of_getElem? (i := 239) (by decide +kernel)
theorem mlX10_81 : Cond.methodLink RX10 81 yX10_beginAnew ∈ lw_tbl := List.mem_of_getElem? (i := 244) (by decide +kernel)
theorem mlX10_84 : Cond.methodLink RX10 84 yX5_add ∈ lw_tbl := List.mem_of_getElem? (i := 311) (by decide +kernel)
theorem mlX10_92 : Cond.methodLink RX10 92 yX5_empty ∈ lw_tbl := List.mem_of_getElem? (i := 319) (by decide +kernel)
theorem mlX10_95 : Cond.methodLink RX10 95 yX5_read ∈ lw_tbl := List.mem_of_getElem? (i := 327) (by decide +kernel)
theorem mlX10_99 : Cond.methodLink RX10 99 yX6_weigh ∈ lw_tbl := List.mem_of_getElem? (i := 382) (by decide +kernel)
theorem mlX10_102 : Cond.methodLink RX10 102 yX10_isGood ∈ lw_tbl := List.mem_of_getElem? (i := 409) (by decide +kernel)
theorem mlX10_105 : Cond.methodLink RX10 105 yX3_whose ∈ lw_tbl := List.mem_of_getElem? (i := 413) (by decide +kernel)
theorem mlX10_109 : Cond.methodLink RX10 109 yX6_worthOf ∈ lw_tbl := List.mem_of_getElem? (i := 417) (by decide +kernel)
theorem mlX10_113 : Cond.methodLink RX10 113 yX10_isSide ∈ lw_tbl := List.mem_of_getElem? (i := 422) (by decide +kernel)
theorem mlX10_116 : Cond.methodLink RX10 116 yX6_all ∈ lw_tbl := List.mem_of_getElem? (i := 423) (by decide +kernel)
theorem mlX10_120 : Cond.methodLink RX10 120 yX6_valueOf ∈ lw_tbl := List.mem_of_getElem? (i := 424) (by decide +kernel)
theorem mlX10_132 : Cond.methodLink RX10 132 yX3_setOf ∈ lw_tbl := List.mem_of_getElem? (i := 432) (by decide +kernel)
theorem mlX10_135 : Cond.methodLink RX10 135 yX3_put ∈ lw_tbl := List.mem_of_getElem? (i := 440) (by decide +kernel)
theorem mlX10_139 : Cond.methodLink RX10 139 yX10_remember ∈ lw_tbl := List.mem_of_getElem? (i := 444) (by decide +kernel)
theorem mlX10_143 : Cond.methodLink RX10 143 yX3_stepsOf ∈ lw_tbl := List.mem_of_getElem? (i := 455) (by decide +kernel)
theorem mlX10_146 : Cond.methodLink RX10 146 yX3_walk ∈ lw_tbl := List.mem_of_getElem? (i := 463) (by decide +kernel)
theorem mlX10_149 : Cond.methodLink RX10 149 yX6_cellBehind ∈ lw_tbl := List.mem_of_getElem? (i := 467) (by decide +kernel)
theorem mlX10_152 : Cond.methodLink RX10 152 yX6_wear ∈ lw_tbl := List.mem_of_getElem? (i := 471) (by decide +kernel)
theorem mlX10_155 : Cond.methodLink RX10 155 yX3_unwalk ∈ lw_tbl := List.mem_of_getElem? (i := 479) (by decide +kernel)
theorem mlX10_158 : Cond.methodLink RX10 158 yX10_envyOf ∈ lw_tbl := List.mem_of_getElem? (i := 487) (by decide +kernel)
theorem mlX10_161 : Cond.methodLink RX10 161 yX4_fairCount ∈ lw_tbl := List.mem_of_getElem? (i := 502) (by decide +kernel)
theorem mlX10_164 : Cond.methodLink RX10 164 yX4_best ∈ lw_tbl := List.mem_of_getElem? (i := 520) (by decide +kernel)
theorem mlX10_167 : Cond.methodLink RX10 167 yX4_total ∈ lw_tbl := List.mem_of_getElem? (i := 528) (by decide +kernel)
theorem mlX10_171 : Cond.methodLink RX10 171 yX4_mostTotal ∈ lw_tbl := List.mem_of_getElem? (i := 529) (by decide +kernel)
theorem mlX10_174 : Cond.methodLink RX10 174 yX4_bestCut ∈ lw_tbl := List.mem_of_getElem? (i := 538) (by decide +kernel)
theorem mlX10_177 : Cond.methodLink RX10 177 yX4_leftToCutter ∈ lw_tbl := List.mem_of_getElem? (i := 546) (by decide +kernel)
theorem mlX10_181 : Cond.methodLinkNest RX10 181 yX4_outcome "ShoesAtLaw" ∈ lw_tbl := List.mem_of_getElem? (i := 551) (by decide +kernel)
theorem mlX10_185 : Cond.methodLink RX10 185 yX6_ownIn ∈ lw_tbl := List.mem_of_getElem? (i := 556) (by decide +kernel)
theorem mlX10_188 : Cond.methodLink RX10 188 yX4_seekLie ∈ lw_tbl := List.mem_of_getElem? (i := 561) (by decide +kernel)
theorem mlX10_198 : Cond.methodLink RX10 198 yX4_greatestSale ∈ lw_tbl := List.mem_of_getElem? (i := 578) (by decide +kernel)
theorem mlX10_201 : Cond.methodLink RX10 201 yX6_worthAlone ∈ lw_tbl := List.mem_of_getElem? (i := 592) (by decide +kernel)
theorem mlX10_204 : Cond.methodLink RX10 204 yX4_fairLots ∈ lw_tbl := List.mem_of_getElem? (i := 597) (by decide +kernel)
theorem mlX10_207 : Cond.methodLink RX10 207 yX10_power ∈ lw_tbl := List.mem_of_getElem? (i := 604) (by decide +kernel)
theorem mlX10_210 : Cond.methodLink RX10 210 yX10_greatestDivisor ∈ lw_tbl := List.mem_of_getElem? (i := 605) (by decide +kernel)
theorem mlX10_213 : Cond.methodLink RX10 213 yX3_footOf ∈ lw_tbl := List.mem_of_getElem? (i := 613) (by decide +kernel)
theorem mlX10_216 : Cond.methodLink RX10 216 yX10_isCell ∈ lw_tbl := List.mem_of_getElem? (i := 618) (by decide +kernel)
theorem mlX10_222 : Cond.methodLink RX10 222 yX3_firstRunOver ∈ lw_tbl := List.mem_of_getElem? (i := 626) (by decide +kernel)
theorem mlX10_225 : Cond.methodLink RX10 225 yX3_longestRun ∈ lw_tbl := List.mem_of_getElem? (i := 634) (by decide +kernel)
theorem mlX10_228 : Cond.methodLink RX10 228 yX3_changes ∈ lw_tbl := List.mem_of_getElem? (i := 639) (by decide +kernel)
theorem mlX10_234 : Cond.methodLink RX10 234 yX10_agrees ∈ lw_tbl := List.mem_of_getElem? (i := 655) (by decide +kernel)
theorem mlX10_238 : Cond.methodLink RX10 238 yX10_canBeWalked ∈ lw_tbl := List.mem_of_getElem? (i := 667) (by decide +kernel)
theorem mlX10_242 : Cond.methodLink RX10 242 yX1_verdict ∈ lw_tbl := List.mem_of_getElem? (i := 676) (by decide +kernel)
theorem mlX10_246 : Cond.methodLink RX10 246 yX10_imageOf ∈ lw_tbl := List.mem_of_getElem? (i := 715) (by decide +kernel)
theorem mlX10_250 : Cond.methodLink RX10 250 yX3_become ∈ lw_tbl := List.mem_of_getElem? (i := 719) (by decide +kernel)
theorem mlX10_268 : Cond.methodLink RX10 268 yX3_begin ∈ lw_tbl := List.mem_of_getElem? (i := 248) (by decide +kernel)
theorem mlX10_271 : Cond.methodLink RX10 271 ⟨"java/lang/System", "arraycopy", "(Ljava/lang/Object;ILjava/lang/Object;II)V"⟩ ∈ lw_tbl := List.mem_of_getElem? (i := 448) (by decide +kernel)
theorem mlX10_277 : Cond.methodLink RX10 277 yX10_ownValue ∈ lw_tbl := List.mem_of_getElem? (i := 491) (by decide +kernel)
theorem mlX10_280 : Cond.methodLink RX10 280 yJ9_max_7cf53 ∈ lw_tbl := List.mem_of_getElem? (i := 495) (by decide +kernel)
theorem mlX0_1 : Cond.methodLinkNest RX0 1 yX1_init "ShoesAtLaw" ∈ lw_tbl := List.mem_of_getElem? (i := 214) (by decide +kernel)
theorem mlX0_15 : Cond.methodLink RX0 15 yX1_verdict ∈ lw_tbl := List.mem_of_getElem? (i := 684) (by decide +kernel)
theorem mlX0_23 : Cond.methodLink RX0 23 yX3_stepsOf ∈ lw_tbl := List.mem_of_getElem? (i := 685) (by decide +kernel)
theorem mlX1_1 : Cond.methodLink RX1 1 ⟨"java/lang/Object", "<init>", "()V"⟩ ∈ lw_tbl := List.mem_of_getElem? (i := 207) (by decide +kernel)
theorem mlX1_13 : Cond.methodLinkNest RX1 13 yX10_ownValue "ShoesAtLaw" ∈ lw_tbl := List.mem_of_getElem? (i := 710) (by decide +kernel)
theorem mlX2_1 : Cond.methodLinkNest RX2 1 yX0_init "ShoesAtLaw" ∈ lw_tbl := List.mem_of_getElem? (i := 228) (by decide +kernel)
theorem mlX2_15 : Cond.methodLink RX2 15 yX0_verdict ∈ lw_tbl := List.mem_of_getElem? (i := 690) (by decide +kernel)
theorem mlX3_3 : Cond.methodLink RX3 3 ⟨"java/lang/Object", "<init>", "()V"⟩ ∈ lw_tbl := List.mem_of_getElem? (i := 159) (by decide +kernel)
theorem mlX3_22 : Cond.methodLink RX3 22 ⟨"java/lang/System", "arraycopy", "(Ljava/lang/Object;ILjava/lang/Object;II)V"⟩ ∈ lw_tbl := List.mem_of_getElem? (i := 723) (by decide +kernel)
theorem mlX3_28 : Cond.methodLink RX3 28 yX3_footOf ∈ lw_tbl := List.mem_of_getElem? (i := 459) (by decide +kernel)
theorem mlX3_32 : Cond.methodLink RX3 32 yX3_changesAt ∈ lw_tbl := List.mem_of_getElem? (i := 630) (by decide +kernel)
theorem mlX3_36 : Cond.methodLink RX3 36 yJ9_max_7cf53 ∈ lw_tbl := List.mem_of_getElem? (i := 638) (by decide +kernel)
theorem mlX4_3 : Cond.methodLink RX4 3 ⟨"java/lang/Object", "<init>", "()V"⟩ ∈ lw_tbl := List.mem_of_getElem? (i := 179) (by decide +kernel)
theorem mlX4_21 : Cond.methodLink RX4 21 yX6_ownIn ∈ lw_tbl := List.mem_of_getElem? (i := 515) (by decide +kernel)
theorem mlX4_27 : Cond.methodLink RX4 27 yX6_valueOf ∈ lw_tbl := List.mem_of_getElem? (i := 519) (by decide +kernel)
theorem mlX4_30 : Cond.methodLink RX4 30 yX6_all ∈ lw_tbl := List.mem_of_getElem? (i := 506) (by decide +kernel)
theorem mlX4_34 : Cond.methodLink RX4 34 yX4_lead ∈ lw_tbl := List.mem_of_getElem? (i := 511) (by decide +kernel)
theorem mlX4_38 : Cond.methodLink RX4 38 yX4_isFair ∈ lw_tbl := List.mem_of_getElem? (i := 507) (by decide +kernel)
theorem mlX4_42 : Cond.methodLink RX4 42 yX4_total ∈ lw_tbl := List.mem_of_getElem? (i := 524) (by decide +kernel)
theorem mlX4_46 : Cond.methodLink RX4 46 yJ9_max_7cf53 ∈ lw_tbl := List.mem_of_getElem? (i := 533) (by decide +kernel)
theorem mlX4_51 : Cond.methodLink RX4 51 yX4_leftToCutter ∈ lw_tbl := List.mem_of_getElem? (i := 542) (by decide +kernel)
theorem mlX4_58 : Cond.methodLink RX4 58 yX4_outcome ∈ lw_tbl := List.mem_of_getElem? (i := 555) (by decide +kernel)
theorem mlX4_68 : Cond.methodLink RX4 68 yX4_listOthersFair ∈ lw_tbl := List.mem_of_getElem? (i := 565) (by decide +kernel)
theorem mlX4_72 : Cond.methodLink RX4 72 yX4_ownInBestTold ∈ lw_tbl := List.mem_of_getElem? (i := 569) (by decide +kernel)
theorem mlX4_75 : Cond.methodLink RX4 75 yX6_worthOf ∈ lw_tbl := List.mem_of_getElem? (i := 573) (by decide +kernel)
theorem mlX4_81 : Cond.methodLink RX4 81 yJ6_bitCount_0f7a4 ∈ lw_tbl := List.mem_of_getElem? (i := 582) (by decide +kernel)
theorem mlX4_87 : Cond.methodLinkNest RX4 87 yX10_power "ShoesAtLaw" ∈ lw_tbl := List.mem_of_getElem? (i := 601) (by decide +kernel)
theorem mlX5_3 : Cond.methodLink RX5 3 ⟨"java/lang/Object", "<init>", "()V"⟩ ∈ lw_tbl := List.mem_of_getElem? (i := 81) (by decide +kernel)
theorem mlX5_19 : Cond.methodLink RX5 19 yX6_begin ∈ lw_tbl := List.mem_of_getElem? (i := 331) (by decide +kernel)
theorem mlX5_34 : Cond.methodLink RX5 34 yX5_nextToken ∈ lw_tbl := List.mem_of_getElem? (i := 332) (by decide +kernel)
theorem mlX5_40 : Cond.methodLink RX5 40 yX5_readGood ∈ lw_tbl := List.mem_of_getElem? (i := 350) (by decide +kernel)
theorem mlX5_44 : Cond.methodLink RX5 44 yX5_readPair ∈ lw_tbl := List.mem_of_getElem? (i := 366) (by decide +kernel)
theorem mlX5_47 : Cond.methodLink RX5 47 yX5_readHops ∈ lw_tbl := List.mem_of_getElem? (i := 374) (by decide +kernel)
theorem mlX5_50 : Cond.methodLink RX5 50 yX5_readCells ∈ lw_tbl := List.mem_of_getElem? (i := 378) (by decide +kernel)
theorem mlX5_59 : Cond.methodLink RX5 59 yX5_nextNumber ∈ lw_tbl := List.mem_of_getElem? (i := 354) (by decide +kernel)
theorem mlX5_66 : Cond.methodLink RX5 66 yX6_addGood ∈ lw_tbl := List.mem_of_getElem? (i := 358) (by decide +kernel)
theorem mlX5_70 : Cond.methodLink RX5 70 yX5_nextEnds ∈ lw_tbl := List.mem_of_getElem? (i := 362) (by decide +kernel)
theorem mlX5_77 : Cond.methodLink RX5 77 yX6_addPair ∈ lw_tbl := List.mem_of_getElem? (i := 370) (by decide +kernel)
theorem mlX5_87 : Cond.methodLink RX5 87 yX5_letterAt ∈ lw_tbl := List.mem_of_getElem? (i := 336) (by decide +kernel)
theorem mlX5_91 : Cond.methodLink RX5 91 yX5_isDigit ∈ lw_tbl := List.mem_of_getElem? (i := 340) (by decide +kernel)
theorem mlX5_95 : Cond.methodLink RX5 95 yX5_takeNumber ∈ lw_tbl := List.mem_of_getElem? (i := 343) (by decide +kernel)
theorem mlX5_98 : Cond.methodLink RX5 98 yJ9_min_7cf53 ∈ lw_tbl := List.mem_of_getElem? (i := 347) (by decide +kernel)
theorem mlX6_3 : Cond.methodLink RX6 3 ⟨"java/lang/Object", "<init>", "()V"⟩ ∈ lw_tbl := List.mem_of_getElem? (i := 114) (by decide +kernel)
theorem mlX6_24 : Cond.methodLink RX6 24 yX6_begin ∈ lw_tbl := List.mem_of_getElem? (i := 115) (by decide +kernel)
theorem mlX6_40 : Cond.methodLink RX6 40 yX6_all ∈ lw_tbl := List.mem_of_getElem? (i := 386) (by decide +kernel)
theorem mlX6_44 : Cond.methodLink RX6 44 yX6_worthAlone ∈ lw_tbl := List.mem_of_getElem? (i := 390) (by decide +kernel)
theorem mlX6_48 : Cond.methodLink RX6 48 yX6_moreOf ∈ lw_tbl := List.mem_of_getElem? (i := 401) (by decide +kernel)
theorem mlX6_51 : Cond.methodLinkNest RX6 51 yX10_isSide "ShoesAtLaw" ∈ lw_tbl := List.mem_of_getElem? (i := 398) (by decide +kernel)
theorem mlX6_55 : Cond.methodLink RX6 55 yX6_worthOf ∈ lw_tbl := List.mem_of_getElem? (i := 394) (by decide +kernel)
theorem mlX7_3 : Cond.methodLinkNest RX7 3 yX1_init "ShoesAtLaw" ∈ lw_tbl := List.mem_of_getElem? (i := 242) (by decide +kernel)
theorem mlX7_15 : Cond.methodLink RX7 15 yX1_verdict ∈ lw_tbl := List.mem_of_getElem? (i := 695) (by decide +kernel)
theorem mlX7_33 : Cond.methodLink RX7 33 yX3_setOf ∈ lw_tbl := List.mem_of_getElem? (i := 696) (by decide +kernel)
theorem mlX7_39 : Cond.methodLink RX7 39 yJ6_bitCount_0f7a4 ∈ lw_tbl := List.mem_of_getElem? (i := 697) (by decide +kernel)
theorem mlX8_1 : Cond.methodLinkNest RX8 1 yX9_init "ShoesAtLaw" ∈ lw_tbl := List.mem_of_getElem? (i := 235) (by decide +kernel)
theorem mlX8_15 : Cond.methodLink RX8 15 yX9_verdict ∈ lw_tbl := List.mem_of_getElem? (i := 702) (by decide +kernel)
theorem mlX9_1 : Cond.methodLinkNest RX9 1 yX1_init "ShoesAtLaw" ∈ lw_tbl := List.mem_of_getElem? (i := 221) (by decide +kernel)
theorem mlX9_15 : Cond.methodLink RX9 15 yX1_verdict ∈ lw_tbl := List.mem_of_getElem? (i := 706) (by decide +kernel)
theorem mlX9_19 : Cond.methodLinkNest RX9 19 yX10_envyOf "ShoesAtLaw" ∈ lw_tbl := List.mem_of_getElem? (i := 707) (by decide +kernel)
theorem mlL_9 : Cond.methodLink RL 9 yX10_init ∈ lw_tbl := List.mem_of_getElem? (i := 70) (by decide +kernel)
theorem mlL_12 : Cond.methodLink RL 12 yX11_init ∈ lw_tbl := List.mem_of_getElem? (i := 738) (by decide +kernel)
theorem mlL_13 : Cond.methodLink RL 13 yX10_type ∈ lw_tbl := List.mem_of_getElem? (i := 307) (by decide +kernel)
theorem mlL_17 : Cond.methodLink RL 17 yX11_type ∈ lw_tbl := List.mem_of_getElem? (i := 811) (by decide +kernel)
theorem mlL_18 : Cond.methodLink RL 18 yX10_clear ∈ lw_tbl := List.mem_of_getElem? (i := 315) (by decide +kernel)
theorem mlL_22 : Cond.methodLink RL 22 yX11_clear ∈ lw_tbl := List.mem_of_getElem? (i := 819) (by decide +kernel)
theorem mlL_23 : Cond.methodLink RL 23 yX10_suit ∈ lw_tbl := List.mem_of_getElem? (i := 323) (by decide +kernel)
theorem mlL_26 : Cond.methodLink RL 26 yX11_suit ∈ lw_tbl := List.mem_of_getElem? (i := 823) (by decide +kernel)
theorem mlL_27 : Cond.methodLink RL 27 yX10_good ∈ lw_tbl := List.mem_of_getElem? (i := 405) (by decide +kernel)
theorem mlL_31 : Cond.methodLink RL 31 yX11_good ∈ lw_tbl := List.mem_of_getElem? (i := 860) (by decide +kernel)
theorem mlL_32 : Cond.methodLink RL 32 yX10_values ∈ lw_tbl := List.mem_of_getElem? (i := 418) (by decide +kernel)
theorem mlL_35 : Cond.methodLink RL 35 yX11_values ∈ lw_tbl := List.mem_of_getElem? (i := 869) (by decide +kernel)
theorem mlL_36 : Cond.methodLink RL 36 yX10_now ∈ lw_tbl := List.mem_of_getElem? (i := 428) (by decide +kernel)
theorem mlL_39 : Cond.methodLink RL 39 yX11_now ∈ lw_tbl := List.mem_of_getElem? (i := 884) (by decide +kernel)
theorem mlL_40 : Cond.methodLink RL 40 yX10_gives ∈ lw_tbl := List.mem_of_getElem? (i := 436) (by decide +kernel)
theorem mlL_43 : Cond.methodLink RL 43 yX11_gives ∈ lw_tbl := List.mem_of_getElem? (i := 892) (by decide +kernel)
theorem mlL_44 : Cond.methodLink RL 44 yX10_steps ∈ lw_tbl := List.mem_of_getElem? (i := 451) (by decide +kernel)
theorem mlL_47 : Cond.methodLink RL 47 yX11_steps ∈ lw_tbl := List.mem_of_getElem? (i := 903) (by decide +kernel)
theorem mlL_48 : Cond.methodLink RL 48 yX10_undo ∈ lw_tbl := List.mem_of_getElem? (i := 475) (by decide +kernel)
theorem mlL_51 : Cond.methodLink RL 51 yX11_undo ∈ lw_tbl := List.mem_of_getElem? (i := 919) (by decide +kernel)
theorem mlL_52 : Cond.methodLink RL 52 yX10_envy ∈ lw_tbl := List.mem_of_getElem? (i := 483) (by decide +kernel)
theorem mlL_55 : Cond.methodLink RL 55 yX11_envy ∈ lw_tbl := List.mem_of_getElem? (i := 923) (by decide +kernel)
theorem mlL_56 : Cond.methodLink RL 56 yX10_fair ∈ lw_tbl := List.mem_of_getElem? (i := 498) (by decide +kernel)
theorem mlL_59 : Cond.methodLink RL 59 yX11_fair ∈ lw_tbl := List.mem_of_getElem? (i := 931) (by decide +kernel)
theorem mlL_60 : Cond.methodLink RL 60 yX10_cut ∈ lw_tbl := List.mem_of_getElem? (i := 534) (by decide +kernel)
theorem mlL_63 : Cond.methodLink RL 63 yX11_cut ∈ lw_tbl := List.mem_of_getElem? (i := 948) (by decide +kernel)
theorem mlL_64 : Cond.methodLink RL 64 yX10_byTurns ∈ lw_tbl := List.mem_of_getElem? (i := 547) (by decide +kernel)
theorem mlL_67 : Cond.methodLink RL 67 yX11_byTurns ∈ lw_tbl := List.mem_of_getElem? (i := 952) (by decide +kernel)
theorem mlL_68 : Cond.methodLink RL 68 yX10_lies ∈ lw_tbl := List.mem_of_getElem? (i := 557) (by decide +kernel)
theorem mlL_71 : Cond.methodLink RL 71 yX11_lies ∈ lw_tbl := List.mem_of_getElem? (i := 967) (by decide +kernel)
theorem mlL_72 : Cond.methodLink RL 72 yX10_sell ∈ lw_tbl := List.mem_of_getElem? (i := 574) (by decide +kernel)
theorem mlL_75 : Cond.methodLink RL 75 yX11_sell ∈ lw_tbl := List.mem_of_getElem? (i := 975) (by decide +kernel)
theorem mlL_76 : Cond.methodLink RL 76 yX10_adds ∈ lw_tbl := List.mem_of_getElem? (i := 588) (by decide +kernel)
theorem mlL_79 : Cond.methodLink RL 79 yX11_adds ∈ lw_tbl := List.mem_of_getElem? (i := 980) (by decide +kernel)
theorem mlL_80 : Cond.methodLink RL 80 yX10_odds ∈ lw_tbl := List.mem_of_getElem? (i := 593) (by decide +kernel)
theorem mlL_83 : Cond.methodLink RL 83 yX11_odds ∈ lw_tbl := List.mem_of_getElem? (i := 984) (by decide +kernel)
theorem mlL_84 : Cond.methodLink RL 84 yX10_foot ∈ lw_tbl := List.mem_of_getElem? (i := 609) (by decide +kernel)
theorem mlL_87 : Cond.methodLink RL 87 yX11_foot ∈ lw_tbl := List.mem_of_getElem? (i := 989) (by decide +kernel)
theorem mlL_88 : Cond.methodLink RL 88 yX10_worn ∈ lw_tbl := List.mem_of_getElem? (i := 614) (by decide +kernel)
theorem mlL_91 : Cond.methodLink RL 91 yX11_worn ∈ lw_tbl := List.mem_of_getElem? (i := 993) (by decide +kernel)
theorem mlL_92 : Cond.methodLink RL 92 yX10_judge ∈ lw_tbl := List.mem_of_getElem? (i := 622) (by decide +kernel)
theorem mlL_95 : Cond.methodLink RL 95 yX11_judge ∈ lw_tbl := List.mem_of_getElem? (i := 1001) (by decide +kernel)
theorem mlL_96 : Cond.methodLink RL 96 yX10_saw ∈ lw_tbl := List.mem_of_getElem? (i := 643) (by decide +kernel)
theorem mlL_100 : Cond.methodLink RL 100 yX11_saw ∈ lw_tbl := List.mem_of_getElem? (i := 1005) (by decide +kernel)
theorem mlL_101 : Cond.methodLink RL 101 yX10_forget ∈ lw_tbl := List.mem_of_getElem? (i := 647) (by decide +kernel)
theorem mlL_104 : Cond.methodLink RL 104 yX11_forget ∈ lw_tbl := List.mem_of_getElem? (i := 1010) (by decide +kernel)
theorem mlL_105 : Cond.methodLink RL 105 yX10_wrong ∈ lw_tbl := List.mem_of_getElem? (i := 651) (by decide +kernel)
theorem mlL_108 : Cond.methodLink RL 108 yX11_wrong ∈ lw_tbl := List.mem_of_getElem? (i := 1014) (by decide +kernel)
theorem mlL_109 : Cond.methodLink RL 109 yX10_asTold ∈ lw_tbl := List.mem_of_getElem? (i := 659) (by decide +kernel)
theorem mlL_112 : Cond.methodLink RL 112 yX11_asTold ∈ lw_tbl := List.mem_of_getElem? (i := 1022) (by decide +kernel)
theorem mlL_113 : Cond.methodLink RL 113 yX10_soonest ∈ lw_tbl := List.mem_of_getElem? (i := 663) (by decide +kernel)
theorem mlL_116 : Cond.methodLink RL 116 yX11_soonest ∈ lw_tbl := List.mem_of_getElem? (i := 1026) (by decide +kernel)
theorem mlL_117 : Cond.methodLink RL 117 yX10_rate ∈ lw_tbl := List.mem_of_getElem? (i := 671) (by decide +kernel)
theorem mlL_120 : Cond.methodLink RL 120 yX11_rate ∈ lw_tbl := List.mem_of_getElem? (i := 1042) (by decide +kernel)
theorem mlL_121 : Cond.methodLink RL 121 yX10_keep ∈ lw_tbl := List.mem_of_getElem? (i := 711) (by decide +kernel)
theorem mlL_124 : Cond.methodLink RL 124 yX11_keep ∈ lw_tbl := List.mem_of_getElem? (i := 1053) (by decide +kernel)
theorem mlL_125 : Cond.methodLink RL 125 yX10_back ∈ lw_tbl := List.mem_of_getElem? (i := 724) (by decide +kernel)
theorem mlL_128 : Cond.methodLink RL 128 yX11_back ∈ lw_tbl := List.mem_of_getElem? (i := 1057) (by decide +kernel)
theorem mlL_129 : Cond.methodLink RL 129 yX10_count ∈ lw_tbl := List.mem_of_getElem? (i := 728) (by decide +kernel)
theorem mlL_132 : Cond.methodLink RL 132 yX11_count ∈ lw_tbl := List.mem_of_getElem? (i := 1061) (by decide +kernel)
theorem mlL_133 : Cond.methodLink RL 133 yX10_trace ∈ lw_tbl := List.mem_of_getElem? (i := 732) (by decide +kernel)
theorem mlL_137 : Cond.methodLink RL 137 yX11_trace ∈ lw_tbl := List.mem_of_getElem? (i := 1065) (by decide +kernel)
theorem mlX11_1 : Cond.methodLink RX11 1 ⟨"java/lang/Object", "<init>", "()V"⟩ ∈ lw_tbl := List.mem_of_getElem? (i := 741) (by decide +kernel)
theorem mlX11_50 : Cond.methodLink RX11 50 yX11_clean ∈ lw_tbl := List.mem_of_getElem? (i := 742) (by decide +kernel)
theorem mlX11_54 : Cond.methodLink RX11 54 yX11_begins ∈ lw_tbl := List.mem_of_getElem? (i := 745) (by decide +kernel)
theorem mlX11_57 : Cond.methodLink RX11 57 yX11_in ∈ lw_tbl := List.mem_of_getElem? (i := 816) (by decide +kernel)
theorem mlX11_79 : Cond.methodLink RX11 79 yX11_first ∈ lw_tbl := List.mem_of_getElem? (i := 827) (by decide +kernel)
theorem mlX11_87 : Cond.methodLink RX11 87 yX11_number ∈ lw_tbl := List.mem_of_getElem? (i := 839) (by decide +kernel)
theorem mlX11_91 : Cond.methodLink RX11 91 yX11_ends ∈ lw_tbl := List.mem_of_getElem? (i := 845) (by decide +kernel)
theorem mlX11_97 : Cond.methodLink RX11 97 yX11_has ∈ lw_tbl := List.mem_of_getElem? (i := 857) (by decide +kernel)
theorem mlX11_101 : Cond.methodLink RX11 101 yX11_takesGood ∈ lw_tbl := List.mem_of_getElem? (i := 835) (by decide +kernel)
theorem mlX11_104 : Cond.methodLink RX11 104 yX11_takesPair ∈ lw_tbl := List.mem_of_getElem? (i := 849) (by decide +kernel)
theorem mlX11_107 : Cond.methodLink RX11 107 yX11_takesOne ∈ lw_tbl := List.mem_of_getElem? (i := 853) (by decide +kernel)
theorem mlX11_110 : Cond.methodLink RX11 110 yX11_takesItem ∈ lw_tbl := List.mem_of_getElem? (i := 831) (by decide +kernel)
theorem mlX11_114 : Cond.methodLink RX11 114 yX11_isGood ∈ lw_tbl := List.mem_of_getElem? (i := 864) (by decide +kernel)
theorem mlX11_119 : Cond.methodLink RX11 119 yX11_isTwo ∈ lw_tbl := List.mem_of_getElem? (i := 873) (by decide +kernel)
theorem mlX11_122 : Cond.methodLink RX11 122 yX11_all ∈ lw_tbl := List.mem_of_getElem? (i := 876) (by decide +kernel)
theorem mlX11_125 : Cond.methodLink RX11 125 yX11_valued ∈ lw_tbl := List.mem_of_getElem? (i := 880) (by decide +kernel)
theorem mlX11_129 : Cond.methodLink RX11 129 yX11_goodsOf ∈ lw_tbl := List.mem_of_getElem? (i := 888) (by decide +kernel)
theorem mlX11_133 : Cond.methodLink RX11 133 yX11_copies ∈ lw_tbl := List.mem_of_getElem? (i := 900) (by decide +kernel)
theorem mlX11_137 : Cond.methodLink RX11 137 yX11_remember ∈ lw_tbl := List.mem_of_getElem? (i := 896) (by decide +kernel)
theorem mlX11_140 : Cond.methodLink RX11 140 yX11_footOf ∈ lw_tbl := List.mem_of_getElem? (i := 911) (by decide +kernel)
theorem mlX11_143 : Cond.methodLink RX11 143 yX11_stepsOf ∈ lw_tbl := List.mem_of_getElem? (i := 907) (by decide +kernel)
theorem mlX11_146 : Cond.methodLink RX11 146 yX11_wornBy ∈ lw_tbl := List.mem_of_getElem? (i := 915) (by decide +kernel)
theorem mlX11_150 : Cond.methodLink RX11 150 yX11_envyBy ∈ lw_tbl := List.mem_of_getElem? (i := 927) (by decide +kernel)
theorem mlX11_153 : Cond.methodLink RX11 153 yX11_isFair ∈ lw_tbl := List.mem_of_getElem? (i := 936) (by decide +kernel)
theorem mlX11_156 : Cond.methodLink RX11 156 yX11_together ∈ lw_tbl := List.mem_of_getElem? (i := 944) (by decide +kernel)
theorem mlX11_161 : Cond.methodLink RX11 161 yX11_best ∈ lw_tbl := List.mem_of_getElem? (i := 940) (by decide +kernel)
theorem mlX11_165 : Cond.methodLink RX11 165 yX11_bits ∈ lw_tbl := List.mem_of_getElem? (i := 960) (by decide +kernel)
theorem mlX11_168 : Cond.methodLink RX11 168 yX11_layTake ∈ lw_tbl := List.mem_of_getElem? (i := 963) (by decide +kernel)
theorem mlX11_172 : Cond.methodLink RX11 172 yX11_layTurns ∈ lw_tbl := List.mem_of_getElem? (i := 956) (by decide +kernel)
theorem mlX11_176 : Cond.methodLink RX11 176 yX11_gains ∈ lw_tbl := List.mem_of_getElem? (i := 971) (by decide +kernel)
theorem mlX11_183 : Cond.methodLink RX11 183 yX11_isCell ∈ lw_tbl := List.mem_of_getElem? (i := 997) (by decide +kernel)
theorem mlX11_188 : Cond.methodLink RX11 188 yX11_isSo ∈ lw_tbl := List.mem_of_getElem? (i := 1018) (by decide +kernel)
theorem mlX11_191 : Cond.methodLink RX11 191 yX11_place ∈ lw_tbl := List.mem_of_getElem? (i := 1031) (by decide +kernel)
theorem mlX11_194 : Cond.methodLink RX11 194 yX11_anyOf ∈ lw_tbl := List.mem_of_getElem? (i := 1038) (by decide +kernel)
theorem mlX11_199 : Cond.methodLink RX11 199 yX11_goes ∈ lw_tbl := List.mem_of_getElem? (i := 1034) (by decide +kernel)
theorem mlX11_212 : Cond.methodLink RX11 212 yX11_envy ∈ lw_tbl := List.mem_of_getElem? (i := 1049) (by decide +kernel)
/-- a field by its link: class number, place, final, type -/
def aFl (own : String) (idx ci k : Nat) (fin : Bool) (ty : FieldType) : Prop := ∃ (C : String) (T : u_T) (N : Nat) (tys : Nat → FieldType), vwCl[ci]? = some (C, T, N) ∧ k < N ∧ (∀ w ∈ u_ws C T N, w ∈ lw_gn) ∧ (∀ j, j < N → parseFieldDescriptor (T j).2.2.1 = some (tys j)) ∧ (∀ a, a < N → ∀ b, b < N → a ≠ b → (T a).2.1 ≠ (T b).2.1) ∧ (T k).2.2.2 = fin ∧ parseFieldDescriptor (T k).2.2.1 = some ty ∧ (Cond.fieldLink own idx (T k).1 (T k).2.1 (T k).2.2.1 ∈ lw_tbl ∨ ∃ host, Cond.fieldLinkNest own idx (T k).1 (T k).2.1 (T k).2.2.1 host ∈ lw_tbl)
theorem ui0 : ∀ w ∈ u_ws RX0 TX0 0, w ∈ lw_gn := by decide +kernel
theorem ui1 : ∀ w ∈ u_ws RX1 TX1 0, w ∈ lw_gn := by decide +kernel
theorem ui2 : ∀ w ∈ u_ws RX2 TX2 0, w ∈ lw_gn := by decide +kernel
theorem ui3 : ∀ w ∈ u_ws RX3 TX3 4, w ∈ lw_gn := by decide +kernel
theorem ui4 : ∀ w ∈ u_ws RX4 TX4 6, w ∈ lw_gn := by decide +kernel
theorem ui5 : ∀ w ∈ u_ws RX5 TX5 8, w ∈ lw_gn := by decide +kernel
theorem ui6 : ∀ w ∈ u_ws RX6 TX6 8, w ∈ lw_gn := by decide +kernel
theorem ui7 : ∀ w ∈ u_ws RX7 TX7 0, w ∈ lw_gn := by decide +kernel
theorem ui8 : ∀ w ∈ u_ws RX8 TX8 0, w ∈ lw_gn := by decide +kernel
theorem ui9 : ∀ w ∈ u_ws RX9 TX9 0, w ∈ lw_gn := by decide +kernel
theorem ui10 : ∀ w ∈ u_ws RX10 TX10 15, w ∈ lw_gn := by decide +kernel
theorem ui11 : ∀ w ∈ u_ws RX11 TX11 20, w ∈ lw_gn := by decide +kernel
theorem flX10_12 : aFl RX10 12 10 0 true (.object "ShoesAtLaw$Reader") := ⟨RX10, TX10, 15, tyX10, rfl, by decide, ui10, tyX10_ok, nmX10, rfl, by decide +kernel, Or.inl (List.mem_of_getElem? (i := 252) (by decide +kernel))⟩
theorem flX10_19 : aFl RX10 19 10 1 false (.object "ShoesAtLaw$Suit") := ⟨RX10, TX10, 15, tyX10, rfl, by decide, ui10, tyX10_ok, nmX10, rfl, by decide +kernel, Or.inl (List.mem_of_getElem? (i := 253) (by decide +kernel))⟩
theorem flX10_23 : aFl RX10 23 10 2 false (.object "ShoesAtLaw$Suit") := ⟨RX10, TX10, 15, tyX10, rfl, by decide, ui10, tyX10_ok, nmX10, rfl, by decide +kernel, Or.inl (List.mem_of_getElem? (i := 255) (by decide +kernel))⟩
theorem flX10_29 : aFl RX10 29 10 3 true (.object "ShoesAtLaw$Now") := ⟨RX10, TX10, 15, tyX10, rfl, by decide, ui10, tyX10_ok, nmX10, rfl, by decide +kernel, Or.inl (List.mem_of_getElem? (i := 256) (by decide +kernel))⟩
theorem flX10_33 : aFl RX10 33 10 4 true (.object "ShoesAtLaw$Now") := ⟨RX10, TX10, 15, tyX10, rfl, by decide, ui10, tyX10_ok, nmX10, rfl, by decide +kernel, Or.inl (List.mem_of_getElem? (i := 259) (by decide +kernel))⟩
theorem flX10_36 : aFl RX10 36 10 5 true (.object "ShoesAtLaw$Now") := ⟨RX10, TX10, 15, tyX10, rfl, by decide, ui10, tyX10_ok, nmX10, rfl, by decide +kernel, Or.inl (List.mem_of_getElem? (i := 260) (by decide +kernel))⟩
theorem flX10_42 : aFl RX10 42 10 6 true (.object "ShoesAtLaw$Partings") := ⟨RX10, TX10, 15, tyX10, rfl, by decide, ui10, tyX10_ok, nmX10, rfl, by decide +kernel, Or.inl (List.mem_of_getElem? (i := 261) (by decide +kernel))⟩
theorem flX10_48 : aFl RX10 48 10 7 true (.array (.object "ShoesAtLaw$Judge")) := ⟨RX10, TX10, 15, tyX10, rfl, by decide, ui10, tyX10_ok, nmX10, rfl, by decide +kernel, Or.inl (List.mem_of_getElem? (i := 262) (by decide +kernel))⟩
theorem flX10_52 : aFl RX10 52 10 8 true (.array .int) := ⟨RX10, TX10, 15, tyX10, rfl, by decide, ui10, tyX10_ok, nmX10, rfl, by decide +kernel, Or.inl (List.mem_of_getElem? (i := 263) (by decide +kernel))⟩
theorem flX10_56 : aFl RX10 56 10 10 true (.array .int) := ⟨RX10, TX10, 15, tyX10, rfl, by decide, ui10, tyX10_ok, nmX10, rfl, by decide +kernel, Or.inl (List.mem_of_getElem? (i := 265) (by decide +kernel))⟩
theorem flX10_59 : aFl RX10 59 10 11 true (.array .int) := ⟨RX10, TX10, 15, tyX10, rfl, by decide, ui10, tyX10_ok, nmX10, rfl, by decide +kernel, Or.inl (List.mem_of_getElem? (i := 266) (by decide +kernel))⟩
theorem flX10_62 : aFl RX10 62 10 12 true (.array .int) := ⟨RX10, TX10, 15, tyX10, rfl, by decide, ui10, tyX10_ok, nmX10, rfl, by decide +kernel, Or.inl (List.mem_of_getElem? (i := 267) (by decide +kernel))⟩
theorem flX10_88 : aFl RX10 88 5 1 false .int := ⟨RX5, TX5, 8, tyX5, rfl, by decide, ui5, tyX5_ok, nmX5, rfl, by decide +kernel, Or.inr ⟨"ShoesAtLaw", List.mem_of_getElem? (i := 84) (by decide +kernel)⟩⟩
theorem flX10_123 : aFl RX10 123 3 2 false .int := ⟨RX3, TX3, 4, tyX3, rfl, by decide, ui3, tyX3_ok, nmX3, rfl, by decide +kernel, Or.inr ⟨"ShoesAtLaw", List.mem_of_getElem? (i := 163) (by decide +kernel)⟩⟩
theorem flX10_126 : aFl RX10 126 10 9 false .int := ⟨RX10, TX10, 15, tyX10, rfl, by decide, ui10, tyX10_ok, nmX10, rfl, by decide +kernel, Or.inl (List.mem_of_getElem? (i := 264) (by decide +kernel))⟩
theorem flX10_129 : aFl RX10 129 6 0 false .int := ⟨RX6, TX6, 8, tyX6, rfl, by decide, ui6, tyX6_ok, nmX6, rfl, by decide +kernel, Or.inr ⟨"ShoesAtLaw", List.mem_of_getElem? (i := 122) (by decide +kernel)⟩⟩
theorem flX10_192 : aFl RX10 192 4 4 false .int := ⟨RX4, TX4, 6, tyX4, rfl, by decide, ui4, tyX4_ok, nmX4, rfl, by decide +kernel, Or.inr ⟨"ShoesAtLaw", List.mem_of_getElem? (i := 185) (by decide +kernel)⟩⟩
theorem flX10_195 : aFl RX10 195 4 5 false .int := ⟨RX4, TX4, 6, tyX4, rfl, by decide, ui4, tyX4_ok, nmX4, rfl, by decide +kernel, Or.inr ⟨"ShoesAtLaw", List.mem_of_getElem? (i := 187) (by decide +kernel)⟩⟩
theorem flX10_219 : aFl RX10 219 6 2 false .int := ⟨RX6, TX6, 8, tyX6, rfl, by decide, ui6, tyX6_ok, nmX6, rfl, by decide +kernel, Or.inr ⟨"ShoesAtLaw", List.mem_of_getElem? (i := 129) (by decide +kernel)⟩⟩
theorem flX10_231 : aFl RX10 231 10 13 false .int := ⟨RX10, TX10, 15, tyX10, rfl, by decide, ui10, tyX10_ok, nmX10, rfl, by decide +kernel, Or.inl (List.mem_of_getElem? (i := 268) (by decide +kernel))⟩
theorem flX10_254 : aFl RX10 254 3 3 false .boolean := ⟨RX3, TX3, 4, tyX3, rfl, by decide, ui3, tyX3_ok, nmX3, rfl, by decide +kernel, Or.inr ⟨"ShoesAtLaw", List.mem_of_getElem? (i := 164) (by decide +kernel)⟩⟩
theorem flX10_258 : aFl RX10 258 6 1 false .int := ⟨RX6, TX6, 8, tyX6, rfl, by decide, ui6, tyX6_ok, nmX6, rfl, by decide +kernel, Or.inr ⟨"ShoesAtLaw", List.mem_of_getElem? (i := 126) (by decide +kernel)⟩⟩
theorem flX10_261 : aFl RX10 261 6 3 false .int := ⟨RX6, TX6, 8, tyX6, rfl, by decide, ui6, tyX6_ok, nmX6, rfl, by decide +kernel, Or.inr ⟨"ShoesAtLaw", List.mem_of_getElem? (i := 132) (by decide +kernel)⟩⟩
theorem flX10_264 : aFl RX10 264 10 14 false .long := ⟨RX10, TX10, 15, tyX10, rfl, by decide, ui10, tyX10_ok, nmX10, rfl, by decide +kernel, Or.inl (List.mem_of_getElem? (i := 275) (by decide +kernel))⟩
theorem flX0_7 : aFl RX0 7 10 14 false .long := ⟨RX10, TX10, 15, tyX10, rfl, by decide, ui10, tyX10_ok, nmX10, rfl, by decide +kernel, Or.inr ⟨"ShoesAtLaw", List.mem_of_getElem? (i := 270) (by decide +kernel)⟩⟩
theorem flX0_19 : aFl RX0 19 10 3 true (.object "ShoesAtLaw$Now") := ⟨RX10, TX10, 15, tyX10, rfl, by decide, ui10, tyX10_ok, nmX10, rfl, by decide +kernel, Or.inr ⟨"ShoesAtLaw", List.mem_of_getElem? (i := 257) (by decide +kernel)⟩⟩
theorem flX1_7 : aFl RX1 7 10 14 false .long := ⟨RX10, TX10, 15, tyX10, rfl, by decide, ui10, tyX10_ok, nmX10, rfl, by decide +kernel, Or.inr ⟨"ShoesAtLaw", List.mem_of_getElem? (i := 269) (by decide +kernel)⟩⟩
theorem flX2_7 : aFl RX2 7 10 14 false .long := ⟨RX10, TX10, 15, tyX10, rfl, by decide, ui10, tyX10_ok, nmX10, rfl, by decide +kernel, Or.inr ⟨"ShoesAtLaw", List.mem_of_getElem? (i := 271) (by decide +kernel)⟩⟩
theorem flX3_9 : aFl RX3 9 3 0 true (.array .int) := ⟨RX3, TX3, 4, tyX3, rfl, by decide, ui3, tyX3_ok, nmX3, rfl, by decide +kernel, Or.inl (List.mem_of_getElem? (i := 160) (by decide +kernel))⟩
theorem flX3_15 : aFl RX3 15 3 1 true (.array .int) := ⟨RX3, TX3, 4, tyX3, rfl, by decide, ui3, tyX3_ok, nmX3, rfl, by decide +kernel, Or.inl (List.mem_of_getElem? (i := 161) (by decide +kernel))⟩
theorem flX3_18 : aFl RX3 18 3 2 false .int := ⟨RX3, TX3, 4, tyX3, rfl, by decide, ui3, tyX3_ok, nmX3, rfl, by decide +kernel, Or.inl (List.mem_of_getElem? (i := 162) (by decide +kernel))⟩
theorem flX4_9 : aFl RX4 9 4 0 true (.array .int) := ⟨RX4, TX4, 6, tyX4, rfl, by decide, ui4, tyX4_ok, nmX4, rfl, by decide +kernel, Or.inl (List.mem_of_getElem? (i := 180) (by decide +kernel))⟩
theorem flX4_15 : aFl RX4 15 4 1 true (.array .int) := ⟨RX4, TX4, 6, tyX4, rfl, by decide, ui4, tyX4_ok, nmX4, rfl, by decide +kernel, Or.inl (List.mem_of_getElem? (i := 181) (by decide +kernel))⟩
theorem flX4_18 : aFl RX4 18 4 2 true (.array .int) := ⟨RX4, TX4, 6, tyX4, rfl, by decide, ui4, tyX4_ok, nmX4, rfl, by decide +kernel, Or.inl (List.mem_of_getElem? (i := 182) (by decide +kernel))⟩
theorem flX4_54 : aFl RX4 54 6 0 false .int := ⟨RX6, TX6, 8, tyX6, rfl, by decide, ui6, tyX6_ok, nmX6, rfl, by decide +kernel, Or.inr ⟨"ShoesAtLaw", List.mem_of_getElem? (i := 123) (by decide +kernel)⟩⟩
theorem flX4_62 : aFl RX4 62 4 4 false .int := ⟨RX4, TX4, 6, tyX4, rfl, by decide, ui4, tyX4_ok, nmX4, rfl, by decide +kernel, Or.inl (List.mem_of_getElem? (i := 184) (by decide +kernel))⟩
theorem flX4_65 : aFl RX4 65 4 5 false .int := ⟨RX4, TX4, 6, tyX4, rfl, by decide, ui4, tyX4_ok, nmX4, rfl, by decide +kernel, Or.inl (List.mem_of_getElem? (i := 186) (by decide +kernel))⟩
theorem flX4_78 : aFl RX4 78 4 3 false .int := ⟨RX4, TX4, 6, tyX4, rfl, by decide, ui4, tyX4_ok, nmX4, rfl, by decide +kernel, Or.inl (List.mem_of_getElem? (i := 183) (by decide +kernel))⟩
theorem flX5_9 : aFl RX5 9 5 0 true (.array .int) := ⟨RX5, TX5, 8, tyX5, rfl, by decide, ui5, tyX5_ok, nmX5, rfl, by decide +kernel, Or.inl (List.mem_of_getElem? (i := 82) (by decide +kernel))⟩
theorem flX5_15 : aFl RX5 15 5 1 false .int := ⟨RX5, TX5, 8, tyX5, rfl, by decide, ui5, tyX5_ok, nmX5, rfl, by decide +kernel, Or.inl (List.mem_of_getElem? (i := 83) (by decide +kernel))⟩
theorem flX5_24 : aFl RX5 24 5 2 false .int := ⟨RX5, TX5, 8, tyX5, rfl, by decide, ui5, tyX5_ok, nmX5, rfl, by decide +kernel, Or.inl (List.mem_of_getElem? (i := 85) (by decide +kernel))⟩
theorem flX5_27 : aFl RX5 27 5 6 false .boolean := ⟨RX5, TX5, 8, tyX5, rfl, by decide, ui5, tyX5_ok, nmX5, rfl, by decide +kernel, Or.inl (List.mem_of_getElem? (i := 89) (by decide +kernel))⟩
theorem flX5_31 : aFl RX5 31 5 7 false .boolean := ⟨RX5, TX5, 8, tyX5, rfl, by decide, ui5, tyX5_ok, nmX5, rfl, by decide +kernel, Or.inl (List.mem_of_getElem? (i := 90) (by decide +kernel))⟩
theorem flX5_37 : aFl RX5 37 5 4 false .int := ⟨RX5, TX5, 8, tyX5, rfl, by decide, ui5, tyX5_ok, nmX5, rfl, by decide +kernel, Or.inl (List.mem_of_getElem? (i := 87) (by decide +kernel))⟩
theorem flX5_53 : aFl RX5 53 5 3 false .int := ⟨RX5, TX5, 8, tyX5, rfl, by decide, ui5, tyX5_ok, nmX5, rfl, by decide +kernel, Or.inl (List.mem_of_getElem? (i := 86) (by decide +kernel))⟩
theorem flX5_56 : aFl RX5 56 6 0 false .int := ⟨RX6, TX6, 8, tyX6, rfl, by decide, ui6, tyX6_ok, nmX6, rfl, by decide +kernel, Or.inr ⟨"ShoesAtLaw", List.mem_of_getElem? (i := 121) (by decide +kernel)⟩⟩
theorem flX5_63 : aFl RX5 63 5 5 false .int := ⟨RX5, TX5, 8, tyX5, rfl, by decide, ui5, tyX5_ok, nmX5, rfl, by decide +kernel, Or.inl (List.mem_of_getElem? (i := 88) (by decide +kernel))⟩
theorem flX5_74 : aFl RX5 74 6 1 false .int := ⟨RX6, TX6, 8, tyX6, rfl, by decide, ui6, tyX6_ok, nmX6, rfl, by decide +kernel, Or.inr ⟨"ShoesAtLaw", List.mem_of_getElem? (i := 125) (by decide +kernel)⟩⟩
theorem flX5_81 : aFl RX5 81 6 2 false .int := ⟨RX6, TX6, 8, tyX6, rfl, by decide, ui6, tyX6_ok, nmX6, rfl, by decide +kernel, Or.inr ⟨"ShoesAtLaw", List.mem_of_getElem? (i := 128) (by decide +kernel)⟩⟩
theorem flX5_84 : aFl RX5 84 6 3 false .int := ⟨RX6, TX6, 8, tyX6, rfl, by decide, ui6, tyX6_ok, nmX6, rfl, by decide +kernel, Or.inr ⟨"ShoesAtLaw", List.mem_of_getElem? (i := 131) (by decide +kernel)⟩⟩
theorem flX6_9 : aFl RX6 9 6 4 true (.array .int) := ⟨RX6, TX6, 8, tyX6, rfl, by decide, ui6, tyX6_ok, nmX6, rfl, by decide +kernel, Or.inl (List.mem_of_getElem? (i := 133) (by decide +kernel))⟩
theorem flX6_15 : aFl RX6 15 6 5 true (.array .int) := ⟨RX6, TX6, 8, tyX6, rfl, by decide, ui6, tyX6_ok, nmX6, rfl, by decide +kernel, Or.inl (List.mem_of_getElem? (i := 134) (by decide +kernel))⟩
theorem flX6_18 : aFl RX6 18 6 6 true (.array .int) := ⟨RX6, TX6, 8, tyX6, rfl, by decide, ui6, tyX6_ok, nmX6, rfl, by decide +kernel, Or.inl (List.mem_of_getElem? (i := 135) (by decide +kernel))⟩
theorem flX6_21 : aFl RX6 21 6 7 true (.array .int) := ⟨RX6, TX6, 8, tyX6, rfl, by decide, ui6, tyX6_ok, nmX6, rfl, by decide +kernel, Or.inl (List.mem_of_getElem? (i := 136) (by decide +kernel))⟩
theorem flX6_27 : aFl RX6 27 6 0 false .int := ⟨RX6, TX6, 8, tyX6, rfl, by decide, ui6, tyX6_ok, nmX6, rfl, by decide +kernel, Or.inl (List.mem_of_getElem? (i := 119) (by decide +kernel))⟩
theorem flX6_31 : aFl RX6 31 6 1 false .int := ⟨RX6, TX6, 8, tyX6, rfl, by decide, ui6, tyX6_ok, nmX6, rfl, by decide +kernel, Or.inl (List.mem_of_getElem? (i := 124) (by decide +kernel))⟩
theorem flX6_34 : aFl RX6 34 6 2 false .int := ⟨RX6, TX6, 8, tyX6, rfl, by decide, ui6, tyX6_ok, nmX6, rfl, by decide +kernel, Or.inl (List.mem_of_getElem? (i := 127) (by decide +kernel))⟩
theorem flX6_37 : aFl RX6 37 6 3 false .int := ⟨RX6, TX6, 8, tyX6, rfl, by decide, ui6, tyX6_ok, nmX6, rfl, by decide +kernel, Or.inl (List.mem_of_getElem? (i := 130) (by decide +kernel))⟩
theorem flX7_9 : aFl RX7 9 10 14 false .long := ⟨RX10, TX10, 15, tyX10, rfl, by decide, ui10, tyX10_ok, nmX10, rfl, by decide +kernel, Or.inr ⟨"ShoesAtLaw", List.mem_of_getElem? (i := 272) (by decide +kernel)⟩⟩
theorem flX7_19 : aFl RX7 19 10 3 true (.object "ShoesAtLaw$Now") := ⟨RX10, TX10, 15, tyX10, rfl, by decide, ui10, tyX10_ok, nmX10, rfl, by decide +kernel, Or.inr ⟨"ShoesAtLaw", List.mem_of_getElem? (i := 258) (by decide +kernel)⟩⟩
theorem flX7_23 : aFl RX7 23 10 1 false (.object "ShoesAtLaw$Suit") := ⟨RX10, TX10, 15, tyX10, rfl, by decide, ui10, tyX10_ok, nmX10, rfl, by decide +kernel, Or.inr ⟨"ShoesAtLaw", List.mem_of_getElem? (i := 254) (by decide +kernel)⟩⟩
theorem flX7_27 : aFl RX7 27 6 0 false .int := ⟨RX6, TX6, 8, tyX6, rfl, by decide, ui6, tyX6_ok, nmX6, rfl, by decide +kernel, Or.inr ⟨"ShoesAtLaw", List.mem_of_getElem? (i := 120) (by decide +kernel)⟩⟩
theorem flX8_7 : aFl RX8 7 10 14 false .long := ⟨RX10, TX10, 15, tyX10, rfl, by decide, ui10, tyX10_ok, nmX10, rfl, by decide +kernel, Or.inr ⟨"ShoesAtLaw", List.mem_of_getElem? (i := 273) (by decide +kernel)⟩⟩
theorem flX9_7 : aFl RX9 7 10 14 false .long := ⟨RX10, TX10, 15, tyX10, rfl, by decide, ui10, tyX10_ok, nmX10, rfl, by decide +kernel, Or.inr ⟨"ShoesAtLaw", List.mem_of_getElem? (i := 274) (by decide +kernel)⟩⟩
theorem flX11_7 : aFl RX11 7 11 0 true (.array .int) := ⟨RX11, TX11, 20, tyX11, rfl, by decide, ui11, tyX11_ok, nmX11, rfl, by decide +kernel, Or.inl (List.mem_of_getElem? (i := 749) (by decide +kernel))⟩
theorem flX11_13 : aFl RX11 13 11 1 true (.array .int) := ⟨RX11, TX11, 20, tyX11, rfl, by decide, ui11, tyX11_ok, nmX11, rfl, by decide +kernel, Or.inl (List.mem_of_getElem? (i := 750) (by decide +kernel))⟩
theorem flX11_16 : aFl RX11 16 11 2 true (.array .int) := ⟨RX11, TX11, 20, tyX11, rfl, by decide, ui11, tyX11_ok, nmX11, rfl, by decide +kernel, Or.inl (List.mem_of_getElem? (i := 751) (by decide +kernel))⟩
theorem flX11_19 : aFl RX11 19 11 3 true (.array .int) := ⟨RX11, TX11, 20, tyX11, rfl, by decide, ui11, tyX11_ok, nmX11, rfl, by decide +kernel, Or.inl (List.mem_of_getElem? (i := 752) (by decide +kernel))⟩
theorem flX11_22 : aFl RX11 22 11 5 true (.array .int) := ⟨RX11, TX11, 20, tyX11, rfl, by decide, ui11, tyX11_ok, nmX11, rfl, by decide +kernel, Or.inl (List.mem_of_getElem? (i := 754) (by decide +kernel))⟩
theorem flX11_25 : aFl RX11 25 11 6 true (.array .boolean) := ⟨RX11, TX11, 20, tyX11, rfl, by decide, ui11, tyX11_ok, nmX11, rfl, by decide +kernel, Or.inl (List.mem_of_getElem? (i := 755) (by decide +kernel))⟩
theorem flX11_29 : aFl RX11 29 11 7 true (.array .int) := ⟨RX11, TX11, 20, tyX11, rfl, by decide, ui11, tyX11_ok, nmX11, rfl, by decide +kernel, Or.inl (List.mem_of_getElem? (i := 756) (by decide +kernel))⟩
theorem flX11_32 : aFl RX11 32 11 9 true (.array .int) := ⟨RX11, TX11, 20, tyX11, rfl, by decide, ui11, tyX11_ok, nmX11, rfl, by decide +kernel, Or.inl (List.mem_of_getElem? (i := 758) (by decide +kernel))⟩
theorem flX11_35 : aFl RX11 35 11 15 true (.array .int) := ⟨RX11, TX11, 20, tyX11, rfl, by decide, ui11, tyX11_ok, nmX11, rfl, by decide +kernel, Or.inl (List.mem_of_getElem? (i := 764) (by decide +kernel))⟩
theorem flX11_38 : aFl RX11 38 11 16 true (.array .int) := ⟨RX11, TX11, 20, tyX11, rfl, by decide, ui11, tyX11_ok, nmX11, rfl, by decide +kernel, Or.inl (List.mem_of_getElem? (i := 765) (by decide +kernel))⟩
theorem flX11_41 : aFl RX11 41 11 17 true (.array .int) := ⟨RX11, TX11, 20, tyX11, rfl, by decide, ui11, tyX11_ok, nmX11, rfl, by decide +kernel, Or.inl (List.mem_of_getElem? (i := 766) (by decide +kernel))⟩
theorem flX11_44 : aFl RX11 44 11 18 true (.array .boolean) := ⟨RX11, TX11, 20, tyX11, rfl, by decide, ui11, tyX11_ok, nmX11, rfl, by decide +kernel, Or.inl (List.mem_of_getElem? (i := 767) (by decide +kernel))⟩
theorem flX11_47 : aFl RX11 47 11 19 true (.array .boolean) := ⟨RX11, TX11, 20, tyX11, rfl, by decide, ui11, tyX11_ok, nmX11, rfl, by decide +kernel, Or.inl (List.mem_of_getElem? (i := 768) (by decide +kernel))⟩
theorem flX11_61 : aFl RX11 61 11 4 false .int := ⟨RX11, TX11, 20, tyX11, rfl, by decide, ui11, tyX11_ok, nmX11, rfl, by decide +kernel, Or.inl (List.mem_of_getElem? (i := 753) (by decide +kernel))⟩
theorem flX11_65 : aFl RX11 65 11 10 false .int := ⟨RX11, TX11, 20, tyX11, rfl, by decide, ui11, tyX11_ok, nmX11, rfl, by decide +kernel, Or.inl (List.mem_of_getElem? (i := 759) (by decide +kernel))⟩
theorem flX11_70 : aFl RX11 70 11 8 false .int := ⟨RX11, TX11, 20, tyX11, rfl, by decide, ui11, tyX11_ok, nmX11, rfl, by decide +kernel, Or.inl (List.mem_of_getElem? (i := 757) (by decide +kernel))⟩
theorem flX11_73 : aFl RX11 73 11 12 false .int := ⟨RX11, TX11, 20, tyX11, rfl, by decide, ui11, tyX11_ok, nmX11, rfl, by decide +kernel, Or.inl (List.mem_of_getElem? (i := 761) (by decide +kernel))⟩
theorem flX11_76 : aFl RX11 76 11 13 false .int := ⟨RX11, TX11, 20, tyX11, rfl, by decide, ui11, tyX11_ok, nmX11, rfl, by decide +kernel, Or.inl (List.mem_of_getElem? (i := 762) (by decide +kernel))⟩
theorem flX11_94 : aFl RX11 94 11 14 false .int := ⟨RX11, TX11, 20, tyX11, rfl, by decide, ui11, tyX11_ok, nmX11, rfl, by decide +kernel, Or.inl (List.mem_of_getElem? (i := 763) (by decide +kernel))⟩
theorem flX11_206 : aFl RX11 206 11 11 false .long := ⟨RX11, TX11, 20, tyX11, rfl, by decide, ui11, tyX11_ok, nmX11, rfl, by decide +kernel, Or.inl (List.mem_of_getElem? (i := 760) (by decide +kernel))⟩
theorem kcX10_241 : Cond.constant RX10 241 (-1000000) ∈ lw_tbl := List.mem_of_getElem? (i := 675) (by decide +kernel)
theorem kcX10_285 : Cond.constant RX10 285 (1000000) ∈ lw_tbl := List.mem_of_getElem? (i := 608) (by decide +kernel)
theorem kcX0_13 : Cond.constantLong RX0 13 (10) ∈ lw_tbl := List.mem_of_getElem? (i := 683) (by decide +kernel)
theorem kcX2_13 : Cond.constantLong RX2 13 (1000) ∈ lw_tbl := List.mem_of_getElem? (i := 689) (by decide +kernel)
theorem kcX7_13 : Cond.constantLong RX7 13 (100000) ∈ lw_tbl := List.mem_of_getElem? (i := 694) (by decide +kernel)
theorem kcX8_13 : Cond.constantLong RX8 13 (10000) ∈ lw_tbl := List.mem_of_getElem? (i := 701) (by decide +kernel)
theorem kcX9_13 : Cond.constantLong RX9 13 (100) ∈ lw_tbl := List.mem_of_getElem? (i := 705) (by decide +kernel)
theorem kcX11_68 : Cond.constantLong RX11 68 (255) ∈ lw_tbl := List.mem_of_getElem? (i := 815) (by decide +kernel)
theorem kcX11_83 : Cond.constantLong RX11 83 (48) ∈ lw_tbl := List.mem_of_getElem? (i := 843) (by decide +kernel)
theorem kcX11_85 : Cond.constantLong RX11 85 (57) ∈ lw_tbl := List.mem_of_getElem? (i := 844) (by decide +kernel)
theorem kcX11_117 : Cond.constantLong RX11 117 (2) ∈ lw_tbl := List.mem_of_getElem? (i := 868) (by decide +kernel)
theorem kcX11_159 : Cond.constantLong RX11 159 (3) ∈ lw_tbl := List.mem_of_getElem? (i := 935) (by decide +kernel)
theorem kcX11_179 : Cond.constantLong RX11 179 (9) ∈ lw_tbl := List.mem_of_getElem? (i := 979) (by decide +kernel)
theorem kcX11_181 : Cond.constantLong RX11 181 (10) ∈ lw_tbl := List.mem_of_getElem? (i := 988) (by decide +kernel)
theorem kcX11_186 : Cond.constantLong RX11 186 (60) ∈ lw_tbl := List.mem_of_getElem? (i := 1009) (by decide +kernel)
theorem kcX11_197 : Cond.constantLong RX11 197 (99) ∈ lw_tbl := List.mem_of_getElem? (i := 1030) (by decide +kernel)
theorem kcX11_203 : Cond.constantLong RX11 203 (5) ∈ lw_tbl := List.mem_of_getElem? (i := 1046) (by decide +kernel)
theorem kcX11_205 : Cond.constant RX11 205 (-1000000) ∈ lw_tbl := List.mem_of_getElem? (i := 1047) (by decide +kernel)
theorem kcX11_210 : Cond.constantLong RX11 210 (100) ∈ lw_tbl := List.mem_of_getElem? (i := 1048) (by decide +kernel)
theorem kcX11_215 : Cond.constantLong RX11 215 (1010) ∈ lw_tbl := List.mem_of_getElem? (i := 1050) (by decide +kernel)
theorem kcX11_217 : Cond.constantLong RX11 217 (10100) ∈ lw_tbl := List.mem_of_getElem? (i := 1051) (by decide +kernel)
theorem kcX11_219 : Cond.constantLong RX11 219 (100000) ∈ lw_tbl := List.mem_of_getElem? (i := 1052) (by decide +kernel)
theorem kcJ_265 : Cond.constant "java/lang/Integer" 265 (1431655765) ∈ lw_tbl := List.mem_of_getElem? (i := 585) (by decide +kernel)
theorem kcJ_266 : Cond.constant "java/lang/Integer" 266 (858993459) ∈ lw_tbl := List.mem_of_getElem? (i := 586) (by decide +kernel)
theorem kcJ_267 : Cond.constant "java/lang/Integer" 267 (252645135) ∈ lw_tbl := List.mem_of_getElem? (i := 587) (by decide +kernel)
end
section
/-! THE ABSTRACT LAYER: a method is walked over a heap that is a function from addresses to cells, with whole numbers (Int) for ints; every row hides the machine's own words. -/
abbrev AH : Type := Nat → Option va_E
abbrev aG : Type := Launch × va_G × (ClassId × ClassId × ClassId) × Nat
abbrev aX : Type := aG × (Heap → List Loc → Nat → Nat → JFrame → Prop) × MethodId × Nat × Heap × Option (Nat × Nat × (Nat → Int32))
abbrev aI (z : Int) : Value := .int (Int32.ofInt z)
abbrev aL (z : Int) : Value := .long (Int64.ofInt z)
abbrev inR (z : Int) : Prop := -2147483648 ≤ z ∧ z < 2147483648
def aup (h : AH) (a : Nat) (e : va_E) : AH := fun q => if q = a then some e else h q
theorem aup_s (h : AH) (a : Nat) (e : va_E) : aup h a e a = some e := by simp [aup]
theorem aup_n {h : AH} {a q : Nat} {e : va_E} (hq : q ≠ a) : aup h a e q = h q := by simp [aup, hq]
def aIa (G : aG) (n : Nat) (f : Int → Int) : va_E := .inl (G.2.2.1.1, n, .inl (fun k => Int32.ofInt (f (k : Int))))
def aZa (G : aG) (n : Nat) (f : Int → Int) : va_E := .inl (G.2.2.1.2.1, n, .inl (fun k => Int32.ofInt (f (k : Int))))
def aJa (G : aG) (n : Nat) (f : Nat → Option Nat) : va_E := .inl (G.2.2.1.2.2, n, .inr (.inr (.inr (.inr f))))
def aOb (ci : Nat) (fs : List Value) : va_E := .inr (ci, fs)
def aTys (G : aG) : List (ClassId × FieldType) := [(G.2.2.1.1, .int), (G.2.2.1.2.1, .boolean), (G.2.2.1.2.2, .object RX1)]
def aRep (G : aG) (n : Nat) (h : AH) (H : Heap) : Prop := H.size = n ∧ G.2.2.2 ≤ n ∧ ∀ (a : Nat) (e : va_E), h a = some e → G.2.2.2 ≤ a ∧ va_at G.2.1 vwCl (a, e) H
abbrev aA (G : aG) : Nat → Prop := fun q => G.2.2.2 ≤ q
def lo_has (ls : Array Slot) (nL : Nat) (lv : List (Option Value)) : Prop := lv.length = nL ∧ ls.size = nL ∧ lv_wf ls ∧ ∀ (i : Nat) (v : Value), lv[i]? = some (some v) → ls[i]? = some (.val v)
def AW (x : aX) (cs ss n : Nat) (h : AH) (pc : Nat) (lv : List (Option Value)) (st : List Value) : Prop :=
  ∀ (H : Heap) (locs : List Loc) (ls : Array Slot), aRep x.1 n h H → va_S (aA x.1) x.2.2.2.2.1 H locs → lo_has ls x.2.2.2.1 lv → x.2.1 H locs cs ss (F0 x.2.2.1 pc ls st)
def aRet (cc : ByteArray) (pc : Nat) (ret : Option FieldType) (v : Option Value) : Prop := match ret, v with
  | none, none => decode cc pc = .ok (.return_, 1)
  | some .int, some (.int _) => decode cc pc = .ok (.ireturn, 1)
  | some .boolean, some (.int k) => decode cc pc = .ok (.ireturn, 1) ∧ narrow .boolean (.int k) = .int k
  | some .long, some (.long _) => decode cc pc = .ok (.lreturn, 1)
  | some (.object _), some (.ref _) => decode cc pc = .ok (.areturn, 1)
  | _, _ => False
abbrev aPost : Type := Option Value → Nat → AH → Prop
def aOk (x : aX) (d : Nat) (cc : ByteArray) (own nm : String) (ret : Option FieldType) (mc ms : Nat) (post : aPost) : Prop :=
  ∃ (p : Program) (e : Env) (R : Room) (s : State) (args : Array Value) (below : List Frame) (meth : Method) (c : Code) (Q : State → Prop),
    (∀ (H : Heap) (locs : List Loc) (cs ss : Nat) (g : JFrame), x.2.1 H locs cs ss g ↔ W p x.1.1 e R s x.2.2.1 args below meth c H locs cs ss Q g) ∧
    p.tables.exec = Jvm.exec ∧ c.code = cc ∧ c.maxLocals = x.2.2.2.1 ∧ s.vm.findClass own = some x.2.2.1.cls ∧ (∀ u ∈ lw_gn, u.before args s = true) ∧ va_K x.1.2.1 vwCl (aTys x.1) s ∧
    s.heap = x.2.2.2.2.1 ∧ (∀ (b L : Nat) (xs : Nat → Int32), x.2.2.2.2.2 = some (b, L, xs) → va_X b L xs s s.heap ∧ b < s.heap.size ∧ ¬ aA x.1 b ∧ L < 2147483648) ∧ meth.name = nm ∧ (d ≤ R.frames ∧ 40 * d ≤ R.locals ∧ mc ≤ R.cells ∧ ms ≤ R.slots) ∧
    (∀ (H : Heap) (locs : List Loc) (h : AH) (n : Nat) (v : Option Value) (pc : Nat) (ls : Array Slot), post v n h → aRep x.1 n h H → va_S (aA x.1) x.2.2.2.2.1 H locs → aRet cc pc ret v → x.2.1 H locs mc ms (F0 x.2.2.1 pc ls v.toList))
def aN (U : State) : Prop := ∀ w ∈ lw_tbl, aNk w = true → va_Nw w U
theorem aN.warm {s U : State} (hW : s.WarmedH U.vm) (h : aN s) : aN U := by
  intro w hw hk
  have h1 := h w hw hk
  cases w <;> first | (exfalso; revert hk; simp [aNk]; done) | exact va_Nw.warmF hW h1 | exact va_Nw.warmM hW h1 | exact va_Nw.warmC hW h1 | (rename_i ty; cases ty <;> first | (exfalso; revert hk; simp [aNk]; done) | exact va_AO.moved hW.alike h1)
theorem aN.same {s U : State} (hv : s.vm = U.vm) (h : aN s) : aN U := by
  intro w hw hk
  have h1 := h w hw hk
  cases w <;> first | (exfalso; revert hk; simp [aNk]; done) | exact va_Nw.same rfl hv h1 | (rename_i ty; cases ty <;> first | (exfalso; revert hk; simp [aNk]; done) | exact va_AO.moved (by rw [hv]; exact Vm.Alike.refl _) h1)
/-- a method's contract over the abstract heap -/
def aCt (G : aG) (d : Nat) (k : aM) (mc ms : Nat) (av : List Value) (n : Nat) (h : AH) (post : aPost) : Prop :=
  Met G.1 k.1 (Cond.code k.1 k.2.1 k.2.2.1 k.2.2.2 :: lw_gt) { frames := d, cells := mc, slots := ms, locals := 40 * d }
    (va_Pc av (fun U => aRep G n h U.heap ∧ va_K G.2.1 vwCl (aTys G) U ∧ aN U))
    (fun _ st oc t => (∃ (v : Option Value) (n' : Nat) (h' : AH), oc = .returned v ∧ post v n' h' ∧ aRep G n' h' t.heap) ∧ va_F (aA G) st t) mc ms (aA G)
/-- the contract of a method that makes nothing: its answer, and what holds of the heap behind it -/
def aE (G : aG) (d : Nat) (k : aM) (av : List Value) (n : Nat) (h : AH) (v : Option Value) (P : AH → Prop) : Prop := aCt G d k 0 0 av n h (fun v' n' h' => v' = v ∧ n' = n ∧ P h')
/-- the contract of a method that only reads -/
def aD (G : aG) (d : Nat) (k : aM) (av : List Value) (n : Nat) (h : AH) (v : Option Value) : Prop := aE G d k av n h v (fun h' => h' = h)
/-! locals -/
def lo_l (lv : List (Option Value)) : List (Nat × Value) := (List.range lv.length).filterMap (fun j => (lv[j]?.join).map (fun u => (j, u)))
theorem lo_mem {lv : List (Option Value)} {j : Nat} {u : Value} : (j, u) ∈ lo_l lv ↔ lv[j]? = some (some u) := by
  unfold lo_l
  rw [List.mem_filterMap]
  constructor
  · rintro ⟨i, hi, h⟩
    cases hq : lv[i]? with
    | none => rw [hq] at h; simp at h
    | some o =>
      cases o with
      | none => rw [hq] at h; simp at h
      | some w =>
        rw [hq] at h
        simp at h
        obtain ⟨rfl, rfl⟩ := h
        exact hq
  · intro h
    refine ⟨j, ?_, by rw [h]; rfl⟩
    exact List.mem_range.mpr (List.getElem?_eq_some_iff.mp h).1
theorem lo_lv {ls : Array Slot} {nL : Nat} {lv : List (Option Value)} (h : lo_has ls nL lv) : lv_has ls nL (lo_l lv) := ⟨h.2.1, h.2.2.1, fun q hq => h.2.2.2 q.1 q.2 (lo_mem.mp hq)⟩
def lo_c1 (lv : List (Option Value)) : Bool := lv.all (fun o => match o with | none => true | some v => v.category == 1)
theorem lo_of {ls : Array Slot} {nL i : Nat} {lv : List (Option Value)} {v : Value} (hlen : lv.length = nL) (hc : lo_c1 lv = true) (hi : i < lv.length) (h : lv_has ls nL ((i, v) :: (lo_l lv).filter (fun q => !(q.1 == i) && !(q.1 + 1 == i && q.2.category == 2)))) : lo_has ls nL (lv.set i (some v)) := by
  refine ⟨by rw [List.length_set]; exact hlen, h.1, h.2.1, fun j u hj => ?_⟩
  by_cases hji : j = i
  · subst hji
    rw [List.getElem?_set_self hi] at hj
    cases hj
    exact h.2.2 (j, v) List.mem_cons_self
  · rw [List.getElem?_set_ne (Ne.symm hji)] at hj
    refine h.2.2 (j, u) (List.mem_cons_of_mem _ (List.mem_filter.mpr ⟨lo_mem.mpr hj, ?_⟩))
    have h1 := List.all_eq_true.mp hc (some u) (List.mem_of_getElem? hj)
    simp only [beq_iff_eq] at h1
    simp [hji, h1]
def lo_args : List Value → List (Option Value)
  | [] => []
  | v :: vs => if v.category = 2 then some v :: none :: lo_args vs else some v :: lo_args vs
theorem lo_args_mem : ∀ (vs : List Value) (o i : Nat) (v : Value), (lo_args vs)[i]? = some (some v) → (o + i, v) ∈ lv_args o vs
  | [], o, i, v, h => by simp [lo_args] at h
  | w :: vs, o, i, v, h => by
    unfold lo_args at h
    unfold lv_args
    by_cases hc : w.category = 2
    · rw [if_pos hc] at h ⊢
      match i, h with
      | 0, h => simp at h; subst h; exact List.mem_cons_self
      | 1, h => simp at h
      | i + 2, h =>
        have h1 := lo_args_mem vs (o + 2) i v (by simpa using h)
        have e : o + (i + 2) = o + 2 + i := by omega
        rw [e]
        exact List.mem_cons_of_mem _ h1
    · rw [if_neg hc] at h ⊢
      match i, h with
      | 0, h => simp at h; subst h; exact List.mem_cons_self
      | i + 1, h =>
        have h1 := lo_args_mem vs (o + 1) i v (by simpa using h)
        have e : o + (i + 1) = o + 1 + i := by omega
        rw [e]
        exact List.mem_cons_of_mem _ h1
theorem lo_entry {ls : Array Slot} {n : Nat} {vs : List Value} {lv : List (Option Value)} (h : lv_has ls n (lv_args 0 vs)) (hl : lo_args vs ++ List.replicate (n - (lo_args vs).length) none = lv) (hlen : lv.length = n) : lo_has ls n lv := by
  refine ⟨hlen, h.1, h.2.1, fun i v hi => ?_⟩
  subst hl
  by_cases hlt : i < (lo_args vs).length
  · rw [List.getElem?_append_left hlt] at hi
    have := lo_args_mem vs 0 i v hi
    rw [Nat.zero_add] at this
    exact h.2.2 _ this
  · rw [List.getElem?_append_right (by omega), List.getElem?_replicate] at hi
    split at hi <;> simp at hi
/-! the heap -/
theorem aRep.at {G : aG} {n : Nat} {h : AH} {H : Heap} (hR : aRep G n h H) {a : Nat} {e : va_E} (ha : h a = some e) : va_P G.2.1 vwCl [(a, e)] H := by
  intro k q hk
  have hz : k < 1 := (List.getElem?_eq_some_iff.mp hk).1
  rw [show k = 0 by omega] at hk
  cases hk
  exact (hR.2.2 a e ha).2
theorem aRep.up {G : aG} {n : Nat} {h : AH} {H H1 : Heap} (hR : aRep G n h H) {a : Nat} {e e' : va_E} (ha : h a = some e) (hz : H1.size = H.size) (hat : va_at G.2.1 vwCl (a, e') H1) (ho : ∀ q : Nat, q ≠ a → H1[q]? = H[q]?) : aRep G n (aup h a e') H1 := by
  refine ⟨hz.trans hR.1, hR.2.1, fun q e1 hq => ?_⟩
  by_cases hqa : q = a
  · subst hqa
    rw [aup_s] at hq
    cases hq
    exact ⟨(hR.2.2 q e ha).1, hat⟩
  · rw [aup_n hqa] at hq
    exact ⟨(hR.2.2 q e1 hq).1, (hR.2.2 q e1 hq).2.kept (ho q hqa)⟩
theorem aRep.new {G : aG} {n : Nat} {h : AH} {H H1 : Heap} (hR : aRep G n h H) {e' : va_E} (hz : H1.size = n + 1) (hat : va_at G.2.1 vwCl (n, e') H1) (ho : ∀ q : Nat, q < n → H1[q]? = H[q]?) : aRep G (n + 1) (aup h n e') H1 := by
  refine ⟨hz, Nat.le_succ_of_le hR.2.1, fun q e1 hq => ?_⟩
  by_cases hqa : q = n
  · subst hqa
    rw [aup_s] at hq
    cases hq
    exact ⟨hR.2.1, hat⟩
  · rw [aup_n hqa] at hq
    have h1 := hR.2.2 q e1 hq
    have hlt : q < H.size := h1.2.lt
    exact ⟨h1.1, h1.2.kept (ho q (hR.1 ▸ hlt))⟩
/-! numbers -/
theorem aT {z : Int} (h : inR z) : (Int32.ofInt z).toInt = z := Int32.toInt_ofInt_of_le h.1 h.2
theorem aI_lt {x y : Int} (hx : inR x) (hy : inR y) : Int32.ofInt x < Int32.ofInt y ↔ x < y := by rw [Int32.lt_iff_toInt_lt, aT hx, aT hy]
theorem aI_le {x y : Int} (hx : inR x) (hy : inR y) : Int32.ofInt x ≤ Int32.ofInt y ↔ x ≤ y := by rw [Int32.le_iff_toInt_le, aT hx, aT hy]
theorem aI_eq {x y : Int} (hx : inR x) (hy : inR y) : Int32.ofInt x = Int32.ofInt y ↔ x = y := by rw [← Int32.toInt_inj, aT hx, aT hy]
theorem aI_0 : (0 : Int32) = Int32.ofInt 0 := by decide
theorem aI_cl {z : Int} {j : Nat} (h : z = (j : Int)) (hj : j < 2147483648) : (Int32.ofInt z).toNatClampNeg = j := by
  subst h
  show (Int32.ofInt (j : Int)).toInt.toNat = j
  rw [aT ⟨by omega, by omega⟩]
  rfl
theorem aI_in {z : Int} {j n : Nat} (h : z = (j : Int)) (hj : j < n) (hn : n < 2147483648) : vp_in (Int32.ofInt z) n := by
  unfold vp_in
  rw [aI_cl h (by omega)]
  rintro (h1 | h1)
  · rw [aI_0, aI_lt (by omega) (by omega)] at h1
    omega
  · omega
theorem aI_nat (n : Nat) : Int32.ofInt (n : Int) = nI n := Int32.ofInt_eq_ofNat
theorem in0 : inR 0 := ⟨by decide, by decide⟩
theorem aI_ne0 {b : Int} (hb : 0 < b ∧ b < 2147483648) : ¬ Int32.ofInt b = 0 := by
  rw [aI_0, aI_eq ⟨by omega, by omega⟩ in0]
  omega
theorem aI_div {a b : Int} (ha : 0 ≤ a ∧ a < 2147483648) (hb : 0 < b ∧ b < 2147483648) : Int32.ofInt (a / b) = Int32.ofInt a / Int32.ofInt b := by
  obtain ⟨m, rfl⟩ := Int.eq_ofNat_of_zero_le ha.1
  obtain ⟨k, rfl⟩ := Int.eq_ofNat_of_zero_le (Int.le_of_lt hb.1)
  rw [← Int.natCast_ediv, aI_nat, aI_nat, aI_nat, pk_div (by omega) (by omega) (by omega)]
theorem aI_mod {a b : Int} (ha : 0 ≤ a ∧ a < 2147483648) (hb : 0 < b ∧ b < 2147483648) : Int32.ofInt (a % b) = Int32.ofInt a - Int32.ofInt a / Int32.ofInt b * Int32.ofInt b := by
  obtain ⟨m, rfl⟩ := Int.eq_ofNat_of_zero_le ha.1
  obtain ⟨k, rfl⟩ := Int.eq_ofNat_of_zero_le (Int.le_of_lt hb.1)
  rw [← Int.natCast_emod, aI_nat, aI_nat, aI_nat, pk_rem (by omega) (by omega) (by omega)]
theorem aI_sh : ∀ k : Fin 32, ((Int32.ofInt ((k : Nat) : Int) &&& 31).toBitVec.smod 32).toNat = (k : Nat) := by decide
theorem aI_shl {m k : Nat} (hk : k < 32) (hm : m * 2 ^ k < 2147483648) : Int32.ofInt ((m * 2 ^ k : Nat) : Int) = Int32.ofInt (m : Int) <<< (Int32.ofInt (k : Int) &&& 31) := by
  rw [aI_nat (m * 2 ^ k), aI_nat m, pk_shlN _ k (aI_sh ⟨k, hk⟩) (by omega)]
theorem aI_shr {m k : Nat} (hk : k < 32) (hm : m < 2147483648) : Int32.ofInt ((m / 2 ^ k : Nat) : Int) = Int32.ofInt (m : Int) >>> (Int32.ofInt (k : Int) &&& 31) := by
  rw [aI_nat (m / 2 ^ k), aI_nat m, pk_shrN (by omega) _ k (aI_sh ⟨k, hk⟩)]
theorem aI_iand {m k : Nat} : Int32.ofInt ((m &&& k : Nat) : Int) = Int32.ofInt (m : Int) &&& Int32.ofInt (k : Int) := by
  rw [aI_nat, aI_nat, aI_nat]
  exact Int32.toBitVec.inj (BitVec.ofNat_and (w := 32) (x := m) (y := k))
theorem aI_ior {m k : Nat} : Int32.ofInt ((m ||| k : Nat) : Int) = Int32.ofInt (m : Int) ||| Int32.ofInt (k : Int) := by
  rw [aI_nat, aI_nat, aI_nat]
  exact Int32.toBitVec.inj (BitVec.ofNat_or (w := 32) (x := m) (y := k))
theorem aI_ixor {m k : Nat} : Int32.ofInt ((m ^^^ k : Nat) : Int) = Int32.ofInt (m : Int) ^^^ Int32.ofInt (k : Int) := by
  rw [aI_nat, aI_nat, aI_nat]
  exact Int32.toBitVec.inj (BitVec.ofNat_xor (w := 32) (x := m) (y := k))
theorem aI_andn {m k : Nat} : Int32.ofInt ((m ^^^ (m &&& k) : Nat) : Int) = Int32.ofInt (m : Int) &&& (Int32.ofInt (k : Int) ^^^ Int32.ofInt (-1)) := by
  rw [aI_ixor, aI_iand]
  generalize Int32.ofInt (m : Int) = u
  generalize Int32.ofInt (k : Int) = v
  apply Int32.toBitVec.inj
  have e : (Int32.ofInt (-1)).toBitVec = BitVec.allOnes 32 := by decide
  simp only [Int32.toBitVec_xor, Int32.toBitVec_and, e]
  generalize u.toBitVec = a
  generalize v.toBitVec = b
  apply BitVec.eq_of_getLsbD_eq
  intro i hi
  simp only [BitVec.getLsbD_xor, BitVec.getLsbD_and, BitVec.getLsbD_allOnes, hi, decide_true]
  cases a.getLsbD i <;> cases b.getLsbD i <;> rfl
theorem aI_i2l {a : Int} (h : inR a) : (Int32.ofInt a).toInt64 = Int64.ofInt a := by
  rw [← Int64.toInt_inj, Int32.toInt_toInt64, aT h, Int64.toInt_ofInt_of_le (by omega) (by omega)]
theorem aL_T {a : Int} (h : inR a) : (Int64.ofInt a).toInt = a := Int64.toInt_ofInt_of_le (by omega) (by omega)
theorem aL_cmp {a b : Int} (ha : inR a) (hb : inR b) : lg_cmp (Int64.ofInt a) (Int64.ofInt b) = Int32.ofInt (if a < b then -1 else if b < a then 1 else 0) := by
  unfold lg_cmp
  simp only [gt_iff_lt, Int64.lt_iff_toInt_lt, ← Int64.toInt_inj, aL_T ha, aL_T hb]
  by_cases h1 : a < b
  · rw [if_neg (by omega), if_neg (by omega), if_pos h1]; decide
  · by_cases h2 : b < a
    · rw [if_pos h2, if_neg h1, if_pos h2]; decide
    · rw [if_neg h2, if_pos (by omega), if_neg h1, if_neg h2]; decide
theorem aL_cmpE {a : Int64} : lg_cmp a a = Int32.ofInt 0 := by
  unfold lg_cmp
  simp [Int64.lt_iff_toInt_lt]

section AR
variable {x : aX} {d : Nat} {cc : ByteArray} {own nm : String} {ret : Option FieldType} {mc ms : Nat} {post : aPost} {cs ss n pc : Nat} {h : AH} {lv : List (Option Value)} {st : List Value}

theorem A_iconst (X : aOk x d cc own nm ret mc ms post) {z : Int} (hd : decode cc pc = .ok (.iconst z, 1)) (k : AW x cs ss n h (pc + 1) lv (aI z :: st)) : AW x cs ss n h pc lv st := by
  obtain ⟨p, e, R, s, args, below, meth, c, Q, hw, hx, hb, hml, hown, hts, hK, hH0, hscr, hnm, hroom, hret⟩ := X
  intro H locs ls hR hS hL
  exact (hw H locs cs ss _).mpr (lv_iconst hx hb hd rfl ((hw H locs cs ss _).mp (k H locs ls hR hS hL)))
theorem A_bipush (X : aOk x d cc own nm ret mc ms post) {z : Int} (hd : decode cc pc = .ok (.bipush z, 2)) (k : AW x cs ss n h (pc + 2) lv (aI z :: st)) (hv : (Int8.ofInt z).toInt32 = Int32.ofInt z := by decide) : AW x cs ss n h pc lv st := by
  obtain ⟨p, e, R, s, args, below, meth, c, Q, hw, hx, hb, hml, hown, hts, hK, hH0, hscr, hnm, hroom, hret⟩ := X
  intro H locs ls hR hS hL
  exact (hw H locs cs ss _).mpr (lv_bipush hx hb hd hv ((hw H locs cs ss _).mp (k H locs ls hR hS hL)))
theorem A_sipush (X : aOk x d cc own nm ret mc ms post) {z : Int} (hd : decode cc pc = .ok (.sipush z, 3)) (k : AW x cs ss n h (pc + 3) lv (aI z :: st)) (hv : (Int16.ofInt z).toInt32 = Int32.ofInt z := by decide) : AW x cs ss n h pc lv st := by
  obtain ⟨p, e, R, s, args, below, meth, c, Q, hw, hx, hb, hml, hown, hts, hK, hH0, hscr, hnm, hroom, hret⟩ := X
  intro H locs ls hR hS hL
  exact (hw H locs cs ss _).mpr (lv_sipush hx hb hd hv ((hw H locs cs ss _).mp (k H locs ls hR hS hL)))
theorem A_ldc (X : aOk x d cc own nm ret mc ms post) {z : Int} {v : Int32} {idx : Nat} (hc : Cond.constant own idx v ∈ lw_tbl) (hd : decode cc pc = .ok (.ldc idx, 2)) (k : AW x cs ss n h (pc + 2) lv (aI z :: st)) (hv : v = Int32.ofInt z := by decide) : AW x cs ss n h pc lv st := by
  obtain ⟨p, e, R, s, args, below, meth, c, Q, hw, hx, hb, hml, hown, hts, hK, hH0, hscr, hnm, hroom, hret⟩ := X
  intro H locs ls hR hS hL
  subst hv
  exact (hw H locs cs ss _).mpr (lv_ldc hx hb hown (hts _ (gn_of hc rfl)) hd ((hw H locs cs ss _).mp (k H locs ls hR hS hL)))
theorem A_ldcw (X : aOk x d cc own nm ret mc ms post) {v : Int32} {idx : Nat} (hc : Cond.constant own idx v ∈ lw_tbl) (hd : decode cc pc = .ok (.ldc_w idx, 3)) (k : AW x cs ss n h (pc + 3) lv (.int v :: st)) : AW x cs ss n h pc lv st := by
  obtain ⟨p, e, R, s, args, below, meth, c, Q, hw, hx, hb, hml, hown, hts, hK, hH0, hscr, hnm, hroom, hret⟩ := X
  intro H locs ls hR hS hL
  exact (hw H locs cs ss _).mpr (lv_ldcw hx hb hown (hts _ (gn_of hc rfl)) hd ((hw H locs cs ss _).mp (k H locs ls hR hS hL)))
theorem A_ldc2 (X : aOk x d cc own nm ret mc ms post) {z : Int} {v : Int64} {idx : Nat} (hc : Cond.constantLong own idx v ∈ lw_tbl) (hd : decode cc pc = .ok (.ldc2_w idx, 3)) (k : AW x cs ss n h (pc + 3) lv (aL z :: st)) (hv : v = Int64.ofInt z := by decide) : AW x cs ss n h pc lv st := by
  obtain ⟨p, e, R, s, args, below, meth, c, Q, hw, hx, hb, hml, hown, hts, hK, hH0, hscr, hnm, hroom, hret⟩ := X
  intro H locs ls hR hS hL
  subst hv
  exact (hw H locs cs ss _).mpr (lv_ldc2 hx hb hown (hts _ (gn_of hc rfl)) hd ((hw H locs cs ss _).mp (k H locs ls hR hS hL)))
theorem A_lconst (X : aOk x d cc own nm ret mc ms post) {z : Int} {i : Fin 2} (hd : decode cc pc = .ok (.lconst i, 1)) (k : AW x cs ss n h (pc + 1) lv (aL z :: st)) (hv : Int64.ofNat (i : Nat) = Int64.ofInt z := by decide) : AW x cs ss n h pc lv st := by
  obtain ⟨p, e, R, s, args, below, meth, c, Q, hw, hx, hb, hml, hown, hts, hK, hH0, hscr, hnm, hroom, hret⟩ := X
  intro H locs ls hR hS hL
  exact (hw H locs cs ss _).mpr (lv_lconst hx hb hd hv ((hw H locs cs ss _).mp (k H locs ls hR hS hL)))
theorem A_iload_n (X : aOk x d cc own nm ret mc ms post) {k : Fin 4} {i : Nat} {z : Int} (hd : decode cc pc = .ok (.iload_n k, 1)) (hi : (k : Nat) = i) (hl : lv[i]? = some (some (aI z))) (kk : AW x cs ss n h (pc + 1) lv (aI z :: st)) : AW x cs ss n h pc lv st := by
  obtain ⟨p, e, R, s, args, below, meth, c, Q, hw, hx, hb, hml, hown, hts, hK, hH0, hscr, hnm, hroom, hret⟩ := X
  intro H locs ls hR hS hL
  exact (hw H locs cs ss _).mpr (lv_iload_n hx hb hd hi (hL.2.2.2 _ _ hl) ((hw H locs cs ss _).mp (kk H locs ls hR hS hL)))
theorem A_iload (X : aOk x d cc own nm ret mc ms post) {i : Nat} {z : Int} (hd : decode cc pc = .ok (.iload i, 2)) (hl : lv[i]? = some (some (aI z))) (kk : AW x cs ss n h (pc + 2) lv (aI z :: st)) : AW x cs ss n h pc lv st := by
  obtain ⟨p, e, R, s, args, below, meth, c, Q, hw, hx, hb, hml, hown, hts, hK, hH0, hscr, hnm, hroom, hret⟩ := X
  intro H locs ls hR hS hL
  exact (hw H locs cs ss _).mpr (lv_iload hx hb hd (hL.2.2.2 _ _ hl) ((hw H locs cs ss _).mp (kk H locs ls hR hS hL)))
theorem A_aload_n (X : aOk x d cc own nm ret mc ms post) {k : Fin 4} {i : Nat} {z : Nat} (hd : decode cc pc = .ok (.aload_n k, 1)) (hi : (k : Nat) = i) (hl : lv[i]? = some (some (.ref z))) (kk : AW x cs ss n h (pc + 1) lv (.ref z :: st)) : AW x cs ss n h pc lv st := by
  obtain ⟨p, e, R, s, args, below, meth, c, Q, hw, hx, hb, hml, hown, hts, hK, hH0, hscr, hnm, hroom, hret⟩ := X
  intro H locs ls hR hS hL
  exact (hw H locs cs ss _).mpr (lv_aload_n hx hb hd hi (hL.2.2.2 _ _ hl) ((hw H locs cs ss _).mp (kk H locs ls hR hS hL)))
theorem A_aload (X : aOk x d cc own nm ret mc ms post) {i : Nat} {z : Nat} (hd : decode cc pc = .ok (.aload i, 2)) (hl : lv[i]? = some (some (.ref z))) (kk : AW x cs ss n h (pc + 2) lv (.ref z :: st)) : AW x cs ss n h pc lv st := by
  obtain ⟨p, e, R, s, args, below, meth, c, Q, hw, hx, hb, hml, hown, hts, hK, hH0, hscr, hnm, hroom, hret⟩ := X
  intro H locs ls hR hS hL
  exact (hw H locs cs ss _).mpr (lv_aload hx hb hd (hL.2.2.2 _ _ hl) ((hw H locs cs ss _).mp (kk H locs ls hR hS hL)))
theorem A_lload_n (X : aOk x d cc own nm ret mc ms post) {k : Fin 4} {i : Nat} {z : Int} (hd : decode cc pc = .ok (.lload_n k, 1)) (hi : (k : Nat) = i) (hl : lv[i]? = some (some (aL z))) (kk : AW x cs ss n h (pc + 1) lv (aL z :: st)) : AW x cs ss n h pc lv st := by
  obtain ⟨p, e, R, s, args, below, meth, c, Q, hw, hx, hb, hml, hown, hts, hK, hH0, hscr, hnm, hroom, hret⟩ := X
  intro H locs ls hR hS hL
  exact (hw H locs cs ss _).mpr (lv_lload_n hx hb hd hi (hL.2.2.2 _ _ hl) ((hw H locs cs ss _).mp (kk H locs ls hR hS hL)))
theorem A_lload (X : aOk x d cc own nm ret mc ms post) {i : Nat} {z : Int} (hd : decode cc pc = .ok (.lload i, 2)) (hl : lv[i]? = some (some (aL z))) (kk : AW x cs ss n h (pc + 2) lv (aL z :: st)) : AW x cs ss n h pc lv st := by
  obtain ⟨p, e, R, s, args, below, meth, c, Q, hw, hx, hb, hml, hown, hts, hK, hH0, hscr, hnm, hroom, hret⟩ := X
  intro H locs ls hR hS hL
  exact (hw H locs cs ss _).mpr (lv_lload hx hb hd (hL.2.2.2 _ _ hl) ((hw H locs cs ss _).mp (kk H locs ls hR hS hL)))
theorem A_iload_nr (X : aOk x d cc own nm ret mc ms post) {k : Fin 4} {i : Nat} {z : Int32} (hd : decode cc pc = .ok (.iload_n k, 1)) (hi : (k : Nat) = i) (hl : lv[i]? = some (some (.int z))) (kk : AW x cs ss n h (pc + 1) lv (.int z :: st)) : AW x cs ss n h pc lv st := by
  obtain ⟨p, e, R, s, args, below, meth, c, Q, hw, hx, hb, hml, hown, hts, hK, hH0, hscr, hnm, hroom, hret⟩ := X
  intro H locs ls hR hS hL
  exact (hw H locs cs ss _).mpr (lv_iload_n hx hb hd hi (hL.2.2.2 _ _ hl) ((hw H locs cs ss _).mp (kk H locs ls hR hS hL)))
theorem A_istore_n (X : aOk x d cc own nm ret mc ms post) {k : Fin 4} {i : Nat} {z : Int32} (hd : decode cc pc = .ok (.istore_n k, 1)) (hi : (k : Nat) = i) (hlen : i < lv.length) (hc : lo_c1 lv = true) (kk : AW x cs ss n h (pc + 1) (lv.set i (some (.int z))) st) : AW x cs ss n h pc lv (.int z :: st) := by
  obtain ⟨p, e, R, s, args, below, meth, c, Q, hw, hx, hb, hml, hown, hts, hK, hH0, hscr, hnm, hroom, hret⟩ := X
  intro H locs ls hR hS hL
  exact (hw H locs cs ss _).mpr (lv_istore_n hx hb hd hi (lo_lv hL) (by rw [← hL.1]; exact hlen) rfl (fun ls2 hl2 => (hw H locs cs ss _).mp (kk H locs ls2 hR hS (lo_of hL.1 hc hlen hl2))))
theorem A_istore (X : aOk x d cc own nm ret mc ms post) {i : Nat} {z : Int32} (hd : decode cc pc = .ok (.istore i, 2)) (hlen : i < lv.length) (hc : lo_c1 lv = true) (kk : AW x cs ss n h (pc + 2) (lv.set i (some (.int z))) st) : AW x cs ss n h pc lv (.int z :: st) := by
  obtain ⟨p, e, R, s, args, below, meth, c, Q, hw, hx, hb, hml, hown, hts, hK, hH0, hscr, hnm, hroom, hret⟩ := X
  intro H locs ls hR hS hL
  exact (hw H locs cs ss _).mpr (lv_istore hx hb hd (lo_lv hL) (by rw [← hL.1]; exact hlen) rfl (fun ls2 hl2 => (hw H locs cs ss _).mp (kk H locs ls2 hR hS (lo_of hL.1 hc hlen hl2))))
theorem A_astore_n (X : aOk x d cc own nm ret mc ms post) {k : Fin 4} {i : Nat} {z : Nat} (hd : decode cc pc = .ok (.astore_n k, 1)) (hi : (k : Nat) = i) (hlen : i < lv.length) (hc : lo_c1 lv = true) (kk : AW x cs ss n h (pc + 1) (lv.set i (some (.ref z))) st) : AW x cs ss n h pc lv (.ref z :: st) := by
  obtain ⟨p, e, R, s, args, below, meth, c, Q, hw, hx, hb, hml, hown, hts, hK, hH0, hscr, hnm, hroom, hret⟩ := X
  intro H locs ls hR hS hL
  exact (hw H locs cs ss _).mpr (lv_astore_n hx hb hd hi (lo_lv hL) (by rw [← hL.1]; exact hlen) rfl (fun ls2 hl2 => (hw H locs cs ss _).mp (kk H locs ls2 hR hS (lo_of hL.1 hc hlen hl2))))
theorem A_astore (X : aOk x d cc own nm ret mc ms post) {i : Nat} {z : Nat} (hd : decode cc pc = .ok (.astore i, 2)) (hlen : i < lv.length) (hc : lo_c1 lv = true) (kk : AW x cs ss n h (pc + 2) (lv.set i (some (.ref z))) st) : AW x cs ss n h pc lv (.ref z :: st) := by
  obtain ⟨p, e, R, s, args, below, meth, c, Q, hw, hx, hb, hml, hown, hts, hK, hH0, hscr, hnm, hroom, hret⟩ := X
  intro H locs ls hR hS hL
  exact (hw H locs cs ss _).mpr (lv_astore hx hb hd (lo_lv hL) (by rw [← hL.1]; exact hlen) rfl (fun ls2 hl2 => (hw H locs cs ss _).mp (kk H locs ls2 hR hS (lo_of hL.1 hc hlen hl2))))
theorem A_iinc (X : aOk x d cc own nm ret mc ms post) {i : Nat} {z w : Int} (hd : decode cc pc = .ok (.iinc i w, 3)) (hl : lv[i]? = some (some (aI z))) (hc : lo_c1 lv = true) (kk : AW x cs ss n h (pc + 3) (lv.set i (some (aI (z + w)))) st) : AW x cs ss n h pc lv st := by
  obtain ⟨p, e, R, s, args, below, meth, c, Q, hw, hx, hb, hml, hown, hts, hK, hH0, hscr, hnm, hroom, hret⟩ := X
  intro H locs ls hR hS hL
  obtain ⟨k, hk⟩ := List.getElem?_of_mem (lo_mem.mpr hl)
  have hlen := (List.getElem?_eq_some_iff.mp hl).1
  exact (hw H locs cs ss _).mpr (lv_iinc hx hb hd (lo_lv hL) hk (Int32.ofInt_add z w).symm (by rw [← hL.1]; exact hlen) rfl (fun ls2 hl2 => (hw H locs cs ss _).mp (kk H locs ls2 hR hS (lo_of hL.1 hc hlen hl2))))
theorem A_iadd (X : aOk x d cc own nm ret mc ms post) {a b : Int} (hd : decode cc pc = .ok (.iadd, 1)) (k : AW x cs ss n h (pc + 1) lv (aI (a + b) :: st)) : AW x cs ss n h pc lv (aI b :: aI a :: st) := by
  obtain ⟨p, e, R, s, args, below, meth, c, Q, hw, hx, hb, hml, hown, hts, hK, hH0, hscr, hnm, hroom, hret⟩ := X
  intro H locs ls hR hS hL
  refine (hw H locs cs ss _).mpr (lv_iadd hx hb hd ((hw H locs cs ss _).mp ?_))
  rw [← Int32.ofInt_add]
  exact k H locs ls hR hS hL
theorem A_isub (X : aOk x d cc own nm ret mc ms post) {a b : Int} (hd : decode cc pc = .ok (.isub, 1)) (k : AW x cs ss n h (pc + 1) lv (aI (a - b) :: st)) : AW x cs ss n h pc lv (aI b :: aI a :: st) := by
  obtain ⟨p, e, R, s, args, below, meth, c, Q, hw, hx, hb, hml, hown, hts, hK, hH0, hscr, hnm, hroom, hret⟩ := X
  intro H locs ls hR hS hL
  refine (hw H locs cs ss _).mpr (lv_isub hx hb hd ((hw H locs cs ss _).mp ?_))
  rw [← Int32.ofInt_sub]
  exact k H locs ls hR hS hL
theorem A_imul (X : aOk x d cc own nm ret mc ms post) {a b : Int} (hd : decode cc pc = .ok (.imul, 1)) (k : AW x cs ss n h (pc + 1) lv (aI (a * b) :: st)) : AW x cs ss n h pc lv (aI b :: aI a :: st) := by
  obtain ⟨p, e, R, s, args, below, meth, c, Q, hw, hx, hb, hml, hown, hts, hK, hH0, hscr, hnm, hroom, hret⟩ := X
  intro H locs ls hR hS hL
  refine (hw H locs cs ss _).mpr (lv_imul hx hb hd ((hw H locs cs ss _).mp ?_))
  rw [← Int32.ofInt_mul]
  exact k H locs ls hR hS hL
theorem A_iaddr (X : aOk x d cc own nm ret mc ms post) {a b : Int32} (hd : decode cc pc = .ok (.iadd, 1)) (k : AW x cs ss n h (pc + 1) lv (.int (a + b) :: st)) : AW x cs ss n h pc lv (.int b :: .int a :: st) := by
  obtain ⟨p, e, R, s, args, below, meth, c, Q, hw, hx, hb, hml, hown, hts, hK, hH0, hscr, hnm, hroom, hret⟩ := X
  intro H locs ls hR hS hL
  exact (hw H locs cs ss _).mpr (lv_iadd hx hb hd ((hw H locs cs ss _).mp (k H locs ls hR hS hL)))
theorem A_isubr (X : aOk x d cc own nm ret mc ms post) {a b : Int32} (hd : decode cc pc = .ok (.isub, 1)) (k : AW x cs ss n h (pc + 1) lv (.int (a - b) :: st)) : AW x cs ss n h pc lv (.int b :: .int a :: st) := by
  obtain ⟨p, e, R, s, args, below, meth, c, Q, hw, hx, hb, hml, hown, hts, hK, hH0, hscr, hnm, hroom, hret⟩ := X
  intro H locs ls hR hS hL
  exact (hw H locs cs ss _).mpr (lv_isub hx hb hd ((hw H locs cs ss _).mp (k H locs ls hR hS hL)))
theorem A_iandr (X : aOk x d cc own nm ret mc ms post) {a b : Int32} (hd : decode cc pc = .ok (.iand, 1)) (k : AW x cs ss n h (pc + 1) lv (.int (a &&& b) :: st)) : AW x cs ss n h pc lv (.int b :: .int a :: st) := by
  obtain ⟨p, e, R, s, args, below, meth, c, Q, hw, hx, hb, hml, hown, hts, hK, hH0, hscr, hnm, hroom, hret⟩ := X
  intro H locs ls hR hS hL
  exact (hw H locs cs ss _).mpr (lv_iand hx hb hd ((hw H locs cs ss _).mp (k H locs ls hR hS hL)))
theorem A_ixorr (X : aOk x d cc own nm ret mc ms post) {a b : Int32} (hd : decode cc pc = .ok (.ixor, 1)) (k : AW x cs ss n h (pc + 1) lv (.int (a ^^^ b) :: st)) : AW x cs ss n h pc lv (.int b :: .int a :: st) := by
  obtain ⟨p, e, R, s, args, below, meth, c, Q, hw, hx, hb, hml, hown, hts, hK, hH0, hscr, hnm, hroom, hret⟩ := X
  intro H locs ls hR hS hL
  exact (hw H locs cs ss _).mpr (lv_ixor hx hb hd ((hw H locs cs ss _).mp (k H locs ls hR hS hL)))
theorem A_iushrr (X : aOk x d cc own nm ret mc ms post) {a b : Int32} (hd : decode cc pc = .ok (.iushr, 1)) (k : AW x cs ss n h (pc + 1) lv (.int (a.toUInt32 >>> (b.toUInt32 &&& Int32.toUInt32 31)).toInt32 :: st)) : AW x cs ss n h pc lv (.int b :: .int a :: st) := by
  obtain ⟨p, e, R, s, args, below, meth, c, Q, hw, hx, hb, hml, hown, hts, hK, hH0, hscr, hnm, hroom, hret⟩ := X
  intro H locs ls hR hS hL
  exact (hw H locs cs ss _).mpr (lv_iushr hx hb hd rfl ((hw H locs cs ss _).mp (k H locs ls hR hS hL)))
theorem A_ladd (X : aOk x d cc own nm ret mc ms post) {a b : Int} (hd : decode cc pc = .ok (.ladd, 1)) (k : AW x cs ss n h (pc + 1) lv (aL (a + b) :: st)) : AW x cs ss n h pc lv (aL b :: aL a :: st) := by
  obtain ⟨p, e, R, s, args, below, meth, c, Q, hw, hx, hb, hml, hown, hts, hK, hH0, hscr, hnm, hroom, hret⟩ := X
  intro H locs ls hR hS hL
  refine (hw H locs cs ss _).mpr (lv_ladd hx hb hd ((hw H locs cs ss _).mp ?_))
  rw [← Int64.ofInt_add]
  exact k H locs ls hR hS hL
theorem A_idiv (X : aOk x d cc own nm ret mc ms post) {a b : Int} (ha : 0 ≤ a ∧ a < 2147483648) (hb0 : 0 < b ∧ b < 2147483648) (hd : decode cc pc = .ok (.idiv, 1)) (k : AW x cs ss n h (pc + 1) lv (aI (a / b) :: st)) : AW x cs ss n h pc lv (aI b :: aI a :: st) := by
  obtain ⟨p, e, R, s, args, below, meth, c, Q, hw, hx, hb, hml, hown, hts, hK, hH0, hscr, hnm, hroom, hret⟩ := X
  intro H locs ls hR hS hL
  refine (hw H locs cs ss _).mpr (lv_idiv hx hb hd (aI_ne0 hb0) ((hw H locs cs ss _).mp ?_))
  rw [← aI_div ha hb0]
  exact k H locs ls hR hS hL
theorem A_irem (X : aOk x d cc own nm ret mc ms post) {a b : Int} (ha : 0 ≤ a ∧ a < 2147483648) (hb0 : 0 < b ∧ b < 2147483648) (hd : decode cc pc = .ok (.irem, 1)) (k : AW x cs ss n h (pc + 1) lv (aI (a % b) :: st)) : AW x cs ss n h pc lv (aI b :: aI a :: st) := by
  obtain ⟨p, e, R, s, args, below, meth, c, Q, hw, hx, hb, hml, hown, hts, hK, hH0, hscr, hnm, hroom, hret⟩ := X
  intro H locs ls hR hS hL
  refine (hw H locs cs ss _).mpr (lv_irem hx hb hd (aI_ne0 hb0) ((hw H locs cs ss _).mp ?_))
  rw [← aI_mod ha hb0]
  exact k H locs ls hR hS hL
theorem A_ishl (X : aOk x d cc own nm ret mc ms post) {a b : Int} (m k : Nat) (ha : a = (m : Int)) (hbk : b = (k : Int)) (hk : k < 32) (hm : m * 2 ^ k < 2147483648) (hd : decode cc pc = .ok (.ishl, 1)) (kk : AW x cs ss n h (pc + 1) lv (aI ((m * 2 ^ k : Nat) : Int) :: st)) : AW x cs ss n h pc lv (aI b :: aI a :: st) := by
  obtain ⟨p, e, R, s, args, below, meth, c, Q, hw, hx, hb, hml, hown, hts, hK, hH0, hscr, hnm, hroom, hret⟩ := X
  intro H locs ls hR hS hL
  subst ha; subst hbk
  refine (hw H locs cs ss _).mpr (lv_ishl hx hb hd ((hw H locs cs ss _).mp ?_))
  rw [← aI_shl hk hm]
  exact kk H locs ls hR hS hL
theorem A_ishr (X : aOk x d cc own nm ret mc ms post) {a b : Int} (m k : Nat) (ha : a = (m : Int)) (hbk : b = (k : Int)) (hk : k < 32) (hm : m < 2147483648) (hd : decode cc pc = .ok (.ishr, 1)) (kk : AW x cs ss n h (pc + 1) lv (aI ((m / 2 ^ k : Nat) : Int) :: st)) : AW x cs ss n h pc lv (aI b :: aI a :: st) := by
  obtain ⟨p, e, R, s, args, below, meth, c, Q, hw, hx, hb, hml, hown, hts, hK, hH0, hscr, hnm, hroom, hret⟩ := X
  intro H locs ls hR hS hL
  subst ha; subst hbk
  refine (hw H locs cs ss _).mpr (lv_ishr hx hb hd ((hw H locs cs ss _).mp ?_))
  rw [← aI_shr hk hm]
  exact kk H locs ls hR hS hL
theorem A_iand (X : aOk x d cc own nm ret mc ms post) {a b : Int} (m k : Nat) (ha : a = (m : Int)) (hbk : b = (k : Int)) (hd : decode cc pc = .ok (.iand, 1)) (kk : AW x cs ss n h (pc + 1) lv (aI ((m &&& k : Nat) : Int) :: st)) : AW x cs ss n h pc lv (aI b :: aI a :: st) := by
  obtain ⟨p, e, R, s, args, below, meth, c, Q, hw, hx, hb, hml, hown, hts, hK, hH0, hscr, hnm, hroom, hret⟩ := X
  intro H locs ls hR hS hL
  subst ha; subst hbk
  refine (hw H locs cs ss _).mpr (lv_iand hx hb hd ((hw H locs cs ss _).mp ?_))
  rw [← aI_iand]
  exact kk H locs ls hR hS hL
theorem A_ior (X : aOk x d cc own nm ret mc ms post) {a b : Int} (m k : Nat) (ha : a = (m : Int)) (hbk : b = (k : Int)) (hd : decode cc pc = .ok (.ior, 1)) (kk : AW x cs ss n h (pc + 1) lv (aI ((m ||| k : Nat) : Int) :: st)) : AW x cs ss n h pc lv (aI b :: aI a :: st) := by
  obtain ⟨p, e, R, s, args, below, meth, c, Q, hw, hx, hb, hml, hown, hts, hK, hH0, hscr, hnm, hroom, hret⟩ := X
  intro H locs ls hR hS hL
  subst ha; subst hbk
  refine (hw H locs cs ss _).mpr (lv_ior hx hb hd ((hw H locs cs ss _).mp ?_))
  rw [← aI_ior]
  exact kk H locs ls hR hS hL
theorem A_ixor (X : aOk x d cc own nm ret mc ms post) {a b : Int} (m k : Nat) (ha : a = (m : Int)) (hbk : b = (k : Int)) (hd : decode cc pc = .ok (.ixor, 1)) (kk : AW x cs ss n h (pc + 1) lv (aI ((m ^^^ k : Nat) : Int) :: st)) : AW x cs ss n h pc lv (aI b :: aI a :: st) := by
  obtain ⟨p, e, R, s, args, below, meth, c, Q, hw, hx, hb, hml, hown, hts, hK, hH0, hscr, hnm, hroom, hret⟩ := X
  intro H locs ls hR hS hL
  subst ha; subst hbk
  refine (hw H locs cs ss _).mpr (lv_ixor hx hb hd ((hw H locs cs ss _).mp ?_))
  rw [← aI_ixor]
  exact kk H locs ls hR hS hL
theorem A_iandn (X : aOk x d cc own nm ret mc ms post) {a b : Int} (m k : Nat) (ha : a = (m : Int)) (hbk : b = (k : Int)) (hd : decode cc pc = .ok (.iand, 1)) (kk : AW x cs ss n h (pc + 1) lv (aI ((m ^^^ (m &&& k) : Nat) : Int) :: st)) : AW x cs ss n h pc lv (.int (Int32.ofInt b ^^^ Int32.ofInt (-1)) :: aI a :: st) := by
  obtain ⟨p, e, R, s, args, below, meth, c, Q, hw, hx, hb, hml, hown, hts, hK, hH0, hscr, hnm, hroom, hret⟩ := X
  intro H locs ls hR hS hL
  subst ha; subst hbk
  refine (hw H locs cs ss _).mpr (lv_iand hx hb hd ((hw H locs cs ss _).mp ?_))
  rw [← aI_andn]
  exact kk H locs ls hR hS hL
theorem A_i2l (X : aOk x d cc own nm ret mc ms post) {a : Int} (ha : inR a) (hd : decode cc pc = .ok (.i2l, 1)) (k : AW x cs ss n h (pc + 1) lv (aL a :: st)) : AW x cs ss n h pc lv (aI a :: st) := by
  obtain ⟨p, e, R, s, args, below, meth, c, Q, hw, hx, hb, hml, hown, hts, hK, hH0, hscr, hnm, hroom, hret⟩ := X
  intro H locs ls hR hS hL
  exact (hw H locs cs ss _).mpr (lv_i2l hx hb hd (aI_i2l ha) ((hw H locs cs ss _).mp (k H locs ls hR hS hL)))
theorem A_lcmp (X : aOk x d cc own nm ret mc ms post) {a b : Int} (ha : inR a) (hb0 : inR b) (hd : decode cc pc = .ok (.lcmp, 1)) (k : AW x cs ss n h (pc + 1) lv (aI (if a < b then -1 else if b < a then 1 else 0) :: st)) : AW x cs ss n h pc lv (aL b :: aL a :: st) := by
  obtain ⟨p, e, R, s, args, below, meth, c, Q, hw, hx, hb, hml, hown, hts, hK, hH0, hscr, hnm, hroom, hret⟩ := X
  intro H locs ls hR hS hL
  refine (hw H locs cs ss _).mpr (W.lcmp hx hb hd ((hw H locs cs ss _).mp ?_))
  rw [aL_cmp ha hb0]
  exact k H locs ls hR hS hL
theorem A_lcmpE (X : aOk x d cc own nm ret mc ms post) {a : Int64} (hd : decode cc pc = .ok (.lcmp, 1)) (k : AW x cs ss n h (pc + 1) lv (aI 0 :: st)) : AW x cs ss n h pc lv (.long a :: .long a :: st) := by
  obtain ⟨p, e, R, s, args, below, meth, c, Q, hw, hx, hb, hml, hown, hts, hK, hH0, hscr, hnm, hroom, hret⟩ := X
  intro H locs ls hR hS hL
  refine (hw H locs cs ss _).mpr (W.lcmp hx hb hd ((hw H locs cs ss _).mp ?_))
  rw [aL_cmpE]
  exact k H locs ls hR hS hL
theorem A_dup (X : aOk x d cc own nm ret mc ms post) {v : Value} (hd : decode cc pc = .ok (.dup, 1)) (k : AW x cs ss n h (pc + 1) lv (v :: v :: st)) (hv : v.category = 1 := by rfl) : AW x cs ss n h pc lv (v :: st) := by
  obtain ⟨p, e, R, s, args, below, meth, c, Q, hw, hx, hb, hml, hown, hts, hK, hH0, hscr, hnm, hroom, hret⟩ := X
  intro H locs ls hR hS hL
  exact (hw H locs cs ss _).mpr (lv_dup hx hb hd hv ((hw H locs cs ss _).mp (k H locs ls hR hS hL)))
theorem A_dup2 (X : aOk x d cc own nm ret mc ms post) {v u : Value} (hd : decode cc pc = .ok (.dup2, 1)) (k : AW x cs ss n h (pc + 1) lv (v :: u :: v :: u :: st)) (hv : v.category = 1 := by rfl) (hu : u.category = 1 := by rfl) : AW x cs ss n h pc lv (v :: u :: st) := by
  obtain ⟨p, e, R, s, args, below, meth, c, Q, hw, hx, hb, hml, hown, hts, hK, hH0, hscr, hnm, hroom, hret⟩ := X
  intro H locs ls hR hS hL
  exact (hw H locs cs ss _).mpr (lv_dup2_11 hx hb hd hv hu ((hw H locs cs ss _).mp (k H locs ls hR hS hL)))
theorem A_goto (X : aOk x d cc own nm ret mc ms post) {off : Int} {t : Nat} (hd : decode cc pc = .ok (.goto off, 3)) (k : AW x cs ss n h t lv st) (ht : (pc : Int) + off = (t : Int) := by decide) : AW x cs ss n h pc lv st := by
  obtain ⟨p, e, R, s, args, below, meth, c, Q, hw, hx, hb, hml, hown, hts, hK, hH0, hscr, hnm, hroom, hret⟩ := X
  intro H locs ls hR hS hL
  exact (hw H locs cs ss _).mpr (lv_goto hx hb hd ht ((hw H locs cs ss _).mp (k H locs ls hR hS hL)))
theorem A_icmp_eq (X : aOk x d cc own nm ret mc ms post) {a b : Int} {off : Int} {t : Nat} (ha : inR a) (hb0 : inR b) (hd : decode cc pc = .ok (.if_icmp .eq off, 3)) (kt : a = b → AW x cs ss n h t lv st) (kf : a ≠ b → AW x cs ss n h (pc + 3) lv st) (ht : (pc : Int) + off = (t : Int) := by decide) : AW x cs ss n h pc lv (aI b :: aI a :: st) := by
  obtain ⟨p, e, R, s, args, below, meth, c, Q, hw, hx, hb, hml, hown, hts, hK, hH0, hscr, hnm, hroom, hret⟩ := X
  intro H locs ls hR hS hL
  exact (hw H locs cs ss _).mpr (lv_icmp_eq hx hb hd ht (fun q => (hw H locs cs ss _).mp (kt ((aI_eq ha hb0).mp q) H locs ls hR hS hL)) (fun q => (hw H locs cs ss _).mp (kf (fun q2 => q ((aI_eq ha hb0).mpr q2)) H locs ls hR hS hL)))
theorem A_if_eq (X : aOk x d cc own nm ret mc ms post) {a : Int} {off : Int} {t : Nat} (ha : inR a) (hd : decode cc pc = .ok (.ifCond .eq off, 3)) (kt : a = 0 → AW x cs ss n h t lv st) (kf : a ≠ 0 → AW x cs ss n h (pc + 3) lv st) (ht : (pc : Int) + off = (t : Int) := by decide) : AW x cs ss n h pc lv (aI a :: st) := by
  obtain ⟨p, e, R, s, args, below, meth, c, Q, hw, hx, hb, hml, hown, hts, hK, hH0, hscr, hnm, hroom, hret⟩ := X
  intro H locs ls hR hS hL
  exact (hw H locs cs ss _).mpr (lv_if_eq hx hb hd ht (fun q => (hw H locs cs ss _).mp (kt ((aI_eq ha in0).mp q) H locs ls hR hS hL)) (fun q => (hw H locs cs ss _).mp (kf (fun q2 => q ((aI_eq ha in0).mpr q2)) H locs ls hR hS hL)))
theorem A_icmp_ne (X : aOk x d cc own nm ret mc ms post) {a b : Int} {off : Int} {t : Nat} (ha : inR a) (hb0 : inR b) (hd : decode cc pc = .ok (.if_icmp .ne off, 3)) (kt : a ≠ b → AW x cs ss n h t lv st) (kf : a = b → AW x cs ss n h (pc + 3) lv st) (ht : (pc : Int) + off = (t : Int) := by decide) : AW x cs ss n h pc lv (aI b :: aI a :: st) := by
  obtain ⟨p, e, R, s, args, below, meth, c, Q, hw, hx, hb, hml, hown, hts, hK, hH0, hscr, hnm, hroom, hret⟩ := X
  intro H locs ls hR hS hL
  exact (hw H locs cs ss _).mpr (lv_icmp_ne hx hb hd ht (fun q => (hw H locs cs ss _).mp (kt (fun q2 => q ((aI_eq ha hb0).mpr q2)) H locs ls hR hS hL)) (fun q => (hw H locs cs ss _).mp (kf ((aI_eq ha hb0).mp q) H locs ls hR hS hL)))
theorem A_if_ne (X : aOk x d cc own nm ret mc ms post) {a : Int} {off : Int} {t : Nat} (ha : inR a) (hd : decode cc pc = .ok (.ifCond .ne off, 3)) (kt : a ≠ 0 → AW x cs ss n h t lv st) (kf : a = 0 → AW x cs ss n h (pc + 3) lv st) (ht : (pc : Int) + off = (t : Int) := by decide) : AW x cs ss n h pc lv (aI a :: st) := by
  obtain ⟨p, e, R, s, args, below, meth, c, Q, hw, hx, hb, hml, hown, hts, hK, hH0, hscr, hnm, hroom, hret⟩ := X
  intro H locs ls hR hS hL
  exact (hw H locs cs ss _).mpr (lv_if_ne hx hb hd ht (fun q => (hw H locs cs ss _).mp (kt (fun q2 => q ((aI_eq ha in0).mpr q2)) H locs ls hR hS hL)) (fun q => (hw H locs cs ss _).mp (kf ((aI_eq ha in0).mp q) H locs ls hR hS hL)))
theorem A_icmp_lt (X : aOk x d cc own nm ret mc ms post) {a b : Int} {off : Int} {t : Nat} (ha : inR a) (hb0 : inR b) (hd : decode cc pc = .ok (.if_icmp .lt off, 3)) (kt : a < b → AW x cs ss n h t lv st) (kf : b ≤ a → AW x cs ss n h (pc + 3) lv st) (ht : (pc : Int) + off = (t : Int) := by decide) : AW x cs ss n h pc lv (aI b :: aI a :: st) := by
  obtain ⟨p, e, R, s, args, below, meth, c, Q, hw, hx, hb, hml, hown, hts, hK, hH0, hscr, hnm, hroom, hret⟩ := X
  intro H locs ls hR hS hL
  exact (hw H locs cs ss _).mpr (lv_icmp_lt hx hb hd ht (fun q => (hw H locs cs ss _).mp (kt ((aI_lt ha hb0).mp q) H locs ls hR hS hL)) (fun q => (hw H locs cs ss _).mp (kf (by have q3 := mt (aI_lt ha hb0).mpr q; omega) H locs ls hR hS hL)))
theorem A_if_lt (X : aOk x d cc own nm ret mc ms post) {a : Int} {off : Int} {t : Nat} (ha : inR a) (hd : decode cc pc = .ok (.ifCond .lt off, 3)) (kt : a < 0 → AW x cs ss n h t lv st) (kf : 0 ≤ a → AW x cs ss n h (pc + 3) lv st) (ht : (pc : Int) + off = (t : Int) := by decide) : AW x cs ss n h pc lv (aI a :: st) := by
  obtain ⟨p, e, R, s, args, below, meth, c, Q, hw, hx, hb, hml, hown, hts, hK, hH0, hscr, hnm, hroom, hret⟩ := X
  intro H locs ls hR hS hL
  exact (hw H locs cs ss _).mpr (lv_if_lt hx hb hd ht (fun q => (hw H locs cs ss _).mp (kt ((aI_lt ha in0).mp q) H locs ls hR hS hL)) (fun q => (hw H locs cs ss _).mp (kf (by have q3 := mt (aI_lt ha in0).mpr q; omega) H locs ls hR hS hL)))
theorem A_icmp_ge (X : aOk x d cc own nm ret mc ms post) {a b : Int} {off : Int} {t : Nat} (ha : inR a) (hb0 : inR b) (hd : decode cc pc = .ok (.if_icmp .ge off, 3)) (kt : b ≤ a → AW x cs ss n h t lv st) (kf : a < b → AW x cs ss n h (pc + 3) lv st) (ht : (pc : Int) + off = (t : Int) := by decide) : AW x cs ss n h pc lv (aI b :: aI a :: st) := by
  obtain ⟨p, e, R, s, args, below, meth, c, Q, hw, hx, hb, hml, hown, hts, hK, hH0, hscr, hnm, hroom, hret⟩ := X
  intro H locs ls hR hS hL
  exact (hw H locs cs ss _).mpr (lv_icmp_ge hx hb hd ht (fun q => (hw H locs cs ss _).mp (kt ((aI_le hb0 ha).mp q) H locs ls hR hS hL)) (fun q => (hw H locs cs ss _).mp (kf (by have q3 := mt (aI_le hb0 ha).mpr q; omega) H locs ls hR hS hL)))
theorem A_if_ge (X : aOk x d cc own nm ret mc ms post) {a : Int} {off : Int} {t : Nat} (ha : inR a) (hd : decode cc pc = .ok (.ifCond .ge off, 3)) (kt : 0 ≤ a → AW x cs ss n h t lv st) (kf : a < 0 → AW x cs ss n h (pc + 3) lv st) (ht : (pc : Int) + off = (t : Int) := by decide) : AW x cs ss n h pc lv (aI a :: st) := by
  obtain ⟨p, e, R, s, args, below, meth, c, Q, hw, hx, hb, hml, hown, hts, hK, hH0, hscr, hnm, hroom, hret⟩ := X
  intro H locs ls hR hS hL
  exact (hw H locs cs ss _).mpr (lv_if_ge hx hb hd ht (fun q => (hw H locs cs ss _).mp (kt ((aI_le in0 ha).mp q) H locs ls hR hS hL)) (fun q => (hw H locs cs ss _).mp (kf (by have q3 := mt (aI_le in0 ha).mpr q; omega) H locs ls hR hS hL)))
theorem A_icmp_gt (X : aOk x d cc own nm ret mc ms post) {a b : Int} {off : Int} {t : Nat} (ha : inR a) (hb0 : inR b) (hd : decode cc pc = .ok (.if_icmp .gt off, 3)) (kt : b < a → AW x cs ss n h t lv st) (kf : a ≤ b → AW x cs ss n h (pc + 3) lv st) (ht : (pc : Int) + off = (t : Int) := by decide) : AW x cs ss n h pc lv (aI b :: aI a :: st) := by
  obtain ⟨p, e, R, s, args, below, meth, c, Q, hw, hx, hb, hml, hown, hts, hK, hH0, hscr, hnm, hroom, hret⟩ := X
  intro H locs ls hR hS hL
  exact (hw H locs cs ss _).mpr (lv_icmp_gt hx hb hd ht (fun q => (hw H locs cs ss _).mp (kt ((aI_lt hb0 ha).mp q) H locs ls hR hS hL)) (fun q => (hw H locs cs ss _).mp (kf (by have q3 := mt (aI_lt hb0 ha).mpr q; omega) H locs ls hR hS hL)))
theorem A_if_gt (X : aOk x d cc own nm ret mc ms post) {a : Int} {off : Int} {t : Nat} (ha : inR a) (hd : decode cc pc = .ok (.ifCond .gt off, 3)) (kt : 0 < a → AW x cs ss n h t lv st) (kf : a ≤ 0 → AW x cs ss n h (pc + 3) lv st) (ht : (pc : Int) + off = (t : Int) := by decide) : AW x cs ss n h pc lv (aI a :: st) := by
  obtain ⟨p, e, R, s, args, below, meth, c, Q, hw, hx, hb, hml, hown, hts, hK, hH0, hscr, hnm, hroom, hret⟩ := X
  intro H locs ls hR hS hL
  exact (hw H locs cs ss _).mpr (lv_if_gt hx hb hd ht (fun q => (hw H locs cs ss _).mp (kt ((aI_lt in0 ha).mp q) H locs ls hR hS hL)) (fun q => (hw H locs cs ss _).mp (kf (by have q3 := mt (aI_lt in0 ha).mpr q; omega) H locs ls hR hS hL)))
theorem A_icmp_le (X : aOk x d cc own nm ret mc ms post) {a b : Int} {off : Int} {t : Nat} (ha : inR a) (hb0 : inR b) (hd : decode cc pc = .ok (.if_icmp .le off, 3)) (kt : a ≤ b → AW x cs ss n h t lv st) (kf : b < a → AW x cs ss n h (pc + 3) lv st) (ht : (pc : Int) + off = (t : Int) := by decide) : AW x cs ss n h pc lv (aI b :: aI a :: st) := by
  obtain ⟨p, e, R, s, args, below, meth, c, Q, hw, hx, hb, hml, hown, hts, hK, hH0, hscr, hnm, hroom, hret⟩ := X
  intro H locs ls hR hS hL
  exact (hw H locs cs ss _).mpr (lv_icmp_le hx hb hd ht (fun q => (hw H locs cs ss _).mp (kt ((aI_le ha hb0).mp q) H locs ls hR hS hL)) (fun q => (hw H locs cs ss _).mp (kf (by have q3 := mt (aI_le ha hb0).mpr q; omega) H locs ls hR hS hL)))
theorem A_if_le (X : aOk x d cc own nm ret mc ms post) {a : Int} {off : Int} {t : Nat} (ha : inR a) (hd : decode cc pc = .ok (.ifCond .le off, 3)) (kt : a ≤ 0 → AW x cs ss n h t lv st) (kf : 0 < a → AW x cs ss n h (pc + 3) lv st) (ht : (pc : Int) + off = (t : Int) := by decide) : AW x cs ss n h pc lv (aI a :: st) := by
  obtain ⟨p, e, R, s, args, below, meth, c, Q, hw, hx, hb, hml, hown, hts, hK, hH0, hscr, hnm, hroom, hret⟩ := X
  intro H locs ls hR hS hL
  exact (hw H locs cs ss _).mpr (lv_if_le hx hb hd ht (fun q => (hw H locs cs ss _).mp (kt ((aI_le ha in0).mp q) H locs ls hR hS hL)) (fun q => (hw H locs cs ss _).mp (kf (by have q3 := mt (aI_le ha in0).mpr q; omega) H locs ls hR hS hL)))
theorem A_ifnonnull (X : aOk x d cc own nm ret mc ms post) {a : Nat} {off : Int} {t : Nat} (hd : decode cc pc = .ok (.ifnonnull off, 3)) (k : AW x cs ss n h t lv st) (ht : (pc : Int) + off = (t : Int) := by decide) : AW x cs ss n h pc lv (.ref a :: st) := by
  obtain ⟨p, e, R, s, args, below, meth, c, Q, hw, hx, hb, hml, hown, hts, hK, hH0, hscr, hnm, hroom, hret⟩ := X
  intro H locs ls hR hS hL
  exact (hw H locs cs ss _).mpr (lv_ifnonnull hx hb hd ht ((hw H locs cs ss _).mp (k H locs ls hR hS hL)))
theorem A_tabOut (X : aOk x d cc own nm ret mc ms post) {a dflt lo hi : Int} {offs : Array Int} {len t : Nat} (ha : inR a) (hd : decode cc pc = .ok (.tableswitch dflt lo hi offs, len)) (ho : a < lo ∨ hi < a) (k : AW x cs ss n h t lv st) (ht : (pc : Int) + dflt = (t : Int) := by decide) : AW x cs ss n h pc lv (aI a :: st) := by
  obtain ⟨p, e, R, s, args, below, meth, c, Q, hw, hx, hb, hml, hown, hts, hK, hH0, hscr, hnm, hroom, hret⟩ := X
  intro H locs ls hR hS hL
  exact (hw H locs cs ss _).mpr (lv_tableOut hx hb hd (by rw [aT ha]; exact ho) ht ((hw H locs cs ss _).mp (k H locs ls hR hS hL)))
theorem A_tabIn (X : aOk x d cc own nm ret mc ms post) {a dflt lo hi off : Int} {offs : Array Int} {len t : Nat} (ha : inR a) (hd : decode cc pc = .ok (.tableswitch dflt lo hi offs, len)) (j : Nat) (hj : a = lo + (j : Int)) (hhi : lo + (j : Int) ≤ hi) (ho : offs[j]? = some off) (k : AW x cs ss n h t lv st) (ht : (pc : Int) + off = (t : Int) := by decide) : AW x cs ss n h pc lv (aI a :: st) := by
  obtain ⟨p, e, R, s, args, below, meth, c, Q, hw, hx, hb, hml, hown, hts, hK, hH0, hscr, hnm, hroom, hret⟩ := X
  intro H locs ls hR hS hL
  exact (hw H locs cs ss _).mpr (lv_tableIn hx hb hd (by rw [aT ha]; omega) (by rw [aT ha]; omega) (by rw [aT ha, hj, show lo + (j : Int) - lo = (j : Int) by omega]; exact ho) ht ((hw H locs cs ss _).mp (k H locs ls hR hS hL)))
theorem A_lookup (X : aOk x d cc own nm ret mc ms post) {a dflt off : Int} {ps : Array (Int × Int)} {len t : Nat} (ha : inR a) (hd : decode cc pc = .ok (.lookupswitch dflt ps, len)) (ho : Op.lookupswitch.offset ps.toList dflt a = off) (k : AW x cs ss n h t lv st) (hp : (ps.toList.zip (ps.toList.drop 1)).all (fun (a, next) => a.1 < next.1) = true := by decide) (ht : (pc : Int) + off = (t : Int) := by decide) : AW x cs ss n h pc lv (aI a :: st) := by
  obtain ⟨p, e, R, s, args, below, meth, c, Q, hw, hx, hb, hml, hown, hts, hK, hH0, hscr, hnm, hroom, hret⟩ := X
  intro H locs ls hR hS hL
  exact (hw H locs cs ss _).mpr (lv_lookup hx hb hd hp (by rw [aT ha]; exact ho) ht ((hw H locs cs ss _).mp (k H locs ls hR hS hL)))
end AR
end
section
def aiu (f : Int → Int) (z v : Int) : Int → Int := fun k => if k = z then v else f k
theorem aiu_s (f : Int → Int) (z v : Int) : aiu f z v z = v := by simp [aiu]
theorem aiu_n {f : Int → Int} {z v k : Int} (h : k ≠ z) : aiu f z v k = f k := by simp [aiu, h]
theorem aN_of {args : Array Value} {s : State} (hts : ∀ u ∈ lw_gn, u.before args s = true) : aN s := by
  intro w hw hk
  have h1 := hts w (gn_of hw (by unfold aGW; rw [hk]; simp))
  cases w <;> first | (exfalso; revert hk; simp [aNk]; done) | exact va_Nw.of rfl h1 | (rename_i ty; cases ty <;> first | (exfalso; revert hk; simp [aNk]; done) | exact va_AO.of h1)
theorem aB_in {v : Int} (hv : v = 0 ∨ v = 1) : narrow .boolean (.int (Int32.ofInt v)) = .int (Int32.ofInt v) := by
  rcases hv with rfl | rfl <;> decide
section AR
variable {x : aX} {d : Nat} {cc : ByteArray} {own nm : String} {ret : Option FieldType} {mc ms : Nat} {post : aPost} {cs ss n pc : Nat} {h : AH} {lv : List (Option Value)} {st : List Value}

theorem A_gen {a : Nat} {e : va_E} (k : ∀ h2 : AH, h2 a = some e → (∀ q, q ≠ a → h2 q = h q) → h2 = aup h a e → AW x cs ss n h2 pc lv st) : AW x cs ss n (aup h a e) pc lv st := k _ (aup_s h a e) (fun _ hq => aup_n hq) rfl
theorem A_eq {h2 : AH} (e : h = h2) (k : AW x cs ss n h2 pc lv st) : AW x cs ss n h pc lv st := e ▸ k
theorem A_widen (X : aOk x d cc own nm ret mc ms post) {cs2 ss2 : Nat} (h1 : cs ≤ cs2) (h2 : ss ≤ ss2) (k : AW x cs2 ss2 n h pc lv st) : AW x cs ss n h pc lv st := by
  obtain ⟨p, e, R, s, args, below, meth, c, Q, hw, hx, hb, hml, hown, hts, hK, hH0, hscr, hnm, hroom, hret⟩ := X
  intro H locs ls hR hS hL
  exact (hw H locs cs ss _).mpr (W.widen h1 h2 ((hw H locs cs2 ss2 _).mp (k H locs ls hR hS hL)))
theorem A_getf (X : aOk x d cc own nm ret mc ms post) {idx ci k a : Nat} {fin : Bool} {ty : FieldType} {fs : List Value} {v : Value} (hf : aFl own idx ci k fin ty) (hh : h a = some (aOb ci fs)) (hv : fs[k]? = some v) (hd : decode cc pc = .ok (.getfield idx, 3)) (kk : AW x cs ss n h (pc + 3) lv (v :: st)) : AW x cs ss n h pc lv (.ref a :: st) := by
  obtain ⟨p, e, R, s, args, below, meth, c, Q, hw, hx, hb, hml, hown, hts, hK, hH0, hscr, hnm, hroom, hret⟩ := X
  intro H locs ls hR hS hL
  obtain ⟨C, T, N, tys, hc, hk, hin, hty, hnm2, hfin, hpt, hl⟩ := hf
  rcases hl with hl | ⟨host, hl⟩
  · exact (hw H locs cs ss _).mpr (va_get hx hb hts hin hown hK (hR.at hh) 0 rfl hc k hk (hts _ (gn_of hl rfl)) (fun x hx => hx) hv hd ((hw H locs cs ss _).mp (kk H locs ls hR hS hL)))
  · exact (hw H locs cs ss _).mpr (va_getN (host := host) hx hb hts hin hown hK (hR.at hh) 0 rfl hc k hk (hts _ (gn_of hl rfl)) (fun x hx => hx) hv hd ((hw H locs cs ss _).mp (kk H locs ls hR hS hL)))
theorem A_putf (X : aOk x d cc own nm ret mc ms post) {idx ci k a : Nat} {ty : FieldType} {fs : List Value} {v : Value} (hf : aFl own idx ci k false ty) (hh : h a = some (aOb ci fs)) (hd : decode cc pc = .ok (.putfield idx, 3)) (kk : AW x cs ss n (aup h a (aOb ci (fs.set k v))) (pc + 3) lv st) (hlen : k < fs.length := by exact Nat.le_of_ble_eq_true rfl) (hn : narrow ty v = v := by rfl) (hfit : fits ty v = true := by rfl) : AW x cs ss n h pc lv (v :: .ref a :: st) := by
  obtain ⟨p, e, R, s, args, below, meth, c, Q, hw, hx, hb, hml, hown, hts, hK, hH0, hscr, hnm, hroom, hret⟩ := X
  intro H locs ls hR hS hL
  obtain ⟨C, T, N, tys, hc, hk, hin, hty, hnm2, hfin, hpt, hl⟩ := hf
  have hap := va_apart (own := own) hts hin tys hty hnm2 hK hc
  obtain ⟨r, h1, cell, q1, q2, q3, q4⟩ := (hR.2.2 a _ hh).2
  have hr : r = (C, T, N) := Option.some.inj (h1.symm.trans hc)
  subst hr
  obtain ⟨hSl, hfc, kC, hkC, hkind⟩ := hK.1 ci _ hc
  obtain ⟨cf, kf, fi, f, hi, hsl⟩ := hSl k hk
  have hlay := hts _ (hin _ (u_in_lay hk))
  unfold u_lay at hlay
  rw [if_neg (by rw [hfin]; decide)] at hlay
  have hst := (u_facts hfc hkC (u_lays hts hin hk) hi).1
  have h6 := u_store hfc hkC hkind hlay hi hpt hn hfit
  rcases hl with hl | ⟨host, hl⟩
  · refine (hw H locs cs ss _).mpr (W.putK hx hb (f := f) ⟨hown, hts _ (gn_of hl rfl), ⟨_, _, _, hi⟩, hst⟩ (by rw [q2]; exact h6) q1 q3 (by rw [hsl]; exact k2_hasslot (q4 k hk)) rfl rfl hd fun H' e1 e2 e3 => (hw H' _ cs ss _).mp ?_)
    rw [hsl] at e1 ⊢
    exact kk H' _ ls (hR.up hh e2 ⟨_, hc, t_OB.to (V := updV (vp_V fs) k v) ⟨_, e1, q2, q3, t_set q4 hap hk v⟩ (fun j _ => vp_updV_set hlen v j)⟩ e3) (hS.put e2 e3 ((hR.2.2 a _ hh).1)) hL
  · refine (hw H locs cs ss _).mpr (va_WputK (host := host) hx hb (f := f) hown (hts _ (gn_of hl rfl)) hi hst (by rw [q2]; exact h6) q1 q3 (by rw [hsl]; exact k2_hasslot (q4 k hk)) rfl rfl hd fun H' e1 e2 e3 => (hw H' _ cs ss _).mp ?_)
    rw [hsl] at e1 ⊢
    exact kk H' _ ls (hR.up hh e2 ⟨_, hc, t_OB.to (V := updV (vp_V fs) k v) ⟨_, e1, q2, q3, t_set q4 hap hk v⟩ (fun j _ => vp_updV_set hlen v j)⟩ e3) (hS.put e2 e3 ((hR.2.2 a _ hh).1)) hL

theorem A_putF (X : aOk x d cc own nm ret mc ms post) {idx ci k a : Nat} {ty : FieldType} {fs : List Value} {v : Value} (hf : aFl own idx ci k true ty) (hh : h a = some (aOb ci fs)) (hd : decode cc pc = .ok (.putfield idx, 3)) (kk : AW x cs ss n (aup h a (aOb ci (fs.set k v))) (pc + 3) lv st) (hno : ∀ a b c host, ¬ Cond.fieldLinkNest own idx a b c host ∈ lw_tbl) (hini : nm = "<init>" := by rfl) (hdecl : ∀ q, vwCl[ci]? = some q → (q.2.1 k).1 = own := by intro q hq; cases hq; rfl) (hlen : k < fs.length := by exact Nat.le_of_ble_eq_true rfl) (hn : narrow ty v = v := by rfl) (hfit : fits ty v = true := by rfl) : AW x cs ss n h pc lv (v :: .ref a :: st) := by
  obtain ⟨p, e, R, s, args, below, meth, c, Q, hw, hx, hb, hml, hown, hts, hK, hH0, hscr, hnm, hroom, hret⟩ := X
  intro H locs ls hR hS hL
  obtain ⟨C, T, N, tys, hc, hk, hin, hty, hnm2, hfin, hpt, hl⟩ := hf
  have hap := va_apart (own := own) hts hin tys hty hnm2 hK hc
  obtain ⟨r, h1, cell, q1, q2, q3, q4⟩ := (hR.2.2 a _ hh).2
  have hr : r = (C, T, N) := Option.some.inj (h1.symm.trans hc)
  subst hr
  obtain ⟨hSl, hfc, kC, hkC, hkind⟩ := hK.1 ci _ hc
  obtain ⟨cf, kf, fi, f, hi, hsl⟩ := hSl k hk
  have hlay := hts _ (hin _ (u_in_lay hk))
  unfold u_lay at hlay
  rw [if_pos hfin] at hlay
  have hst := (u_facts hfc hkC (u_lays hts hin hk) hi).1
  have hcf : x.2.2.1.cls = cf := by
    obtain ⟨_, _, c', _, _, _, -, -, hf', -, -, -, hown2, -⟩ := Cond.laysFinal_spec hlay
    have e1 : c' = cf := by have := hi.symm.trans hf'; simp at this; exact this.1.symm
    rw [show (T k).1 = own from hdecl _ hc] at hown2
    rw [← e1]; exact Option.some.inj (hown.symm.trans hown2)
  have h6 := u_fits hfc hkC hkind (Or.inr hlay) hi hpt hn hfit
  rcases hl with hl | ⟨host, hl⟩
  · refine (hw H locs cs ss _).mpr (W.putFinK hx hb hown (hts _ (gn_of hl rfl)) hi hst hcf (hnm.trans hini) (by rw [q2]; exact h6) q1 q3 (by rw [hsl]; exact k2_hasslot (q4 k hk)) rfl rfl hd fun H' e1 e2 e3 => (hw H' _ cs ss _).mp ?_)
    rw [hsl] at e1 ⊢
    exact kk H' _ ls (hR.up hh e2 ⟨_, hc, t_OB.to (V := updV (vp_V fs) k v) ⟨_, e1, q2, q3, t_set q4 hap hk v⟩ (fun j _ => vp_updV_set hlen v j)⟩ e3) (hS.put e2 e3 ((hR.2.2 a _ hh).1)) hL
  · exact absurd hl (hno _ _ _ _)

theorem A_iald (X : aOk x d cc own nm ret mc ms post) {a N : Nat} {f : Int → Int} {z : Int} (hh : h a = some (aIa x.1 N f)) (h0 : 0 ≤ z ∧ z < (N : Int)) (hd : decode cc pc = .ok (.iaload, 1)) (kk : AW x cs ss n h (pc + 1) lv (aI (f z) :: st)) (hN : N < 2147483648 := by decide) : AW x cs ss n h pc lv (aI z :: .ref a :: st) := by
  obtain ⟨p, e, R, s, args, below, meth, c, Q, hw, hx, hb, hml, hown, hts, hK, hH0, hscr, hnm, hroom, hret⟩ := X
  intro H locs ls hR hS hL
  obtain ⟨j, rfl⟩ := Int.eq_ofNat_of_zero_le h0.1
  refine (hw H locs cs ss _).mpr (va_iald hx hb hK (hR.at hh) 0 0 rfl rfl (aI_in rfl (by omega) hN) hd ((hw H locs cs ss _).mp ?_))
  show x.2.1 H locs cs ss (F0 _ _ ls (.int (Int32.ofInt (f (((Int32.ofInt (j : Int)).toNatClampNeg : Nat) : Int))) :: st))
  rw [aI_cl rfl (by omega)]
  exact kk H locs ls hR hS hL
theorem A_zald (X : aOk x d cc own nm ret mc ms post) {a N : Nat} {f : Int → Int} {z : Int} (hh : h a = some (aZa x.1 N f)) (h0 : 0 ≤ z ∧ z < (N : Int)) (hd : decode cc pc = .ok (.baload, 1)) (kk : AW x cs ss n h (pc + 1) lv (aI (f z) :: st)) (hN : N < 2147483648 := by decide) : AW x cs ss n h pc lv (aI z :: .ref a :: st) := by
  obtain ⟨p, e, R, s, args, below, meth, c, Q, hw, hx, hb, hml, hown, hts, hK, hH0, hscr, hnm, hroom, hret⟩ := X
  intro H locs ls hR hS hL
  obtain ⟨j, rfl⟩ := Int.eq_ofNat_of_zero_le h0.1
  refine (hw H locs cs ss _).mpr (va_zald hx hb hK (hR.at hh) 0 1 rfl rfl (aI_in rfl (by omega) hN) hd ((hw H locs cs ss _).mp ?_))
  show x.2.1 H locs cs ss (F0 _ _ ls (.int (Int32.ofInt (f (((Int32.ofInt (j : Int)).toNatClampNeg : Nat) : Int))) :: st))
  rw [aI_cl rfl (by omega)]
  exact kk H locs ls hR hS hL
theorem A_iast (X : aOk x d cc own nm ret mc ms post) {a N : Nat} {f : Int → Int} {z v : Int} (hh : h a = some (aIa x.1 N f)) (h0 : 0 ≤ z ∧ z < (N : Int)) (hd : decode cc pc = .ok (.iastore, 1)) (kk : AW x cs ss n (aup h a (aIa x.1 N (aiu f z v))) (pc + 1) lv st) (hN : N < 2147483648 := by decide) : AW x cs ss n h pc lv (aI v :: aI z :: .ref a :: st) := by
  obtain ⟨p, e, R, s, args, below, meth, c, Q, hw, hx, hb, hml, hown, hts, hK, hH0, hscr, hnm, hroom, hret⟩ := X
  intro H locs ls hR hS hL
  obtain ⟨j, rfl⟩ := Int.eq_ofNat_of_zero_le h0.1
  have hin := aI_in (z := (j : Int)) rfl (show j < N by omega) hN
  have hcl : (Int32.ofInt (j : Int)).toNatClampNeg = j := aI_cl rfl (by omega)
  refine (hw H locs cs ss _).mpr (W.iast hx hb ((hR.2.2 a _ hh).2) ((hK.2 0 _ rfl).1 N (fun j => .int (Int32.ofInt (f (j : Int))))) (fun q => by cases q) (by show ¬ (_ < 0 ∨ (arrV _ _ _).slots.size ≤ _); rw [arrV_size]; exact hin) rfl rfl hd fun H1 e z oq => (hw H1 _ cs ss _).mp ?_)
  refine kk H1 _ ls (hR.up hh z ?_ oq) (hS.put z oq (hR.2.2 a _ hh).1) hL
  show H1[a]? = some (vp_cell _ _)
  rw [e]
  rw [hcl, vp_cell_i, vp_cell_i, arrV_store]
  congr 2
  funext q
  by_cases hq : q = j
  · subst hq
    simp [updV, aiu]
  · have hq2 : (q : Int) ≠ (j : Int) := by omega
    simp [updV, aiu, hq, hq2]
theorem A_zast (X : aOk x d cc own nm ret mc ms post) {a N : Nat} {f : Int → Int} {z v : Int} (hh : h a = some (aZa x.1 N f)) (h0 : 0 ≤ z ∧ z < (N : Int)) (hv : v = 0 ∨ v = 1) (hd : decode cc pc = .ok (.bastore, 1)) (kk : AW x cs ss n (aup h a (aZa x.1 N (aiu f z v))) (pc + 1) lv st) (hN : N < 2147483648 := by decide) : AW x cs ss n h pc lv (aI v :: aI z :: .ref a :: st) := by
  obtain ⟨p, e, R, s, args, below, meth, c, Q, hw, hx, hb, hml, hown, hts, hK, hH0, hscr, hnm, hroom, hret⟩ := X
  intro H locs ls hR hS hL
  obtain ⟨j, rfl⟩ := Int.eq_ofNat_of_zero_le h0.1
  have hin := aI_in (z := (j : Int)) rfl (show j < N by omega) hN
  have hcl : (Int32.ofInt (j : Int)).toNatClampNeg = j := aI_cl rfl (by omega)
  refine (hw H locs cs ss _).mpr (W.zast hx hb ((hR.2.2 a _ hh).2) ((hK.2 1 _ rfl).1 N (fun j => .int (Int32.ofInt (f (j : Int))))) (fun q => by cases q) (by show ¬ (_ < 0 ∨ (arrV _ _ _).slots.size ≤ _); rw [arrV_size]; exact hin) rfl rfl hd fun H1 e z oq => (hw H1 _ cs ss _).mp ?_)
  refine kk H1 _ ls (hR.up hh z ?_ oq) (hS.put z oq (hR.2.2 a _ hh).1) hL
  show H1[a]? = some (vp_cell _ _)
  rw [e, aB_in hv]
  rw [hcl, vp_cell_i, vp_cell_i, arrV_store]
  congr 2
  funext q
  by_cases hq : q = j
  · subst hq
    simp [updV, aiu]
  · have hq2 : (q : Int) ≠ (j : Int) := by omega
    simp [updV, aiu, hq, hq2]
theorem A_aald (X : aOk x d cc own nm ret mc ms post) {a N r : Nat} {f : Nat → Option Nat} {z : Int} (hh : h a = some (aJa x.1 N f)) (j : Nat) (hj : z = (j : Int)) (h0 : j < N) (hr : f j = some r) (hd : decode cc pc = .ok (.aaload, 1)) (kk : AW x cs ss n h (pc + 1) lv (.ref r :: st)) (hN : N < 2147483648 := by decide) : AW x cs ss n h pc lv (aI z :: .ref a :: st) := by
  obtain ⟨p, e, R, s, args, below, meth, c, Q, hw, hx, hb, hml, hown, hts, hK, hH0, hscr, hnm, hroom, hret⟩ := X
  intro H locs ls hR hS hL
  refine (hw H locs cs ss _).mpr (va_aldq (C := RX1) hx hb hK (hR.at hh) 0 2 rfl rfl (aI_in hj h0 hN) hd ((hw H locs cs ss _).mp ?_))
  rw [aI_cl hj (by omega), hr]
  exact kk H locs ls hR hS hL
theorem A_slen (X : aOk x d cc own nm ret mc ms post) {b L : Nat} {xs : Nat → Int32} (hs : x.2.2.2.2.2 = some (b, L, xs)) (hd : decode cc pc = .ok (.arraylength, 1)) (kk : AW x cs ss n h (pc + 1) lv (aI (L : Int) :: st)) : AW x cs ss n h pc lv (.ref b :: st) := by
  obtain ⟨p, e, R, s, args, below, meth, c, Q, hw, hx, hb, hml, hown, hts, hK, hH0, hscr, hnm, hroom, hret⟩ := X
  intro H locs ls hR hS hL
  obtain ⟨h1, h2, h3, h4⟩ := hscr b L xs hs
  rw [hH0] at h1 h2
  refine (hw H locs cs ss _).mpr (va_slen hx hb h1 h2 h3 hS hd ((hw H locs cs ss _).mp ?_))
  have k1 := kk H locs ls hR hS hL
  rw [show aI (L : Int) = .int (Int32.ofNat L) from congrArg Value.int (aI_nat L)] at k1
  exact k1
theorem A_sld (X : aOk x d cc own nm ret mc ms post) {b L : Nat} {xs : Nat → Int32} {z : Int} (hs : x.2.2.2.2.2 = some (b, L, xs)) (j : Nat) (hj : z = (j : Int)) (h0 : j < L) (hd : decode cc pc = .ok (.iaload, 1)) (kk : AW x cs ss n h (pc + 1) lv (aI (xs j).toInt :: st)) : AW x cs ss n h pc lv (aI z :: .ref b :: st) := by
  obtain ⟨p, e, R, s, args, below, meth, c, Q, hw, hx, hb, hml, hown, hts, hK, hH0, hscr, hnm, hroom, hret⟩ := X
  intro H locs ls hR hS hL
  obtain ⟨h1, h2, h3, h4⟩ := hscr b L xs hs
  rw [hH0] at h1 h2
  refine (hw H locs cs ss _).mpr (va_sld hx hb h1 h2 h3 hS (aI_in hj h0 h4) hd ((hw H locs cs ss _).mp ?_))
  have k1 := kk H locs ls hR hS hL
  rw [show aI (xs j).toInt = .int (xs j) from congrArg Value.int (Int32.ofInt_toInt _)] at k1
  rw [aI_cl hj (by omega)]
  exact k1
theorem A_new (X : aOk x d cc own nm ret mc ms post) {idx ci N : Nat} {C : String} {T : u_T} {ty : Nat → FieldType} {fs : List Value} (hc : vwCl[ci]? = some (C, T, N)) (hin : ∀ w ∈ u_ws C T N, w ∈ lw_gn) (hty : ∀ k, k < N → parseFieldDescriptor (T k).2.2.1 = some (ty k)) (hcl : Cond.classLink own idx C ∈ lw_tbl) (hin1 : Cond.instantiable C N ∈ lw_tbl) (hin2 : Cond.initialized C ∈ lw_tbl) (hfs : ∀ j, j < N → defaultValue (ty j) = vp_V fs j) (hd : decode cc pc = .ok (.new idx, 3)) (kk : AW x (cs + 1) (ss + N) (n + 1) (aup h n (aOb ci fs)) (pc + 3) lv (.ref n :: st)) (hcs : cs + 1 ≤ mc ∧ ss + N ≤ ms := by decide) : AW x cs ss n h pc lv st := by
  obtain ⟨p, e, R, s, args, below, meth, c, Q, hw, hx, hb, hml, hown, hts, hK, hH0, hscr, hnm, hroom, hret⟩ := X
  intro H locs ls hR hS hL
  have hKn := hK.1 ci _ hc
  refine (hw H locs cs ss _).mpr (W.newcK hx hb hown (hts _ (gn_of hcl rfl)) (hts _ (gn_of hin1 rfl)) (hts _ (gn_of hin2 rfl)) rfl hd (by omega) (by omega) hKn.2.1 hR.1 fun H1 kC hkC e1 z1 o1 => (hw H1 _ _ _ _).mp ?_)
  exact kk H1 _ ls (hR.new z1 ⟨_, hc, (u_born ty hts hin hKn hkC e1 hty).to hfs⟩ o1) ⟨Nat.le_trans hS.1 (by have := hR.1; omega), fun q h1 h2 => (o1 q (by have := hR.1; have := hS.1; omega)).trans (hS.2.1 q h1 h2), hS.2.2⟩ hL
theorem A_newai (X : aOk x d cc own nm ret mc ms post) {z : Int} (N : Nat) (hz : z = (N : Int)) (hd : decode cc pc = .ok (.newarray .int, 2)) (kk : AW x (cs + 1) (ss + N) (n + 1) (aup h n (aIa x.1 N (fun _ => 0))) (pc + 2) lv (.ref n :: st)) (hm : Cond.arrayClass .int ∈ lw_tbl) (hN : N < 100000 := by decide) (hcs : cs + 1 ≤ mc ∧ ss + N ≤ ms := by decide) : AW x cs ss n h pc lv (aI z :: st) := by
  obtain ⟨p, e, R, s, args, below, meth, c, Q, hw, hx, hb, hml, hown, hts, hK, hH0, hscr, hnm, hroom, hret⟩ := X
  intro H locs ls hR hS hL
  have hcl := aI_cl hz (show N < 2147483648 by omega)
  have h0 : ¬ Int32.ofInt z < 0 := by rw [aI_0, aI_lt (by omega) in0]; omega
  have hc8 : componentBytes .int ≤ 8 := by decide
  have hby : N * componentBytes (newarray.typeOf .int) ≤ 536870912 := Nat.le_trans (Nat.mul_le_mul_left N hc8) (by omega)
  refine (hw H locs cs ss _).mpr (va_newaK (atype := .int) hx hb (hts _ (gn_of hm rfl)) rfl hd rfl h0 hcl hby (by omega) (by omega) hR.1 fun H1 cA e1 z1 o1 hAr hNm => (hw H1 _ _ _ _).mp ?_)
  have e2 : cA = x.1.2.2.1.1 := Option.some.inj (hNm.symm.trans (hK.2 0 _ rfl).2)
  subst e2
  exact kk H1 _ ls (hR.new z1 e1 o1) ⟨Nat.le_trans hS.1 (by have := hR.1; omega), fun q h1 h2 => (o1 q (by have := hR.1; have := hS.1; omega)).trans (hS.2.1 q h1 h2), hS.2.2⟩ hL
theorem A_newaz (X : aOk x d cc own nm ret mc ms post) {z : Int} (N : Nat) (hz : z = (N : Int)) (hd : decode cc pc = .ok (.newarray .boolean, 2)) (kk : AW x (cs + 1) (ss + N) (n + 1) (aup h n (aZa x.1 N (fun _ => 0))) (pc + 2) lv (.ref n :: st)) (hm : Cond.arrayClass .boolean ∈ lw_tbl) (hN : N < 100000 := by decide) (hcs : cs + 1 ≤ mc ∧ ss + N ≤ ms := by decide) : AW x cs ss n h pc lv (aI z :: st) := by
  obtain ⟨p, e, R, s, args, below, meth, c, Q, hw, hx, hb, hml, hown, hts, hK, hH0, hscr, hnm, hroom, hret⟩ := X
  intro H locs ls hR hS hL
  have hcl := aI_cl hz (show N < 2147483648 by omega)
  have h0 : ¬ Int32.ofInt z < 0 := by rw [aI_0, aI_lt (by omega) in0]; omega
  have hc8 : componentBytes .boolean ≤ 8 := by decide
  have hby : N * componentBytes (newarray.typeOf .boolean) ≤ 536870912 := Nat.le_trans (Nat.mul_le_mul_left N hc8) (by omega)
  refine (hw H locs cs ss _).mpr (va_newaK (atype := .boolean) hx hb (hts _ (gn_of hm rfl)) rfl hd rfl h0 hcl hby (by omega) (by omega) hR.1 fun H1 cA e1 z1 o1 hAr hNm => (hw H1 _ _ _ _).mp ?_)
  have e2 : cA = x.1.2.2.1.2.1 := Option.some.inj (hNm.symm.trans (hK.2 1 _ rfl).2)
  subst e2
  exact kk H1 _ ls (hR.new z1 e1 o1) ⟨Nat.le_trans hS.1 (by have := hR.1; omega), fun q h1 h2 => (o1 q (by have := hR.1; have := hS.1; omega)).trans (hS.2.1 q h1 h2), hS.2.2⟩ hL
theorem A_objInit (X : aOk x d cc own nm ret mc ms post) {idx a : Nat} (hl : Cond.methodLink own idx Lib.objectInit ∈ lw_tbl) (hi : Cond.instanceMethod Lib.objectInit ∈ lw_tbl) (hc : Cond.code Lib.objectInit ⟨#[0xb1]⟩ 1 none ∈ lw_tbl) (hd : decode cc pc = .ok (.invokespecial idx, 3)) (kk : AW x cs ss n h (pc + 3) lv []) (hdd : 1 ≤ d := by omega) : AW x cs ss n h pc lv [.ref a] := by
  obtain ⟨p, e, R, s, args, below, meth, c, Q, hw, hx, hb, hml, hown, hts, hK, hH0, hscr, hnm, hroom, hret⟩ := X
  intro H locs ls hR hS hL
  exact (hw H locs cs ss _).mpr (W.objInit hx hb hown (hts _ (gn_of hl rfl)) (hts _ (gn_of hi rfl)) (hts _ (gn_of hc rfl)) rfl (hL.2.1.trans hml.symm) rfl hd (by omega) (by show 2 * 0 + 0 + 12 ≤ _; omega) ((hw H locs cs ss _).mp (kk H locs ls hR hS hL)))
theorem A_ret (X : aOk x d cc own nm ret mc ms post) {z : Int} (hd : decode cc pc = .ok (.ireturn, 1)) (hr : ret = some .int) (hp : post (some (aI z)) n h) : AW x mc ms n h pc lv [aI z] := by
  obtain ⟨p, e, R, s, args, below, meth, c, Q, hw, hx, hb, hml, hown, hts, hK, hH0, hscr, hnm, hroom, hret⟩ := X
  intro H locs ls hR hS hL
  subst hr
  exact hret H locs h n (some (aI z)) pc ls hp hR hS hd
theorem A_retz (X : aOk x d cc own nm ret mc ms post) {z : Int} (hd : decode cc pc = .ok (.ireturn, 1)) (hr : ret = some .boolean) (hz : z = 0 ∨ z = 1) (hp : post (some (aI z)) n h) : AW x mc ms n h pc lv [aI z] := by
  obtain ⟨p, e, R, s, args, below, meth, c, Q, hw, hx, hb, hml, hown, hts, hK, hH0, hscr, hnm, hroom, hret⟩ := X
  intro H locs ls hR hS hL
  subst hr
  exact hret H locs h n (some (aI z)) pc ls hp hR hS ⟨hd, aB_in hz⟩
theorem A_retl (X : aOk x d cc own nm ret mc ms post) {z : Int} (hd : decode cc pc = .ok (.lreturn, 1)) (hr : ret = some .long) (hp : post (some (aL z)) n h) : AW x mc ms n h pc lv [aL z] := by
  obtain ⟨p, e, R, s, args, below, meth, c, Q, hw, hx, hb, hml, hown, hts, hK, hH0, hscr, hnm, hroom, hret⟩ := X
  intro H locs ls hR hS hL
  subst hr
  exact hret H locs h n (some (aL z)) pc ls hp hR hS hd
theorem A_reta (X : aOk x d cc own nm ret mc ms post) {z : Nat} {C : String} (hd : decode cc pc = .ok (.areturn, 1)) (hr : ret = some (.object C)) (hp : post (some (.ref z)) n h) : AW x mc ms n h pc lv [.ref z] := by
  obtain ⟨p, e, R, s, args, below, meth, c, Q, hw, hx, hb, hml, hown, hts, hK, hH0, hscr, hnm, hroom, hret⟩ := X
  intro H locs ls hR hS hL
  subst hr
  exact hret H locs h n (some (.ref z)) pc ls hp hR hS hd
theorem A_retv (X : aOk x d cc own nm ret mc ms post) (hd : decode cc pc = .ok (.return_, 1)) (hr : ret = none) (hp : post none n h) : AW x mc ms n h pc lv [] := by
  obtain ⟨p, e, R, s, args, below, meth, c, Q, hw, hx, hb, hml, hown, hts, hK, hH0, hscr, hnm, hroom, hret⟩ := X
  intro H locs ls hR hS hL
  subst hr
  exact hret H locs h n none pc ls hp hR hS hd
theorem aCall_end {p : Program} {e : Env} {R : Room} {s : State} {args : Array Value} {below : List Frame} {meth : Method} {c : Code} {Q : State → Prop} {mc2 ms2 : Nat} {post2 : aPost} {st0 rest : List Value} {H : Heap} {locs : List Loc} {ls : Array Slot}
    (hw : ∀ (H : Heap) (locs : List Loc) (cs ss : Nat) (g : JFrame), x.2.1 H locs cs ss g ↔ W p x.1.1 e R s x.2.2.1 args below meth c H locs cs ss Q g)
    (hS : va_S (aA x.1) x.2.2.2.2.1 H locs) (hL : lo_has ls x.2.2.2.1 lv)
    (hr : va_Run p x.1.1 e R s x.2.2.1 args below meth c H locs cs ss mc2 ms2 (F0 x.2.2.1 pc ls st0) rest (fun st oc t => (∃ (v : Option Value) (n' : Nat) (h' : AH), oc = .returned v ∧ post2 v n' h' ∧ aRep x.1 n' h' t.heap) ∧ va_F (aA x.1) st t) (aA x.1))
    (kk : ∀ (v : Option Value) (n' : Nat) (h' : AH), post2 v n' h' → AW x (cs + mc2) (ss + ms2) n' h' (pc + 3) lv (v.toList ++ rest)) : x.2.1 H locs cs ss (F0 x.2.2.1 pc ls st0) := by
  refine (hw H locs cs ss _).mpr ?_
  intro T hT XT
  obtain ⟨v, st₀, t, T', L, h0, X', hLl, e1, e2, ⟨⟨v', n', h', hv, hp, hR'⟩, hz, hk⟩, stp⟩ := hr T hT XT
  cases hv
  rw [h0] at hz hk
  have k1 := (hw T'.heap (locs ++ L) (cs + mc2) (ss + ms2) _).mp (kk v n' h' hp T'.heap (locs ++ L) ls (by rw [e1]; exact hR')
    ⟨Nat.le_trans hS.1 (by rw [e1]; exact hz), fun q h1 h2 => by rw [e1, hk q (Nat.lt_of_lt_of_le h1 hS.1) h2]; exact hS.2.1 q h1 h2, fun q hq => by
      rcases List.mem_append.mp hq with h | h
      · exact hS.2.2 q h
      · exact hLl q h⟩ hL)
  obtain ⟨t2, a1, b1⟩ := k1 T' rfl X'
  exact ⟨t2, stp t2 a1, b1⟩
theorem aBlind {G : aG} {av : List Value} {n : Nat} {h : AH} : FrameBlind (va_Pc av (fun U => aRep G n h U.heap ∧ va_K G.2.1 vwCl (aTys G) U ∧ aN U)) := fun a U g mk q => ⟨q.1, q.2.1, va_K.moved (u := U) (U := U.calling g mk a) (Vm.Alike.refl U.vm) q.2.2.1, aN.same (s := U) (U := U.calling g mk a) rfl q.2.2.2⟩
theorem aGood {kM : aM} {na : Nat} (kc : aKc kM na) : GoodIn lw_gn (Cond.code kM.1 kM.2.1 kM.2.2.1 kM.2.2.2 :: lw_gt) := by
  intro w hw
  rcases List.mem_cons.mp hw with rfl | h
  · exact ⟨gn_of kc.1 rfl, Or.inl rfl⟩
  · obtain ⟨h1, h2⟩ := List.mem_filter.mp h
    exact ⟨gn_of h1 (by unfold aGW; rw [h2]; rfl), good_of_word h2⟩
theorem A_callV (X : aOk x d cc own nm ret mc ms post) {mc2 ms2 d2 idx : Nat} {kM : aM} {post2 : aPost} {na : Nat} {As : List Value} {r ci : Nat} {fs : List Value} (hc : aCt x.1 d2 kM mc2 ms2 (.ref r :: As) n h post2) (hh : h r = some (aOb ci fs)) (hci : (vwCl[ci]?).map (fun q => q.1) = some kM.1.cls) (kc : aKV kM na) (hna : As.length = na) (hl : Cond.methodLink own idx kM.1 ∈ lw_tbl) (hd : decode cc pc = .ok (.invokevirtual idx, 3)) (kk : ∀ (v : Option Value) (n' : Nat) (h' : AH), post2 v n' h' → AW x (cs + mc2) (ss + ms2) n' h' (pc + 3) lv (v.toList ++ st)) (hdd : d2 + 1 ≤ d := by omega) (hcs : cs + mc2 ≤ mc ∧ ss + ms2 ≤ ms := by decide) (hsum : (st.map fun v => v.category).sum ≤ 8 := by exact Nat.le_of_ble_eq_true rfl) : AW x cs ss n h pc lv (As.reverse ++ .ref r :: st) := by
  obtain ⟨p, e, R, s, args, below, meth, c, Q, hw, hx, hb, hml, hown, hts, hK, hH0, hscr, hnm, hroom, hret⟩ := X
  intro H locs ls hR hS hL
  obtain ⟨hcs1, hcs2⟩ := hcs
  have hN := aN_of hts
  have hG := aGood kc.1
  have hPu : ∀ U : State, U.heap = H → s.WarmedH U.vm → va_Pc (.ref r :: As) (fun U => aRep x.1 n h U.heap ∧ va_K x.1.2.1 vwCl (aTys x.1) U ∧ aN U) ((.ref r :: As)).toArray U := fun U hU hW => ⟨rfl, by rw [hU]; exact hR, va_K.moved hW.alike hK, hN.warm hW⟩
  have hna : As.length = na := hna
  refine aCall_end (mc2 := mc2) (ms2 := ms2) (rest := st) hw hS hL (va_runV (As := As) (rest := st) ⟨hx, hb, hml, hown, hts⟩ hc ⟨callB_of na hts hG rfl rfl rfl (hts _ (gn_of kc.1.2.1 rfl)) (hts _ (gn_of hl rfl)) kc.1.2.2.1 ⟨by show d2 + 1 ≤ R.frames; omega, by show 8 + (kM.2.2.1 + 11) + 40 * d2 ≤ R.locals; have := kc.1.2.2.2.1; omega⟩, hts _ (gn_of kc.2.1 rfl), hts _ (gn_of kc.2.2 rfl)⟩ ⟨aBlind, by obtain ⟨q, hq, hq2⟩ := Option.map_eq_some_iff.mp hci; rw [← hq2]; exact va_recv (q0 := 0) hK (hR.at hh) hq rfl, hPu⟩ rfl hna (hL.2.1) rfl (lv_room hsum) hd ⟨by omega, by omega⟩) kk
theorem A_callVN (X : aOk x d cc own nm ret mc ms post) {mc2 ms2 d2 idx : Nat} {kM : aM} {post2 : aPost} {na : Nat} {As : List Value} {r ci : Nat} {fs : List Value} {host : String} (hc : aCt x.1 d2 kM mc2 ms2 (.ref r :: As) n h post2) (hh : h r = some (aOb ci fs)) (hci : (vwCl[ci]?).map (fun q => q.1) = some kM.1.cls) (kc : aKV kM na) (hna : As.length = na) (hl : Cond.methodLinkNest own idx kM.1 host ∈ lw_tbl) (hd : decode cc pc = .ok (.invokevirtual idx, 3)) (kk : ∀ (v : Option Value) (n' : Nat) (h' : AH), post2 v n' h' → AW x (cs + mc2) (ss + ms2) n' h' (pc + 3) lv (v.toList ++ st)) (hdd : d2 + 1 ≤ d := by omega) (hcs : cs + mc2 ≤ mc ∧ ss + ms2 ≤ ms := by decide) (hsum : (st.map fun v => v.category).sum ≤ 8 := by exact Nat.le_of_ble_eq_true rfl) : AW x cs ss n h pc lv (As.reverse ++ .ref r :: st) := by
  obtain ⟨p, e, R, s, args, below, meth, c, Q, hw, hx, hb, hml, hown, hts, hK, hH0, hscr, hnm, hroom, hret⟩ := X
  intro H locs ls hR hS hL
  obtain ⟨hcs1, hcs2⟩ := hcs
  have hN := aN_of hts
  have hG := aGood kc.1
  have hPu : ∀ U : State, U.heap = H → s.WarmedH U.vm → va_Pc (.ref r :: As) (fun U => aRep x.1 n h U.heap ∧ va_K x.1.2.1 vwCl (aTys x.1) U ∧ aN U) ((.ref r :: As)).toArray U := fun U hU hW => ⟨rfl, by rw [hU]; exact hR, va_K.moved hW.alike hK, hN.warm hW⟩
  have hna : As.length = na := hna
  refine aCall_end (mc2 := mc2) (ms2 := ms2) (rest := st) hw hS hL (va_runVN (As := As) (rest := st) ⟨hx, hb, hml, hown, hts⟩ hc ⟨va_cnB na hts hG rfl rfl rfl (hN _ hl rfl) (hts _ (gn_of kc.1.2.1 rfl)) kc.1.2.2.1 ⟨by show d2 + 1 ≤ R.frames; omega, by show 8 + (kM.2.2.1 + 11) + 40 * d2 ≤ R.locals; have := kc.1.2.2.2.1; omega⟩, hts _ (gn_of kc.2.1 rfl), hts _ (gn_of kc.2.2 rfl)⟩ ⟨aBlind, by obtain ⟨q, hq, hq2⟩ := Option.map_eq_some_iff.mp hci; rw [← hq2]; exact va_recv (q0 := 0) hK (hR.at hh) hq rfl, hPu⟩ rfl hna (hL.2.1) rfl (lv_room hsum) hd ⟨by omega, by omega⟩) kk
theorem A_callS (X : aOk x d cc own nm ret mc ms post) {mc2 ms2 d2 idx : Nat} {kM : aM} {post2 : aPost} {na : Nat} {As : List Value} (hc : aCt x.1 d2 kM mc2 ms2 As n h post2) (kc : aKS kM na) (hna : As.length = na) (hl : Cond.methodLink own idx kM.1 ∈ lw_tbl) (hd : decode cc pc = .ok (.invokestatic idx, 3)) (kk : ∀ (v : Option Value) (n' : Nat) (h' : AH), post2 v n' h' → AW x (cs + mc2) (ss + ms2) n' h' (pc + 3) lv (v.toList ++ st)) (hdd : d2 + 1 ≤ d := by omega) (hcs : cs + mc2 ≤ mc ∧ ss + ms2 ≤ ms := by decide) (hsum : (st.map fun v => v.category).sum ≤ 8 := by exact Nat.le_of_ble_eq_true rfl) : AW x cs ss n h pc lv (As.reverse ++ st) := by
  obtain ⟨p, e, R, s, args, below, meth, c, Q, hw, hx, hb, hml, hown, hts, hK, hH0, hscr, hnm, hroom, hret⟩ := X
  intro H locs ls hR hS hL
  obtain ⟨hcs1, hcs2⟩ := hcs
  have hN := aN_of hts
  have hG := aGood kc.1
  have hPu : ∀ U : State, U.heap = H → s.WarmedH U.vm → va_Pc As (fun U => aRep x.1 n h U.heap ∧ va_K x.1.2.1 vwCl (aTys x.1) U ∧ aN U) (As).toArray U := fun U hU hW => ⟨rfl, by rw [hU]; exact hR, va_K.moved hW.alike hK, hN.warm hW⟩
  have hna : As.length = na := hna
  refine aCall_end (mc2 := mc2) (ms2 := ms2) (rest := st) hw hS hL (va_runS (As := As) (rest := st) ⟨hx, hb, hml, hown, hts⟩ hc ⟨callB_of na hts hG rfl rfl rfl (hts _ (gn_of kc.1.2.1 rfl)) (hts _ (gn_of hl rfl)) kc.1.2.2.1 ⟨by show d2 + 1 ≤ R.frames; omega, by show 8 + (kM.2.2.1 + 11) + 40 * d2 ≤ R.locals; have := kc.1.2.2.2.1; omega⟩, hts _ (gn_of kc.2 rfl)⟩ ⟨aBlind, hPu⟩ rfl hna (hL.2.1) rfl (lv_room hsum) hd ⟨by omega, by omega⟩) kk
theorem A_callSN (X : aOk x d cc own nm ret mc ms post) {mc2 ms2 d2 idx : Nat} {kM : aM} {post2 : aPost} {na : Nat} {As : List Value} {host : String} (hc : aCt x.1 d2 kM mc2 ms2 As n h post2) (kc : aKS kM na) (hna : As.length = na) (hl : Cond.methodLinkNest own idx kM.1 host ∈ lw_tbl) (hd : decode cc pc = .ok (.invokestatic idx, 3)) (kk : ∀ (v : Option Value) (n' : Nat) (h' : AH), post2 v n' h' → AW x (cs + mc2) (ss + ms2) n' h' (pc + 3) lv (v.toList ++ st)) (hdd : d2 + 1 ≤ d := by omega) (hcs : cs + mc2 ≤ mc ∧ ss + ms2 ≤ ms := by decide) (hsum : (st.map fun v => v.category).sum ≤ 8 := by exact Nat.le_of_ble_eq_true rfl) : AW x cs ss n h pc lv (As.reverse ++ st) := by
  obtain ⟨p, e, R, s, args, below, meth, c, Q, hw, hx, hb, hml, hown, hts, hK, hH0, hscr, hnm, hroom, hret⟩ := X
  intro H locs ls hR hS hL
  obtain ⟨hcs1, hcs2⟩ := hcs
  have hN := aN_of hts
  have hG := aGood kc.1
  have hPu : ∀ U : State, U.heap = H → s.WarmedH U.vm → va_Pc As (fun U => aRep x.1 n h U.heap ∧ va_K x.1.2.1 vwCl (aTys x.1) U ∧ aN U) (As).toArray U := fun U hU hW => ⟨rfl, by rw [hU]; exact hR, va_K.moved hW.alike hK, hN.warm hW⟩
  have hna : As.length = na := hna
  refine aCall_end (mc2 := mc2) (ms2 := ms2) (rest := st) hw hS hL (va_runSN (As := As) (rest := st) ⟨hx, hb, hml, hown, hts⟩ hc ⟨va_cnB na hts hG rfl rfl rfl (hN _ hl rfl) (hts _ (gn_of kc.1.2.1 rfl)) kc.1.2.2.1 ⟨by show d2 + 1 ≤ R.frames; omega, by show 8 + (kM.2.2.1 + 11) + 40 * d2 ≤ R.locals; have := kc.1.2.2.2.1; omega⟩, hts _ (gn_of kc.2 rfl), trivial⟩ ⟨aBlind, hPu⟩ rfl hna (hL.2.1) rfl (lv_room hsum) hd ⟨by omega, by omega⟩) kk
theorem A_callI (X : aOk x d cc own nm ret mc ms post) {mc2 ms2 d2 idx : Nat} {kM : aM} {post2 : aPost} {na : Nat} {As : List Value} {r : Nat} (hc : aCt x.1 d2 kM mc2 ms2 (.ref r :: As) n h post2) (kc : aKI kM na) (hret0 : kM.2.2.2 = none) (hna : As.length = na) (hl : Cond.methodLink own idx kM.1 ∈ lw_tbl) (hd : decode cc pc = .ok (.invokespecial idx, 3)) (kk : ∀ (v : Option Value) (n' : Nat) (h' : AH), post2 v n' h' → AW x (cs + mc2) (ss + ms2) n' h' (pc + 3) lv (v.toList ++ st)) (hdd : d2 + 1 ≤ d := by omega) (hcs : cs + mc2 ≤ mc ∧ ss + ms2 ≤ ms := by decide) (hsum : (st.map fun v => v.category).sum ≤ 8 := by exact Nat.le_of_ble_eq_true rfl) : AW x cs ss n h pc lv (As.reverse ++ .ref r :: st) := by
  obtain ⟨p, e, R, s, args, below, meth, c, Q, hw, hx, hb, hml, hown, hts, hK, hH0, hscr, hnm, hroom, hret⟩ := X
  intro H locs ls hR hS hL
  obtain ⟨hcs1, hcs2⟩ := hcs
  have hN := aN_of hts
  have hG := aGood kc.1
  have hPu : ∀ U : State, U.heap = H → s.WarmedH U.vm → va_Pc (.ref r :: As) (fun U => aRep x.1 n h U.heap ∧ va_K x.1.2.1 vwCl (aTys x.1) U ∧ aN U) ((.ref r :: As)).toArray U := fun U hU hW => ⟨rfl, by rw [hU]; exact hR, va_K.moved hW.alike hK, hN.warm hW⟩
  have hna : As.length = na := hna
  refine aCall_end (mc2 := mc2) (ms2 := ms2) (rest := st) hw hS hL (va_runI (As := As) (rest := st) ⟨hx, hb, hml, hown, hts⟩ hc ⟨by rw [← hret0]; exact callB_of na hts hG rfl rfl rfl (hts _ (gn_of kc.1.2.1 rfl)) (hts _ (gn_of hl rfl)) kc.1.2.2.1 ⟨by show d2 + 1 ≤ R.frames; omega, by show 8 + (kM.2.2.1 + 11) + 40 * d2 ≤ R.locals; have := kc.1.2.2.2.1; omega⟩, kc.2.2, hts _ (gn_of kc.2.1 rfl)⟩ ⟨aBlind, hPu⟩ rfl hna (hL.2.1) rfl (lv_room hsum) hd ⟨by omega, by omega⟩) kk
theorem A_callIN (X : aOk x d cc own nm ret mc ms post) {mc2 ms2 d2 idx : Nat} {kM : aM} {post2 : aPost} {na : Nat} {As : List Value} {r : Nat} {host : String} (hc : aCt x.1 d2 kM mc2 ms2 (.ref r :: As) n h post2) (kc : aKI kM na) (hret0 : kM.2.2.2 = none) (hna : As.length = na) (hl : Cond.methodLinkNest own idx kM.1 host ∈ lw_tbl) (hd : decode cc pc = .ok (.invokespecial idx, 3)) (kk : ∀ (v : Option Value) (n' : Nat) (h' : AH), post2 v n' h' → AW x (cs + mc2) (ss + ms2) n' h' (pc + 3) lv (v.toList ++ st)) (hdd : d2 + 1 ≤ d := by omega) (hcs : cs + mc2 ≤ mc ∧ ss + ms2 ≤ ms := by decide) (hsum : (st.map fun v => v.category).sum ≤ 8 := by exact Nat.le_of_ble_eq_true rfl) : AW x cs ss n h pc lv (As.reverse ++ .ref r :: st) := by
  obtain ⟨p, e, R, s, args, below, meth, c, Q, hw, hx, hb, hml, hown, hts, hK, hH0, hscr, hnm, hroom, hret⟩ := X
  intro H locs ls hR hS hL
  obtain ⟨hcs1, hcs2⟩ := hcs
  have hN := aN_of hts
  have hG := aGood kc.1
  have hPu : ∀ U : State, U.heap = H → s.WarmedH U.vm → va_Pc (.ref r :: As) (fun U => aRep x.1 n h U.heap ∧ va_K x.1.2.1 vwCl (aTys x.1) U ∧ aN U) ((.ref r :: As)).toArray U := fun U hU hW => ⟨rfl, by rw [hU]; exact hR, va_K.moved hW.alike hK, hN.warm hW⟩
  have hna : As.length = na := hna
  refine aCall_end (mc2 := mc2) (ms2 := ms2) (rest := st) hw hS hL (va_runIN (As := As) (rest := st) ⟨hx, hb, hml, hown, hts⟩ hc ⟨by rw [← hret0]; exact va_cnB na hts hG rfl rfl rfl (hN _ hl rfl) (hts _ (gn_of kc.1.2.1 rfl)) kc.1.2.2.1 ⟨by show d2 + 1 ≤ R.frames; omega, by show 8 + (kM.2.2.1 + 11) + 40 * d2 ≤ R.locals; have := kc.1.2.2.2.1; omega⟩, kc.2.2, hts _ (gn_of kc.2.1 rfl)⟩ ⟨aBlind, hPu⟩ rfl hna (hL.2.1) rfl (lv_room hsum) hd ⟨by omega, by omega⟩) kk
end AR
/-- a contract out of the walk of its body -/
theorem aCt_of {G : aG} {d : Nat} {kM : aM} {mc ms : Nat} {av : List Value} {n na : Nat} {h : AH} {post : aPost} {lv : List (Option Value)} (kc : aKc kM na) (hlv : lo_args av ++ List.replicate (kM.2.2.1 - (lo_args av).length) none = lv) (hlen : lv.length = kM.2.2.1) (hsl : (lg_sl av).length ≤ kM.2.2.1)
    (body : ∀ x : aX, x.1 = G → x.2.2.2.2.2 = none → aOk x d kM.2.1 kM.1.cls kM.1.name kM.2.2.2 mc ms post → AW x 0 0 n h 0 lv []) : aCt G d kM mc ms av n h post := by
  refine Met.ofW (cc := kM.2.1) (maxL := kM.2.2.1) (ret := kM.2.2.2) kc.2.2.2.2 rfl ?_
  intro p e s m args below meth c s₁ B hml hv
  obtain ⟨rfl, hR, hK, hN⟩ := hv
  have hx := B.exec
  have hb := B.bytes
  have hr := B.returns
  have hts0 := atoms_spec (ws := Cond.code kM.1 kM.2.1 kM.2.2.1 kM.2.2.2 :: lw_gt) B.pre
  have hown : s.vm.findClass kM.1.cls = some m.cls := findClass_of_methodNamed B.named
  have hlocks := B.notSynchronized
  have hin : meth.name = kM.1.name := (name_of_methodNamed B.named B.method).1
  have hts : ∀ u ∈ lw_gn, u.before av.toArray s = true := by
    intro u hu
    obtain ⟨h1, h2⟩ := List.mem_filter.mp hu
    unfold aGW at h2
    rcases Bool.or_eq_true _ _ ▸ h2 with h3 | h3
    · exact hts0 u (List.mem_cons_of_mem _ (List.mem_filter.mpr ⟨h1, h3⟩))
    · have h4 := hN u h1 h3
      cases u <;> first | (exfalso; revert h3; simp [aNk]; done) | exact va_Nw.use rfl h4 | (rename_i ty; cases ty <;> first | (exfalso; revert h3; simp [aNk]; done) | exact va_AO.use h4)
  have hl := lv_entry av (n := kM.2.2.1) hsl
  rw [lg_entry_eq]
  refine body (G, fun H locs cs ss g => W p G.1 e _ s m av.toArray below meth c H locs cs ss (MQ below _ av.toArray s mc ms (aA G)) g, m, kM.2.2.1, s.heap, none) rfl rfl ?_ s.heap [] _ hR va_S.rf (lo_entry hl hlv hlen)
  refine ⟨p, e, _, s, av.toArray, below, meth, c, _, fun H locs cs ss g => Iff.rfl, hx, hb, hml, hown, hts, hK, rfl, (fun b L xs h => by cases h), hin, ⟨Nat.le_refl _, Nat.le_refl _, Nat.le_refl _, Nat.le_refl _⟩, ?_⟩
  intro H locs h' n' v pc ls hp hR' hS' hd
  have hQ : ∀ t : State, t.heap = H → ((∃ (v' : Option Value) (n' : Nat) (h' : AH), Outcome.returned v = .returned v' ∧ post v' n' h' ∧ aRep G n' h' t.heap) ∧ va_F (aA G) s t) := fun t ht => ⟨⟨v, n', h', rfl, hp, by rw [ht]; exact hR'⟩, hS'.F ht⟩
  generalize hrt : kM.2.2.2 = rt at hd hr
  unfold aRet at hd
  split at hd
  · exact W.vret hx hb hr (fun t ht _ => hQ t ht) hS'.2.2 hd hlocks
  · exact W.iret hx hb hr (fun t ht _ => hQ t ht) hS'.2.2 hd hlocks
  · exact W.zret hx hb hr hd.2 (fun t ht _ => hQ t ht) hS'.2.2 hd.1 hlocks
  · exact W.lret hx hb hr (fun t ht _ => hQ t ht) hS'.2.2 hd hlocks
  · exact W.aret hx hb hr (Or.inl ⟨_, rfl⟩) (Or.inr ⟨_, rfl⟩) (fun t ht _ => hQ t ht) hS'.2.2 hd hlocks
  · exact hd.elim
end
section
section AR
variable {x : aX} {d : Nat} {cc : ByteArray} {own nm : String} {ret : Option FieldType} {mc ms : Nat} {post : aPost} {cs ss n pc : Nat} {h : AH} {lv : List (Option Value)} {st : List Value}

theorem A_il0 (X : aOk x d cc own nm ret mc ms post) {z : Int} {lr : List (Option Value)} (hd : decode cc pc = .ok (.iload_n 0, 1)) (kk : AW x cs ss n h (pc + 1) (some (aI z) :: lr) (aI z :: st)) : AW x cs ss n h pc (some (aI z) :: lr) st := A_iload_n X hd rfl rfl kk
theorem A_al0 (X : aOk x d cc own nm ret mc ms post) {z : Nat} {lr : List (Option Value)} (hd : decode cc pc = .ok (.aload_n 0, 1)) (kk : AW x cs ss n h (pc + 1) (some (.ref z) :: lr) (.ref z :: st)) : AW x cs ss n h pc (some (.ref z) :: lr) st := A_aload_n X hd rfl rfl kk
theorem A_ll0 (X : aOk x d cc own nm ret mc ms post) {z : Int} {lr : List (Option Value)} (hd : decode cc pc = .ok (.lload_n 0, 1)) (kk : AW x cs ss n h (pc + 1) (some (aL z) :: lr) (aL z :: st)) : AW x cs ss n h pc (some (aL z) :: lr) st := A_lload_n X hd rfl rfl kk
theorem A_is0 (X : aOk x d cc own nm ret mc ms post) {z : Int32} {ok : Option Value} {lr : List (Option Value)} (hd : decode cc pc = .ok (.istore_n 0, 1)) (kk : AW x cs ss n h (pc + 1) (some (.int z) :: lr) st) (hc : lo_c1 (ok :: lr) = true := by rfl) : AW x cs ss n h pc (ok :: lr) (.int z :: st) := A_istore_n (i := 0) X hd rfl (by simp only [List.length_cons]; omega) hc kk
theorem A_as0 (X : aOk x d cc own nm ret mc ms post) {z : Nat} {ok : Option Value} {lr : List (Option Value)} (hd : decode cc pc = .ok (.astore_n 0, 1)) (kk : AW x cs ss n h (pc + 1) (some (.ref z) :: lr) st) (hc : lo_c1 (ok :: lr) = true := by rfl) : AW x cs ss n h pc (ok :: lr) (.ref z :: st) := A_astore_n (i := 0) X hd rfl (by simp only [List.length_cons]; omega) hc kk
theorem A_ii0 (X : aOk x d cc own nm ret mc ms post) {z w : Int} {lr : List (Option Value)} (hd : decode cc pc = .ok (.iinc 0 w, 3)) (kk : AW x cs ss n h (pc + 3) (some (aI (z + w)) :: lr) st) (hc : lo_c1 (some (aI z) :: lr) = true := by rfl) : AW x cs ss n h pc (some (aI z) :: lr) st := A_iinc X hd rfl hc kk
theorem A_il1 (X : aOk x d cc own nm ret mc ms post) {z : Int} {o0 : Option Value} {lr : List (Option Value)} (hd : decode cc pc = .ok (.iload_n 1, 1)) (kk : AW x cs ss n h (pc + 1) (o0 :: some (aI z) :: lr) (aI z :: st)) : AW x cs ss n h pc (o0 :: some (aI z) :: lr) st := A_iload_n X hd rfl rfl kk
theorem A_al1 (X : aOk x d cc own nm ret mc ms post) {z : Nat} {o0 : Option Value} {lr : List (Option Value)} (hd : decode cc pc = .ok (.aload_n 1, 1)) (kk : AW x cs ss n h (pc + 1) (o0 :: some (.ref z) :: lr) (.ref z :: st)) : AW x cs ss n h pc (o0 :: some (.ref z) :: lr) st := A_aload_n X hd rfl rfl kk
theorem A_is1 (X : aOk x d cc own nm ret mc ms post) {z : Int32} {o0 : Option Value} {ok : Option Value} {lr : List (Option Value)} (hd : decode cc pc = .ok (.istore_n 1, 1)) (kk : AW x cs ss n h (pc + 1) (o0 :: some (.int z) :: lr) st) (hc : lo_c1 (o0 :: ok :: lr) = true := by rfl) : AW x cs ss n h pc (o0 :: ok :: lr) (.int z :: st) := A_istore_n (i := 1) X hd rfl (by simp only [List.length_cons]; omega) hc kk
theorem A_as1 (X : aOk x d cc own nm ret mc ms post) {z : Nat} {o0 : Option Value} {ok : Option Value} {lr : List (Option Value)} (hd : decode cc pc = .ok (.astore_n 1, 1)) (kk : AW x cs ss n h (pc + 1) (o0 :: some (.ref z) :: lr) st) (hc : lo_c1 (o0 :: ok :: lr) = true := by rfl) : AW x cs ss n h pc (o0 :: ok :: lr) (.ref z :: st) := A_astore_n (i := 1) X hd rfl (by simp only [List.length_cons]; omega) hc kk
theorem A_ii1 (X : aOk x d cc own nm ret mc ms post) {z w : Int} {o0 : Option Value} {lr : List (Option Value)} (hd : decode cc pc = .ok (.iinc 1 w, 3)) (kk : AW x cs ss n h (pc + 3) (o0 :: some (aI (z + w)) :: lr) st) (hc : lo_c1 (o0 :: some (aI z) :: lr) = true := by rfl) : AW x cs ss n h pc (o0 :: some (aI z) :: lr) st := A_iinc X hd rfl hc kk
theorem A_il2 (X : aOk x d cc own nm ret mc ms post) {z : Int} {o0 o1 : Option Value} {lr : List (Option Value)} (hd : decode cc pc = .ok (.iload_n 2, 1)) (kk : AW x cs ss n h (pc + 1) (o0 :: o1 :: some (aI z) :: lr) (aI z :: st)) : AW x cs ss n h pc (o0 :: o1 :: some (aI z) :: lr) st := A_iload_n X hd rfl rfl kk
theorem A_al2 (X : aOk x d cc own nm ret mc ms post) {z : Nat} {o0 o1 : Option Value} {lr : List (Option Value)} (hd : decode cc pc = .ok (.aload_n 2, 1)) (kk : AW x cs ss n h (pc + 1) (o0 :: o1 :: some (.ref z) :: lr) (.ref z :: st)) : AW x cs ss n h pc (o0 :: o1 :: some (.ref z) :: lr) st := A_aload_n X hd rfl rfl kk
theorem A_ll2 (X : aOk x d cc own nm ret mc ms post) {z : Int} {o0 o1 : Option Value} {lr : List (Option Value)} (hd : decode cc pc = .ok (.lload_n 2, 1)) (kk : AW x cs ss n h (pc + 1) (o0 :: o1 :: some (aL z) :: lr) (aL z :: st)) : AW x cs ss n h pc (o0 :: o1 :: some (aL z) :: lr) st := A_lload_n X hd rfl rfl kk
theorem A_is2 (X : aOk x d cc own nm ret mc ms post) {z : Int32} {o0 o1 : Option Value} {ok : Option Value} {lr : List (Option Value)} (hd : decode cc pc = .ok (.istore_n 2, 1)) (kk : AW x cs ss n h (pc + 1) (o0 :: o1 :: some (.int z) :: lr) st) (hc : lo_c1 (o0 :: o1 :: ok :: lr) = true := by rfl) : AW x cs ss n h pc (o0 :: o1 :: ok :: lr) (.int z :: st) := A_istore_n (i := 2) X hd rfl (by simp only [List.length_cons]; omega) hc kk
theorem A_as2 (X : aOk x d cc own nm ret mc ms post) {z : Nat} {o0 o1 : Option Value} {ok : Option Value} {lr : List (Option Value)} (hd : decode cc pc = .ok (.astore_n 2, 1)) (kk : AW x cs ss n h (pc + 1) (o0 :: o1 :: some (.ref z) :: lr) st) (hc : lo_c1 (o0 :: o1 :: ok :: lr) = true := by rfl) : AW x cs ss n h pc (o0 :: o1 :: ok :: lr) (.ref z :: st) := A_astore_n (i := 2) X hd rfl (by simp only [List.length_cons]; omega) hc kk
theorem A_ii2 (X : aOk x d cc own nm ret mc ms post) {z w : Int} {o0 o1 : Option Value} {lr : List (Option Value)} (hd : decode cc pc = .ok (.iinc 2 w, 3)) (kk : AW x cs ss n h (pc + 3) (o0 :: o1 :: some (aI (z + w)) :: lr) st) (hc : lo_c1 (o0 :: o1 :: some (aI z) :: lr) = true := by rfl) : AW x cs ss n h pc (o0 :: o1 :: some (aI z) :: lr) st := A_iinc X hd rfl hc kk
theorem A_il3 (X : aOk x d cc own nm ret mc ms post) {z : Int} {o0 o1 o2 : Option Value} {lr : List (Option Value)} (hd : decode cc pc = .ok (.iload_n 3, 1)) (kk : AW x cs ss n h (pc + 1) (o0 :: o1 :: o2 :: some (aI z) :: lr) (aI z :: st)) : AW x cs ss n h pc (o0 :: o1 :: o2 :: some (aI z) :: lr) st := A_iload_n X hd rfl rfl kk
theorem A_al3 (X : aOk x d cc own nm ret mc ms post) {z : Nat} {o0 o1 o2 : Option Value} {lr : List (Option Value)} (hd : decode cc pc = .ok (.aload_n 3, 1)) (kk : AW x cs ss n h (pc + 1) (o0 :: o1 :: o2 :: some (.ref z) :: lr) (.ref z :: st)) : AW x cs ss n h pc (o0 :: o1 :: o2 :: some (.ref z) :: lr) st := A_aload_n X hd rfl rfl kk
theorem A_is3 (X : aOk x d cc own nm ret mc ms post) {z : Int32} {o0 o1 o2 : Option Value} {ok : Option Value} {lr : List (Option Value)} (hd : decode cc pc = .ok (.istore_n 3, 1)) (kk : AW x cs ss n h (pc + 1) (o0 :: o1 :: o2 :: some (.int z) :: lr) st) (hc : lo_c1 (o0 :: o1 :: o2 :: ok :: lr) = true := by rfl) : AW x cs ss n h pc (o0 :: o1 :: o2 :: ok :: lr) (.int z :: st) := A_istore_n (i := 3) X hd rfl (by simp only [List.length_cons]; omega) hc kk
theorem A_as3 (X : aOk x d cc own nm ret mc ms post) {z : Nat} {o0 o1 o2 : Option Value} {ok : Option Value} {lr : List (Option Value)} (hd : decode cc pc = .ok (.astore_n 3, 1)) (kk : AW x cs ss n h (pc + 1) (o0 :: o1 :: o2 :: some (.ref z) :: lr) st) (hc : lo_c1 (o0 :: o1 :: o2 :: ok :: lr) = true := by rfl) : AW x cs ss n h pc (o0 :: o1 :: o2 :: ok :: lr) (.ref z :: st) := A_astore_n (i := 3) X hd rfl (by simp only [List.length_cons]; omega) hc kk
theorem A_ii3 (X : aOk x d cc own nm ret mc ms post) {z w : Int} {o0 o1 o2 : Option Value} {lr : List (Option Value)} (hd : decode cc pc = .ok (.iinc 3 w, 3)) (kk : AW x cs ss n h (pc + 3) (o0 :: o1 :: o2 :: some (aI (z + w)) :: lr) st) (hc : lo_c1 (o0 :: o1 :: o2 :: some (aI z) :: lr) = true := by rfl) : AW x cs ss n h pc (o0 :: o1 :: o2 :: some (aI z) :: lr) st := A_iinc X hd rfl hc kk
theorem A_il4 (X : aOk x d cc own nm ret mc ms post) {z : Int} {o0 o1 o2 o3 : Option Value} {lr : List (Option Value)} (hd : decode cc pc = .ok (.iload 4, 2)) (kk : AW x cs ss n h (pc + 2) (o0 :: o1 :: o2 :: o3 :: some (aI z) :: lr) (aI z :: st)) : AW x cs ss n h pc (o0 :: o1 :: o2 :: o3 :: some (aI z) :: lr) st := A_iload X hd rfl kk
theorem A_al4 (X : aOk x d cc own nm ret mc ms post) {z : Nat} {o0 o1 o2 o3 : Option Value} {lr : List (Option Value)} (hd : decode cc pc = .ok (.aload 4, 2)) (kk : AW x cs ss n h (pc + 2) (o0 :: o1 :: o2 :: o3 :: some (.ref z) :: lr) (.ref z :: st)) : AW x cs ss n h pc (o0 :: o1 :: o2 :: o3 :: some (.ref z) :: lr) st := A_aload X hd rfl kk
theorem A_ll4 (X : aOk x d cc own nm ret mc ms post) {z : Int} {o0 o1 o2 o3 : Option Value} {lr : List (Option Value)} (hd : decode cc pc = .ok (.lload 4, 2)) (kk : AW x cs ss n h (pc + 2) (o0 :: o1 :: o2 :: o3 :: some (aL z) :: lr) (aL z :: st)) : AW x cs ss n h pc (o0 :: o1 :: o2 :: o3 :: some (aL z) :: lr) st := A_lload X hd rfl kk
theorem A_is4 (X : aOk x d cc own nm ret mc ms post) {z : Int32} {o0 o1 o2 o3 : Option Value} {ok : Option Value} {lr : List (Option Value)} (hd : decode cc pc = .ok (.istore 4, 2)) (kk : AW x cs ss n h (pc + 2) (o0 :: o1 :: o2 :: o3 :: some (.int z) :: lr) st) (hc : lo_c1 (o0 :: o1 :: o2 :: o3 :: ok :: lr) = true := by rfl) : AW x cs ss n h pc (o0 :: o1 :: o2 :: o3 :: ok :: lr) (.int z :: st) := A_istore (i := 4) X hd (by simp only [List.length_cons]; omega) hc kk
theorem A_as4 (X : aOk x d cc own nm ret mc ms post) {z : Nat} {o0 o1 o2 o3 : Option Value} {ok : Option Value} {lr : List (Option Value)} (hd : decode cc pc = .ok (.astore 4, 2)) (kk : AW x cs ss n h (pc + 2) (o0 :: o1 :: o2 :: o3 :: some (.ref z) :: lr) st) (hc : lo_c1 (o0 :: o1 :: o2 :: o3 :: ok :: lr) = true := by rfl) : AW x cs ss n h pc (o0 :: o1 :: o2 :: o3 :: ok :: lr) (.ref z :: st) := A_astore (i := 4) X hd (by simp only [List.length_cons]; omega) hc kk
theorem A_ii4 (X : aOk x d cc own nm ret mc ms post) {z w : Int} {o0 o1 o2 o3 : Option Value} {lr : List (Option Value)} (hd : decode cc pc = .ok (.iinc 4 w, 3)) (kk : AW x cs ss n h (pc + 3) (o0 :: o1 :: o2 :: o3 :: some (aI (z + w)) :: lr) st) (hc : lo_c1 (o0 :: o1 :: o2 :: o3 :: some (aI z) :: lr) = true := by rfl) : AW x cs ss n h pc (o0 :: o1 :: o2 :: o3 :: some (aI z) :: lr) st := A_iinc X hd rfl hc kk
theorem A_il5 (X : aOk x d cc own nm ret mc ms post) {z : Int} {o0 o1 o2 o3 o4 : Option Value} {lr : List (Option Value)} (hd : decode cc pc = .ok (.iload 5, 2)) (kk : AW x cs ss n h (pc + 2) (o0 :: o1 :: o2 :: o3 :: o4 :: some (aI z) :: lr) (aI z :: st)) : AW x cs ss n h pc (o0 :: o1 :: o2 :: o3 :: o4 :: some (aI z) :: lr) st := A_iload X hd rfl kk
theorem A_al5 (X : aOk x d cc own nm ret mc ms post) {z : Nat} {o0 o1 o2 o3 o4 : Option Value} {lr : List (Option Value)} (hd : decode cc pc = .ok (.aload 5, 2)) (kk : AW x cs ss n h (pc + 2) (o0 :: o1 :: o2 :: o3 :: o4 :: some (.ref z) :: lr) (.ref z :: st)) : AW x cs ss n h pc (o0 :: o1 :: o2 :: o3 :: o4 :: some (.ref z) :: lr) st := A_aload X hd rfl kk
theorem A_is5 (X : aOk x d cc own nm ret mc ms post) {z : Int32} {o0 o1 o2 o3 o4 : Option Value} {ok : Option Value} {lr : List (Option Value)} (hd : decode cc pc = .ok (.istore 5, 2)) (kk : AW x cs ss n h (pc + 2) (o0 :: o1 :: o2 :: o3 :: o4 :: some (.int z) :: lr) st) (hc : lo_c1 (o0 :: o1 :: o2 :: o3 :: o4 :: ok :: lr) = true := by rfl) : AW x cs ss n h pc (o0 :: o1 :: o2 :: o3 :: o4 :: ok :: lr) (.int z :: st) := A_istore (i := 5) X hd (by simp only [List.length_cons]; omega) hc kk
theorem A_as5 (X : aOk x d cc own nm ret mc ms post) {z : Nat} {o0 o1 o2 o3 o4 : Option Value} {ok : Option Value} {lr : List (Option Value)} (hd : decode cc pc = .ok (.astore 5, 2)) (kk : AW x cs ss n h (pc + 2) (o0 :: o1 :: o2 :: o3 :: o4 :: some (.ref z) :: lr) st) (hc : lo_c1 (o0 :: o1 :: o2 :: o3 :: o4 :: ok :: lr) = true := by rfl) : AW x cs ss n h pc (o0 :: o1 :: o2 :: o3 :: o4 :: ok :: lr) (.ref z :: st) := A_astore (i := 5) X hd (by simp only [List.length_cons]; omega) hc kk
theorem A_ii5 (X : aOk x d cc own nm ret mc ms post) {z w : Int} {o0 o1 o2 o3 o4 : Option Value} {lr : List (Option Value)} (hd : decode cc pc = .ok (.iinc 5 w, 3)) (kk : AW x cs ss n h (pc + 3) (o0 :: o1 :: o2 :: o3 :: o4 :: some (aI (z + w)) :: lr) st) (hc : lo_c1 (o0 :: o1 :: o2 :: o3 :: o4 :: some (aI z) :: lr) = true := by rfl) : AW x cs ss n h pc (o0 :: o1 :: o2 :: o3 :: o4 :: some (aI z) :: lr) st := A_iinc X hd rfl hc kk
theorem A_il6 (X : aOk x d cc own nm ret mc ms post) {z : Int} {o0 o1 o2 o3 o4 o5 : Option Value} {lr : List (Option Value)} (hd : decode cc pc = .ok (.iload 6, 2)) (kk : AW x cs ss n h (pc + 2) (o0 :: o1 :: o2 :: o3 :: o4 :: o5 :: some (aI z) :: lr) (aI z :: st)) : AW x cs ss n h pc (o0 :: o1 :: o2 :: o3 :: o4 :: o5 :: some (aI z) :: lr) st := A_iload X hd rfl kk
theorem A_al6 (X : aOk x d cc own nm ret mc ms post) {z : Nat} {o0 o1 o2 o3 o4 o5 : Option Value} {lr : List (Option Value)} (hd : decode cc pc = .ok (.aload 6, 2)) (kk : AW x cs ss n h (pc + 2) (o0 :: o1 :: o2 :: o3 :: o4 :: o5 :: some (.ref z) :: lr) (.ref z :: st)) : AW x cs ss n h pc (o0 :: o1 :: o2 :: o3 :: o4 :: o5 :: some (.ref z) :: lr) st := A_aload X hd rfl kk
theorem A_is6 (X : aOk x d cc own nm ret mc ms post) {z : Int32} {o0 o1 o2 o3 o4 o5 : Option Value} {ok : Option Value} {lr : List (Option Value)} (hd : decode cc pc = .ok (.istore 6, 2)) (kk : AW x cs ss n h (pc + 2) (o0 :: o1 :: o2 :: o3 :: o4 :: o5 :: some (.int z) :: lr) st) (hc : lo_c1 (o0 :: o1 :: o2 :: o3 :: o4 :: o5 :: ok :: lr) = true := by rfl) : AW x cs ss n h pc (o0 :: o1 :: o2 :: o3 :: o4 :: o5 :: ok :: lr) (.int z :: st) := A_istore (i := 6) X hd (by simp only [List.length_cons]; omega) hc kk
theorem A_as6 (X : aOk x d cc own nm ret mc ms post) {z : Nat} {o0 o1 o2 o3 o4 o5 : Option Value} {ok : Option Value} {lr : List (Option Value)} (hd : decode cc pc = .ok (.astore 6, 2)) (kk : AW x cs ss n h (pc + 2) (o0 :: o1 :: o2 :: o3 :: o4 :: o5 :: some (.ref z) :: lr) st) (hc : lo_c1 (o0 :: o1 :: o2 :: o3 :: o4 :: o5 :: ok :: lr) = true := by rfl) : AW x cs ss n h pc (o0 :: o1 :: o2 :: o3 :: o4 :: o5 :: ok :: lr) (.ref z :: st) := A_astore (i := 6) X hd (by simp only [List.length_cons]; omega) hc kk
theorem A_ii6 (X : aOk x d cc own nm ret mc ms post) {z w : Int} {o0 o1 o2 o3 o4 o5 : Option Value} {lr : List (Option Value)} (hd : decode cc pc = .ok (.iinc 6 w, 3)) (kk : AW x cs ss n h (pc + 3) (o0 :: o1 :: o2 :: o3 :: o4 :: o5 :: some (aI (z + w)) :: lr) st) (hc : lo_c1 (o0 :: o1 :: o2 :: o3 :: o4 :: o5 :: some (aI z) :: lr) = true := by rfl) : AW x cs ss n h pc (o0 :: o1 :: o2 :: o3 :: o4 :: o5 :: some (aI z) :: lr) st := A_iinc X hd rfl hc kk
theorem A_il7 (X : aOk x d cc own nm ret mc ms post) {z : Int} {o0 o1 o2 o3 o4 o5 o6 : Option Value} {lr : List (Option Value)} (hd : decode cc pc = .ok (.iload 7, 2)) (kk : AW x cs ss n h (pc + 2) (o0 :: o1 :: o2 :: o3 :: o4 :: o5 :: o6 :: some (aI z) :: lr) (aI z :: st)) : AW x cs ss n h pc (o0 :: o1 :: o2 :: o3 :: o4 :: o5 :: o6 :: some (aI z) :: lr) st := A_iload X hd rfl kk
theorem A_al7 (X : aOk x d cc own nm ret mc ms post) {z : Nat} {o0 o1 o2 o3 o4 o5 o6 : Option Value} {lr : List (Option Value)} (hd : decode cc pc = .ok (.aload 7, 2)) (kk : AW x cs ss n h (pc + 2) (o0 :: o1 :: o2 :: o3 :: o4 :: o5 :: o6 :: some (.ref z) :: lr) (.ref z :: st)) : AW x cs ss n h pc (o0 :: o1 :: o2 :: o3 :: o4 :: o5 :: o6 :: some (.ref z) :: lr) st := A_aload X hd rfl kk
theorem A_is7 (X : aOk x d cc own nm ret mc ms post) {z : Int32} {o0 o1 o2 o3 o4 o5 o6 : Option Value} {ok : Option Value} {lr : List (Option Value)} (hd : decode cc pc = .ok (.istore 7, 2)) (kk : AW x cs ss n h (pc + 2) (o0 :: o1 :: o2 :: o3 :: o4 :: o5 :: o6 :: some (.int z) :: lr) st) (hc : lo_c1 (o0 :: o1 :: o2 :: o3 :: o4 :: o5 :: o6 :: ok :: lr) = true := by rfl) : AW x cs ss n h pc (o0 :: o1 :: o2 :: o3 :: o4 :: o5 :: o6 :: ok :: lr) (.int z :: st) := A_istore (i := 7) X hd (by simp only [List.length_cons]; omega) hc kk
theorem A_as7 (X : aOk x d cc own nm ret mc ms post) {z : Nat} {o0 o1 o2 o3 o4 o5 o6 : Option Value} {ok : Option Value} {lr : List (Option Value)} (hd : decode cc pc = .ok (.astore 7, 2)) (kk : AW x cs ss n h (pc + 2) (o0 :: o1 :: o2 :: o3 :: o4 :: o5 :: o6 :: some (.ref z) :: lr) st) (hc : lo_c1 (o0 :: o1 :: o2 :: o3 :: o4 :: o5 :: o6 :: ok :: lr) = true := by rfl) : AW x cs ss n h pc (o0 :: o1 :: o2 :: o3 :: o4 :: o5 :: o6 :: ok :: lr) (.ref z :: st) := A_astore (i := 7) X hd (by simp only [List.length_cons]; omega) hc kk
theorem A_ii7 (X : aOk x d cc own nm ret mc ms post) {z w : Int} {o0 o1 o2 o3 o4 o5 o6 : Option Value} {lr : List (Option Value)} (hd : decode cc pc = .ok (.iinc 7 w, 3)) (kk : AW x cs ss n h (pc + 3) (o0 :: o1 :: o2 :: o3 :: o4 :: o5 :: o6 :: some (aI (z + w)) :: lr) st) (hc : lo_c1 (o0 :: o1 :: o2 :: o3 :: o4 :: o5 :: o6 :: some (aI z) :: lr) = true := by rfl) : AW x cs ss n h pc (o0 :: o1 :: o2 :: o3 :: o4 :: o5 :: o6 :: some (aI z) :: lr) st := A_iinc X hd rfl hc kk
theorem A_il8 (X : aOk x d cc own nm ret mc ms post) {z : Int} {o0 o1 o2 o3 o4 o5 o6 o7 : Option Value} {lr : List (Option Value)} (hd : decode cc pc = .ok (.iload 8, 2)) (kk : AW x cs ss n h (pc + 2) (o0 :: o1 :: o2 :: o3 :: o4 :: o5 :: o6 :: o7 :: some (aI z) :: lr) (aI z :: st)) : AW x cs ss n h pc (o0 :: o1 :: o2 :: o3 :: o4 :: o5 :: o6 :: o7 :: some (aI z) :: lr) st := A_iload X hd rfl kk
theorem A_al8 (X : aOk x d cc own nm ret mc ms post) {z : Nat} {o0 o1 o2 o3 o4 o5 o6 o7 : Option Value} {lr : List (Option Value)} (hd : decode cc pc = .ok (.aload 8, 2)) (kk : AW x cs ss n h (pc + 2) (o0 :: o1 :: o2 :: o3 :: o4 :: o5 :: o6 :: o7 :: some (.ref z) :: lr) (.ref z :: st)) : AW x cs ss n h pc (o0 :: o1 :: o2 :: o3 :: o4 :: o5 :: o6 :: o7 :: some (.ref z) :: lr) st := A_aload X hd rfl kk
theorem A_is8 (X : aOk x d cc own nm ret mc ms post) {z : Int32} {o0 o1 o2 o3 o4 o5 o6 o7 : Option Value} {ok : Option Value} {lr : List (Option Value)} (hd : decode cc pc = .ok (.istore 8, 2)) (kk : AW x cs ss n h (pc + 2) (o0 :: o1 :: o2 :: o3 :: o4 :: o5 :: o6 :: o7 :: some (.int z) :: lr) st) (hc : lo_c1 (o0 :: o1 :: o2 :: o3 :: o4 :: o5 :: o6 :: o7 :: ok :: lr) = true := by rfl) : AW x cs ss n h pc (o0 :: o1 :: o2 :: o3 :: o4 :: o5 :: o6 :: o7 :: ok :: lr) (.int z :: st) := A_istore (i := 8) X hd (by simp only [List.length_cons]; omega) hc kk
theorem A_as8 (X : aOk x d cc own nm ret mc ms post) {z : Nat} {o0 o1 o2 o3 o4 o5 o6 o7 : Option Value} {ok : Option Value} {lr : List (Option Value)} (hd : decode cc pc = .ok (.astore 8, 2)) (kk : AW x cs ss n h (pc + 2) (o0 :: o1 :: o2 :: o3 :: o4 :: o5 :: o6 :: o7 :: some (.ref z) :: lr) st) (hc : lo_c1 (o0 :: o1 :: o2 :: o3 :: o4 :: o5 :: o6 :: o7 :: ok :: lr) = true := by rfl) : AW x cs ss n h pc (o0 :: o1 :: o2 :: o3 :: o4 :: o5 :: o6 :: o7 :: ok :: lr) (.ref z :: st) := A_astore (i := 8) X hd (by simp only [List.length_cons]; omega) hc kk
theorem A_ii8 (X : aOk x d cc own nm ret mc ms post) {z w : Int} {o0 o1 o2 o3 o4 o5 o6 o7 : Option Value} {lr : List (Option Value)} (hd : decode cc pc = .ok (.iinc 8 w, 3)) (kk : AW x cs ss n h (pc + 3) (o0 :: o1 :: o2 :: o3 :: o4 :: o5 :: o6 :: o7 :: some (aI (z + w)) :: lr) st) (hc : lo_c1 (o0 :: o1 :: o2 :: o3 :: o4 :: o5 :: o6 :: o7 :: some (aI z) :: lr) = true := by rfl) : AW x cs ss n h pc (o0 :: o1 :: o2 :: o3 :: o4 :: o5 :: o6 :: o7 :: some (aI z) :: lr) st := A_iinc X hd rfl hc kk
theorem A_il9 (X : aOk x d cc own nm ret mc ms post) {z : Int} {o0 o1 o2 o3 o4 o5 o6 o7 o8 : Option Value} {lr : List (Option Value)} (hd : decode cc pc = .ok (.iload 9, 2)) (kk : AW x cs ss n h (pc + 2) (o0 :: o1 :: o2 :: o3 :: o4 :: o5 :: o6 :: o7 :: o8 :: some (aI z) :: lr) (aI z :: st)) : AW x cs ss n h pc (o0 :: o1 :: o2 :: o3 :: o4 :: o5 :: o6 :: o7 :: o8 :: some (aI z) :: lr) st := A_iload X hd rfl kk
theorem A_al9 (X : aOk x d cc own nm ret mc ms post) {z : Nat} {o0 o1 o2 o3 o4 o5 o6 o7 o8 : Option Value} {lr : List (Option Value)} (hd : decode cc pc = .ok (.aload 9, 2)) (kk : AW x cs ss n h (pc + 2) (o0 :: o1 :: o2 :: o3 :: o4 :: o5 :: o6 :: o7 :: o8 :: some (.ref z) :: lr) (.ref z :: st)) : AW x cs ss n h pc (o0 :: o1 :: o2 :: o3 :: o4 :: o5 :: o6 :: o7 :: o8 :: some (.ref z) :: lr) st := A_aload X hd rfl kk
theorem A_is9 (X : aOk x d cc own nm ret mc ms post) {z : Int32} {o0 o1 o2 o3 o4 o5 o6 o7 o8 : Option Value} {ok : Option Value} {lr : List (Option Value)} (hd : decode cc pc = .ok (.istore 9, 2)) (kk : AW x cs ss n h (pc + 2) (o0 :: o1 :: o2 :: o3 :: o4 :: o5 :: o6 :: o7 :: o8 :: some (.int z) :: lr) st) (hc : lo_c1 (o0 :: o1 :: o2 :: o3 :: o4 :: o5 :: o6 :: o7 :: o8 :: ok :: lr) = true := by rfl) : AW x cs ss n h pc (o0 :: o1 :: o2 :: o3 :: o4 :: o5 :: o6 :: o7 :: o8 :: ok :: lr) (.int z :: st) := A_istore (i := 9) X hd (by simp only [List.length_cons]; omega) hc kk
theorem A_as9 (X : aOk x d cc own nm ret mc ms post) {z : Nat} {o0 o1 o2 o3 o4 o5 o6 o7 o8 : Option Value} {ok : Option Value} {lr : List (Option Value)} (hd : decode cc pc = .ok (.astore 9, 2)) (kk : AW x cs ss n h (pc + 2) (o0 :: o1 :: o2 :: o3 :: o4 :: o5 :: o6 :: o7 :: o8 :: some (.ref z) :: lr) st) (hc : lo_c1 (o0 :: o1 :: o2 :: o3 :: o4 :: o5 :: o6 :: o7 :: o8 :: ok :: lr) = true := by rfl) : AW x cs ss n h pc (o0 :: o1 :: o2 :: o3 :: o4 :: o5 :: o6 :: o7 :: o8 :: ok :: lr) (.ref z :: st) := A_astore (i := 9) X hd (by simp only [List.length_cons]; omega) hc kk
theorem A_ii9 (X : aOk x d cc own nm ret mc ms post) {z w : Int} {o0 o1 o2 o3 o4 o5 o6 o7 o8 : Option Value} {lr : List (Option Value)} (hd : decode cc pc = .ok (.iinc 9 w, 3)) (kk : AW x cs ss n h (pc + 3) (o0 :: o1 :: o2 :: o3 :: o4 :: o5 :: o6 :: o7 :: o8 :: some (aI (z + w)) :: lr) st) (hc : lo_c1 (o0 :: o1 :: o2 :: o3 :: o4 :: o5 :: o6 :: o7 :: o8 :: some (aI z) :: lr) = true := by rfl) : AW x cs ss n h pc (o0 :: o1 :: o2 :: o3 :: o4 :: o5 :: o6 :: o7 :: o8 :: some (aI z) :: lr) st := A_iinc X hd rfl hc kk
theorem A_il10 (X : aOk x d cc own nm ret mc ms post) {z : Int} {o0 o1 o2 o3 o4 o5 o6 o7 o8 o9 : Option Value} {lr : List (Option Value)} (hd : decode cc pc = .ok (.iload 10, 2)) (kk : AW x cs ss n h (pc + 2) (o0 :: o1 :: o2 :: o3 :: o4 :: o5 :: o6 :: o7 :: o8 :: o9 :: some (aI z) :: lr) (aI z :: st)) : AW x cs ss n h pc (o0 :: o1 :: o2 :: o3 :: o4 :: o5 :: o6 :: o7 :: o8 :: o9 :: some (aI z) :: lr) st := A_iload X hd rfl kk
theorem A_al10 (X : aOk x d cc own nm ret mc ms post) {z : Nat} {o0 o1 o2 o3 o4 o5 o6 o7 o8 o9 : Option Value} {lr : List (Option Value)} (hd : decode cc pc = .ok (.aload 10, 2)) (kk : AW x cs ss n h (pc + 2) (o0 :: o1 :: o2 :: o3 :: o4 :: o5 :: o6 :: o7 :: o8 :: o9 :: some (.ref z) :: lr) (.ref z :: st)) : AW x cs ss n h pc (o0 :: o1 :: o2 :: o3 :: o4 :: o5 :: o6 :: o7 :: o8 :: o9 :: some (.ref z) :: lr) st := A_aload X hd rfl kk
theorem A_is10 (X : aOk x d cc own nm ret mc ms post) {z : Int32} {o0 o1 o2 o3 o4 o5 o6 o7 o8 o9 : Option Value} {ok : Option Value} {lr : List (Option Value)} (hd : decode cc pc = .ok (.istore 10, 2)) (kk : AW x cs ss n h (pc + 2) (o0 :: o1 :: o2 :: o3 :: o4 :: o5 :: o6 :: o7 :: o8 :: o9 :: some (.int z) :: lr) st) (hc : lo_c1 (o0 :: o1 :: o2 :: o3 :: o4 :: o5 :: o6 :: o7 :: o8 :: o9 :: ok :: lr) = true := by rfl) : AW x cs ss n h pc (o0 :: o1 :: o2 :: o3 :: o4 :: o5 :: o6 :: o7 :: o8 :: o9 :: ok :: lr) (.int z :: st) := A_istore (i := 10) X hd (by simp only [List.length_cons]; omega) hc kk
theorem A_as10 (X : aOk x d cc own nm ret mc ms post) {z : Nat} {o0 o1 o2 o3 o4 o5 o6 o7 o8 o9 : Option Value} {ok : Option Value} {lr : List (Option Value)} (hd : decode cc pc = .ok (.astore 10, 2)) (kk : AW x cs ss n h (pc + 2) (o0 :: o1 :: o2 :: o3 :: o4 :: o5 :: o6 :: o7 :: o8 :: o9 :: some (.ref z) :: lr) st) (hc : lo_c1 (o0 :: o1 :: o2 :: o3 :: o4 :: o5 :: o6 :: o7 :: o8 :: o9 :: ok :: lr) = true := by rfl) : AW x cs ss n h pc (o0 :: o1 :: o2 :: o3 :: o4 :: o5 :: o6 :: o7 :: o8 :: o9 :: ok :: lr) (.ref z :: st) := A_astore (i := 10) X hd (by simp only [List.length_cons]; omega) hc kk
theorem A_ii10 (X : aOk x d cc own nm ret mc ms post) {z w : Int} {o0 o1 o2 o3 o4 o5 o6 o7 o8 o9 : Option Value} {lr : List (Option Value)} (hd : decode cc pc = .ok (.iinc 10 w, 3)) (kk : AW x cs ss n h (pc + 3) (o0 :: o1 :: o2 :: o3 :: o4 :: o5 :: o6 :: o7 :: o8 :: o9 :: some (aI (z + w)) :: lr) st) (hc : lo_c1 (o0 :: o1 :: o2 :: o3 :: o4 :: o5 :: o6 :: o7 :: o8 :: o9 :: some (aI z) :: lr) = true := by rfl) : AW x cs ss n h pc (o0 :: o1 :: o2 :: o3 :: o4 :: o5 :: o6 :: o7 :: o8 :: o9 :: some (aI z) :: lr) st := A_iinc X hd rfl hc kk
theorem A_il11 (X : aOk x d cc own nm ret mc ms post) {z : Int} {o0 o1 o2 o3 o4 o5 o6 o7 o8 o9 o10 : Option Value} {lr : List (Option Value)} (hd : decode cc pc = .ok (.iload 11, 2)) (kk : AW x cs ss n h (pc + 2) (o0 :: o1 :: o2 :: o3 :: o4 :: o5 :: o6 :: o7 :: o8 :: o9 :: o10 :: some (aI z) :: lr) (aI z :: st)) : AW x cs ss n h pc (o0 :: o1 :: o2 :: o3 :: o4 :: o5 :: o6 :: o7 :: o8 :: o9 :: o10 :: some (aI z) :: lr) st := A_iload X hd rfl kk
theorem A_al11 (X : aOk x d cc own nm ret mc ms post) {z : Nat} {o0 o1 o2 o3 o4 o5 o6 o7 o8 o9 o10 : Option Value} {lr : List (Option Value)} (hd : decode cc pc = .ok (.aload 11, 2)) (kk : AW x cs ss n h (pc + 2) (o0 :: o1 :: o2 :: o3 :: o4 :: o5 :: o6 :: o7 :: o8 :: o9 :: o10 :: some (.ref z) :: lr) (.ref z :: st)) : AW x cs ss n h pc (o0 :: o1 :: o2 :: o3 :: o4 :: o5 :: o6 :: o7 :: o8 :: o9 :: o10 :: some (.ref z) :: lr) st := A_aload X hd rfl kk
theorem A_is11 (X : aOk x d cc own nm ret mc ms post) {z : Int32} {o0 o1 o2 o3 o4 o5 o6 o7 o8 o9 o10 : Option Value} {ok : Option Value} {lr : List (Option Value)} (hd : decode cc pc = .ok (.istore 11, 2)) (kk : AW x cs ss n h (pc + 2) (o0 :: o1 :: o2 :: o3 :: o4 :: o5 :: o6 :: o7 :: o8 :: o9 :: o10 :: some (.int z) :: lr) st) (hc : lo_c1 (o0 :: o1 :: o2 :: o3 :: o4 :: o5 :: o6 :: o7 :: o8 :: o9 :: o10 :: ok :: lr) = true := by rfl) : AW x cs ss n h pc (o0 :: o1 :: o2 :: o3 :: o4 :: o5 :: o6 :: o7 :: o8 :: o9 :: o10 :: ok :: lr) (.int z :: st) := A_istore (i := 11) X hd (by simp only [List.length_cons]; omega) hc kk
theorem A_as11 (X : aOk x d cc own nm ret mc ms post) {z : Nat} {o0 o1 o2 o3 o4 o5 o6 o7 o8 o9 o10 : Option Value} {ok : Option Value} {lr : List (Option Value)} (hd : decode cc pc = .ok (.astore 11, 2)) (kk : AW x cs ss n h (pc + 2) (o0 :: o1 :: o2 :: o3 :: o4 :: o5 :: o6 :: o7 :: o8 :: o9 :: o10 :: some (.ref z) :: lr) st) (hc : lo_c1 (o0 :: o1 :: o2 :: o3 :: o4 :: o5 :: o6 :: o7 :: o8 :: o9 :: o10 :: ok :: lr) = true := by rfl) : AW x cs ss n h pc (o0 :: o1 :: o2 :: o3 :: o4 :: o5 :: o6 :: o7 :: o8 :: o9 :: o10 :: ok :: lr) (.ref z :: st) := A_astore (i := 11) X hd (by simp only [List.length_cons]; omega) hc kk
theorem A_ii11 (X : aOk x d cc own nm ret mc ms post) {z w : Int} {o0 o1 o2 o3 o4 o5 o6 o7 o8 o9 o10 : Option Value} {lr : List (Option Value)} (hd : decode cc pc = .ok (.iinc 11 w, 3)) (kk : AW x cs ss n h (pc + 3) (o0 :: o1 :: o2 :: o3 :: o4 :: o5 :: o6 :: o7 :: o8 :: o9 :: o10 :: some (aI (z + w)) :: lr) st) (hc : lo_c1 (o0 :: o1 :: o2 :: o3 :: o4 :: o5 :: o6 :: o7 :: o8 :: o9 :: o10 :: some (aI z) :: lr) = true := by rfl) : AW x cs ss n h pc (o0 :: o1 :: o2 :: o3 :: o4 :: o5 :: o6 :: o7 :: o8 :: o9 :: o10 :: some (aI z) :: lr) st := A_iinc X hd rfl hc kk
def bI (p : Prop) [Decidable p] : Int := if p then 1 else 0
theorem bI_t {p : Prop} [Decidable p] (h : p) : bI p = 1 := if_pos h
theorem bI_f {p : Prop} [Decidable p] (h : ¬ p) : bI p = 0 := if_neg h
theorem bI_1 {p : Prop} [Decidable p] (h : p) : some (aI 1) = some (aI (bI p)) := by rw [bI_t h]
theorem bI_0 {p : Prop} [Decidable p] (h : ¬ p) : some (aI 0) = some (aI (bI p)) := by rw [bI_f h]
theorem bI_or {p : Prop} [Decidable p] : bI p = 0 ∨ bI p = 1 := by unfold bI; split <;> simp
theorem bI_R {p : Prop} [Decidable p] : inR (bI p) := by rcases bI_or (p := p) with h | h <;> rw [h] <;> constructor <;> decide
theorem bI_cg {p q : Prop} [Decidable p] [Decidable q] (h : p ↔ q) : bI p = bI q := by unfold bI; simp [h]
theorem A_ifb_eq (X : aOk x d cc own nm ret mc ms post) {p : Prop} [Decidable p] {off : Int} {t : Nat} (hd : decode cc pc = .ok (.ifCond .eq off, 3)) (kt : ¬ p → AW x cs ss n h t lv st) (kf : p → AW x cs ss n h (pc + 3) lv st) (ht : (pc : Int) + off = (t : Int) := by decide) : AW x cs ss n h pc lv (aI (bI p) :: st) := A_if_eq X bI_R hd (fun c => kt (fun q => by rw [bI_t q] at c; exact absurd c (by decide))) (fun c => kf (Decidable.byContradiction fun q => c (bI_f q))) ht
theorem A_ifb_ne (X : aOk x d cc own nm ret mc ms post) {p : Prop} [Decidable p] {off : Int} {t : Nat} (hd : decode cc pc = .ok (.ifCond .ne off, 3)) (kt : p → AW x cs ss n h t lv st) (kf : ¬ p → AW x cs ss n h (pc + 3) lv st) (ht : (pc : Int) + off = (t : Int) := by decide) : AW x cs ss n h pc lv (aI (bI p) :: st) := A_if_ne X bI_R hd (fun c => kt (Decidable.byContradiction fun q => c (bI_f q))) (fun c => kf (fun q => by rw [bI_t q] at c; exact absurd c (by decide))) ht
def icmp (a b : Int) : Int := if a < b then -1 else if b < a then 1 else 0
theorem icmp_R (a b : Int) : inR (icmp a b) := by
  unfold icmp
  by_cases h1 : a < b
  · rw [if_pos h1]; constructor <;> decide
  · rw [if_neg h1]
    by_cases h2 : b < a
    · rw [if_pos h2]; constructor <;> decide
    · rw [if_neg h2]; constructor <;> decide
theorem icmp_lt {a b : Int} : icmp a b < 0 ↔ a < b := by
  unfold icmp
  by_cases h1 : a < b
  · rw [if_pos h1]; exact ⟨fun _ => h1, fun _ => by decide⟩
  · rw [if_neg h1]
    by_cases h2 : b < a
    · rw [if_pos h2]; exact ⟨fun h => absurd h (by decide), fun h => absurd h h1⟩
    · rw [if_neg h2]; exact ⟨fun h => absurd h (by decide), fun h => absurd h h1⟩
theorem icmp_gt {a b : Int} : 0 < icmp a b ↔ b < a := by
  unfold icmp
  by_cases h1 : a < b
  · rw [if_pos h1]; exact ⟨fun h => absurd h (by decide), fun h => by omega⟩
  · rw [if_neg h1]
    by_cases h2 : b < a
    · rw [if_pos h2]; exact ⟨fun _ => h2, fun _ => by decide⟩
    · rw [if_neg h2]; exact ⟨fun h => absurd h (by decide), fun h => absurd h h2⟩
theorem A_lcmpc (X : aOk x d cc own nm ret mc ms post) {a b : Int} (ha : inR a) (hb0 : inR b) (hd : decode cc pc = .ok (.lcmp, 1)) (k : AW x cs ss n h (pc + 1) lv (aI (icmp a b) :: st)) : AW x cs ss n h pc lv (aL b :: aL a :: st) := A_lcmp X ha hb0 hd k
theorem A_ifc_lt (X : aOk x d cc own nm ret mc ms post) {a b : Int} {off : Int} {t : Nat} (hd : decode cc pc = .ok (.ifCond .lt off, 3)) (kt : a < b → AW x cs ss n h t lv st) (kf : b ≤ a → AW x cs ss n h (pc + 3) lv st) (ht : (pc : Int) + off = (t : Int) := by decide) : AW x cs ss n h pc lv (aI (icmp a b) :: st) := A_if_lt X (icmp_R a b) hd (fun c => kt (icmp_lt.mp c)) (fun c => kf (by have := mt icmp_lt.mpr (show ¬ icmp a b < 0 by omega); omega)) ht
theorem A_ifc_gt (X : aOk x d cc own nm ret mc ms post) {a b : Int} {off : Int} {t : Nat} (hd : decode cc pc = .ok (.ifCond .gt off, 3)) (kt : b < a → AW x cs ss n h t lv st) (kf : a ≤ b → AW x cs ss n h (pc + 3) lv st) (ht : (pc : Int) + off = (t : Int) := by decide) : AW x cs ss n h pc lv (aI (icmp a b) :: st) := A_if_gt X (icmp_R a b) hd (fun c => kt (icmp_gt.mp c)) (fun c => kf (by have := mt icmp_gt.mpr (show ¬ 0 < icmp a b by omega); omega)) ht
theorem A_dVi0 {d2 : Nat} (X : aOk x (d2 + 1) cc own nm ret mc ms post) {idx : Nat} {kM : aM} {z : Int} {r ci : Nat} {fs : List Value} (hc : aD x.1 d2 kM [.ref r] n h (some (aI z))) (hh : h r = some (aOb ci fs)) (kc : aKV kM 0) (hl : Cond.methodLink own idx kM.1 ∈ lw_tbl) (hd : decode cc pc = .ok (.invokevirtual idx, 3)) (kk : AW x cs ss n h (pc + 3) lv (aI z :: st)) (hci : (vwCl[ci]?).map (fun q => q.1) = some kM.1.cls := by rfl) (hcs : cs ≤ mc ∧ ss ≤ ms := by decide) (hsum : (st.map fun v => v.category).sum ≤ 8 := by exact Nat.le_of_ble_eq_true rfl) : AW x cs ss n h pc lv (.ref r :: st) := A_callV (As := []) X hc hh hci kc rfl hl hd (fun v n2 h2 hp => by obtain ⟨rfl, rfl, rfl⟩ := hp; exact kk) (Nat.le_refl _) hcs hsum
theorem A_eVi0 {d2 : Nat} {Ph : AH → Prop} (X : aOk x (d2 + 1) cc own nm ret mc ms post) {idx : Nat} {kM : aM} {z : Int} {r ci : Nat} {fs : List Value} (hc : aE x.1 d2 kM [.ref r] n h (some (aI z)) Ph) (hh : h r = some (aOb ci fs)) (kc : aKV kM 0) (hl : Cond.methodLink own idx kM.1 ∈ lw_tbl) (hd : decode cc pc = .ok (.invokevirtual idx, 3)) (kk : ∀ h2 : AH, Ph h2 → AW x cs ss n h2 (pc + 3) lv (aI z :: st)) (hci : (vwCl[ci]?).map (fun q => q.1) = some kM.1.cls := by rfl) (hcs : cs ≤ mc ∧ ss ≤ ms := by decide) (hsum : (st.map fun v => v.category).sum ≤ 8 := by exact Nat.le_of_ble_eq_true rfl) : AW x cs ss n h pc lv (.ref r :: st) := A_callV (As := []) X hc hh hci kc rfl hl hd (fun v n2 h2 hp => by obtain ⟨rfl, rfl, hq⟩ := hp; exact kk h2 hq) (Nat.le_refl _) hcs hsum
theorem A_dVv0 {d2 : Nat} (X : aOk x (d2 + 1) cc own nm ret mc ms post) {idx : Nat} {kM : aM} {r ci : Nat} {fs : List Value} (hc : aD x.1 d2 kM [.ref r] n h (none)) (hh : h r = some (aOb ci fs)) (kc : aKV kM 0) (hl : Cond.methodLink own idx kM.1 ∈ lw_tbl) (hd : decode cc pc = .ok (.invokevirtual idx, 3)) (kk : AW x cs ss n h (pc + 3) lv st) (hci : (vwCl[ci]?).map (fun q => q.1) = some kM.1.cls := by rfl) (hcs : cs ≤ mc ∧ ss ≤ ms := by decide) (hsum : (st.map fun v => v.category).sum ≤ 8 := by exact Nat.le_of_ble_eq_true rfl) : AW x cs ss n h pc lv (.ref r :: st) := A_callV (As := []) X hc hh hci kc rfl hl hd (fun v n2 h2 hp => by obtain ⟨rfl, rfl, rfl⟩ := hp; exact kk) (Nat.le_refl _) hcs hsum
theorem A_eVv0 {d2 : Nat} {Ph : AH → Prop} (X : aOk x (d2 + 1) cc own nm ret mc ms post) {idx : Nat} {kM : aM} {r ci : Nat} {fs : List Value} (hc : aE x.1 d2 kM [.ref r] n h (none) Ph) (hh : h r = some (aOb ci fs)) (kc : aKV kM 0) (hl : Cond.methodLink own idx kM.1 ∈ lw_tbl) (hd : decode cc pc = .ok (.invokevirtual idx, 3)) (kk : ∀ h2 : AH, Ph h2 → AW x cs ss n h2 (pc + 3) lv st) (hci : (vwCl[ci]?).map (fun q => q.1) = some kM.1.cls := by rfl) (hcs : cs ≤ mc ∧ ss ≤ ms := by decide) (hsum : (st.map fun v => v.category).sum ≤ 8 := by exact Nat.le_of_ble_eq_true rfl) : AW x cs ss n h pc lv (.ref r :: st) := A_callV (As := []) X hc hh hci kc rfl hl hd (fun v n2 h2 hp => by obtain ⟨rfl, rfl, hq⟩ := hp; exact kk h2 hq) (Nat.le_refl _) hcs hsum
theorem A_dVa0 {d2 : Nat} (X : aOk x (d2 + 1) cc own nm ret mc ms post) {idx : Nat} {kM : aM} {z : Nat} {r ci : Nat} {fs : List Value} (hc : aD x.1 d2 kM [.ref r] n h (some (.ref z))) (hh : h r = some (aOb ci fs)) (kc : aKV kM 0) (hl : Cond.methodLink own idx kM.1 ∈ lw_tbl) (hd : decode cc pc = .ok (.invokevirtual idx, 3)) (kk : AW x cs ss n h (pc + 3) lv (.ref z :: st)) (hci : (vwCl[ci]?).map (fun q => q.1) = some kM.1.cls := by rfl) (hcs : cs ≤ mc ∧ ss ≤ ms := by decide) (hsum : (st.map fun v => v.category).sum ≤ 8 := by exact Nat.le_of_ble_eq_true rfl) : AW x cs ss n h pc lv (.ref r :: st) := A_callV (As := []) X hc hh hci kc rfl hl hd (fun v n2 h2 hp => by obtain ⟨rfl, rfl, rfl⟩ := hp; exact kk) (Nat.le_refl _) hcs hsum
theorem A_eVa0 {d2 : Nat} {Ph : AH → Prop} (X : aOk x (d2 + 1) cc own nm ret mc ms post) {idx : Nat} {kM : aM} {z : Nat} {r ci : Nat} {fs : List Value} (hc : aE x.1 d2 kM [.ref r] n h (some (.ref z)) Ph) (hh : h r = some (aOb ci fs)) (kc : aKV kM 0) (hl : Cond.methodLink own idx kM.1 ∈ lw_tbl) (hd : decode cc pc = .ok (.invokevirtual idx, 3)) (kk : ∀ h2 : AH, Ph h2 → AW x cs ss n h2 (pc + 3) lv (.ref z :: st)) (hci : (vwCl[ci]?).map (fun q => q.1) = some kM.1.cls := by rfl) (hcs : cs ≤ mc ∧ ss ≤ ms := by decide) (hsum : (st.map fun v => v.category).sum ≤ 8 := by exact Nat.le_of_ble_eq_true rfl) : AW x cs ss n h pc lv (.ref r :: st) := A_callV (As := []) X hc hh hci kc rfl hl hd (fun v n2 h2 hp => by obtain ⟨rfl, rfl, hq⟩ := hp; exact kk h2 hq) (Nat.le_refl _) hcs hsum
theorem A_dVl0 {d2 : Nat} (X : aOk x (d2 + 1) cc own nm ret mc ms post) {idx : Nat} {kM : aM} {z : Int} {r ci : Nat} {fs : List Value} (hc : aD x.1 d2 kM [.ref r] n h (some (aL z))) (hh : h r = some (aOb ci fs)) (kc : aKV kM 0) (hl : Cond.methodLink own idx kM.1 ∈ lw_tbl) (hd : decode cc pc = .ok (.invokevirtual idx, 3)) (kk : AW x cs ss n h (pc + 3) lv (aL z :: st)) (hci : (vwCl[ci]?).map (fun q => q.1) = some kM.1.cls := by rfl) (hcs : cs ≤ mc ∧ ss ≤ ms := by decide) (hsum : (st.map fun v => v.category).sum ≤ 8 := by exact Nat.le_of_ble_eq_true rfl) : AW x cs ss n h pc lv (.ref r :: st) := A_callV (As := []) X hc hh hci kc rfl hl hd (fun v n2 h2 hp => by obtain ⟨rfl, rfl, rfl⟩ := hp; exact kk) (Nat.le_refl _) hcs hsum
theorem A_eVl0 {d2 : Nat} {Ph : AH → Prop} (X : aOk x (d2 + 1) cc own nm ret mc ms post) {idx : Nat} {kM : aM} {z : Int} {r ci : Nat} {fs : List Value} (hc : aE x.1 d2 kM [.ref r] n h (some (aL z)) Ph) (hh : h r = some (aOb ci fs)) (kc : aKV kM 0) (hl : Cond.methodLink own idx kM.1 ∈ lw_tbl) (hd : decode cc pc = .ok (.invokevirtual idx, 3)) (kk : ∀ h2 : AH, Ph h2 → AW x cs ss n h2 (pc + 3) lv (aL z :: st)) (hci : (vwCl[ci]?).map (fun q => q.1) = some kM.1.cls := by rfl) (hcs : cs ≤ mc ∧ ss ≤ ms := by decide) (hsum : (st.map fun v => v.category).sum ≤ 8 := by exact Nat.le_of_ble_eq_true rfl) : AW x cs ss n h pc lv (.ref r :: st) := A_callV (As := []) X hc hh hci kc rfl hl hd (fun v n2 h2 hp => by obtain ⟨rfl, rfl, hq⟩ := hp; exact kk h2 hq) (Nat.le_refl _) hcs hsum
theorem A_dVi1 {d2 : Nat} (X : aOk x (d2 + 1) cc own nm ret mc ms post) {idx : Nat} {kM : aM} {a1 : Value} {z : Int} {r ci : Nat} {fs : List Value} (hc : aD x.1 d2 kM [.ref r, a1] n h (some (aI z))) (hh : h r = some (aOb ci fs)) (kc : aKV kM 1) (hl : Cond.methodLink own idx kM.1 ∈ lw_tbl) (hd : decode cc pc = .ok (.invokevirtual idx, 3)) (kk : AW x cs ss n h (pc + 3) lv (aI z :: st)) (hci : (vwCl[ci]?).map (fun q => q.1) = some kM.1.cls := by rfl) (hcs : cs ≤ mc ∧ ss ≤ ms := by decide) (hsum : (st.map fun v => v.category).sum ≤ 8 := by exact Nat.le_of_ble_eq_true rfl) : AW x cs ss n h pc lv (a1 :: .ref r :: st) := A_callV (As := [a1]) X hc hh hci kc rfl hl hd (fun v n2 h2 hp => by obtain ⟨rfl, rfl, rfl⟩ := hp; exact kk) (Nat.le_refl _) hcs hsum
theorem A_eVi1 {d2 : Nat} {Ph : AH → Prop} (X : aOk x (d2 + 1) cc own nm ret mc ms post) {idx : Nat} {kM : aM} {a1 : Value} {z : Int} {r ci : Nat} {fs : List Value} (hc : aE x.1 d2 kM [.ref r, a1] n h (some (aI z)) Ph) (hh : h r = some (aOb ci fs)) (kc : aKV kM 1) (hl : Cond.methodLink own idx kM.1 ∈ lw_tbl) (hd : decode cc pc = .ok (.invokevirtual idx, 3)) (kk : ∀ h2 : AH, Ph h2 → AW x cs ss n h2 (pc + 3) lv (aI z :: st)) (hci : (vwCl[ci]?).map (fun q => q.1) = some kM.1.cls := by rfl) (hcs : cs ≤ mc ∧ ss ≤ ms := by decide) (hsum : (st.map fun v => v.category).sum ≤ 8 := by exact Nat.le_of_ble_eq_true rfl) : AW x cs ss n h pc lv (a1 :: .ref r :: st) := A_callV (As := [a1]) X hc hh hci kc rfl hl hd (fun v n2 h2 hp => by obtain ⟨rfl, rfl, hq⟩ := hp; exact kk h2 hq) (Nat.le_refl _) hcs hsum
theorem A_dVv1 {d2 : Nat} (X : aOk x (d2 + 1) cc own nm ret mc ms post) {idx : Nat} {kM : aM} {a1 : Value} {r ci : Nat} {fs : List Value} (hc : aD x.1 d2 kM [.ref r, a1] n h (none)) (hh : h r = some (aOb ci fs)) (kc : aKV kM 1) (hl : Cond.methodLink own idx kM.1 ∈ lw_tbl) (hd : decode cc pc = .ok (.invokevirtual idx, 3)) (kk : AW x cs ss n h (pc + 3) lv st) (hci : (vwCl[ci]?).map (fun q => q.1) = some kM.1.cls := by rfl) (hcs : cs ≤ mc ∧ ss ≤ ms := by decide) (hsum : (st.map fun v => v.category).sum ≤ 8 := by exact Nat.le_of_ble_eq_true rfl) : AW x cs ss n h pc lv (a1 :: .ref r :: st) := A_callV (As := [a1]) X hc hh hci kc rfl hl hd (fun v n2 h2 hp => by obtain ⟨rfl, rfl, rfl⟩ := hp; exact kk) (Nat.le_refl _) hcs hsum
theorem A_eVv1 {d2 : Nat} {Ph : AH → Prop} (X : aOk x (d2 + 1) cc own nm ret mc ms post) {idx : Nat} {kM : aM} {a1 : Value} {r ci : Nat} {fs : List Value} (hc : aE x.1 d2 kM [.ref r, a1] n h (none) Ph) (hh : h r = some (aOb ci fs)) (kc : aKV kM 1) (hl : Cond.methodLink own idx kM.1 ∈ lw_tbl) (hd : decode cc pc = .ok (.invokevirtual idx, 3)) (kk : ∀ h2 : AH, Ph h2 → AW x cs ss n h2 (pc + 3) lv st) (hci : (vwCl[ci]?).map (fun q => q.1) = some kM.1.cls := by rfl) (hcs : cs ≤ mc ∧ ss ≤ ms := by decide) (hsum : (st.map fun v => v.category).sum ≤ 8 := by exact Nat.le_of_ble_eq_true rfl) : AW x cs ss n h pc lv (a1 :: .ref r :: st) := A_callV (As := [a1]) X hc hh hci kc rfl hl hd (fun v n2 h2 hp => by obtain ⟨rfl, rfl, hq⟩ := hp; exact kk h2 hq) (Nat.le_refl _) hcs hsum
theorem A_dVa1 {d2 : Nat} (X : aOk x (d2 + 1) cc own nm ret mc ms post) {idx : Nat} {kM : aM} {a1 : Value} {z : Nat} {r ci : Nat} {fs : List Value} (hc : aD x.1 d2 kM [.ref r, a1] n h (some (.ref z))) (hh : h r = some (aOb ci fs)) (kc : aKV kM 1) (hl : Cond.methodLink own idx kM.1 ∈ lw_tbl) (hd : decode cc pc = .ok (.invokevirtual idx, 3)) (kk : AW x cs ss n h (pc + 3) lv (.ref z :: st)) (hci : (vwCl[ci]?).map (fun q => q.1) = some kM.1.cls := by rfl) (hcs : cs ≤ mc ∧ ss ≤ ms := by decide) (hsum : (st.map fun v => v.category).sum ≤ 8 := by exact Nat.le_of_ble_eq_true rfl) : AW x cs ss n h pc lv (a1 :: .ref r :: st) := A_callV (As := [a1]) X hc hh hci kc rfl hl hd (fun v n2 h2 hp => by obtain ⟨rfl, rfl, rfl⟩ := hp; exact kk) (Nat.le_refl _) hcs hsum
theorem A_eVa1 {d2 : Nat} {Ph : AH → Prop} (X : aOk x (d2 + 1) cc own nm ret mc ms post) {idx : Nat} {kM : aM} {a1 : Value} {z : Nat} {r ci : Nat} {fs : List Value} (hc : aE x.1 d2 kM [.ref r, a1] n h (some (.ref z)) Ph) (hh : h r = some (aOb ci fs)) (kc : aKV kM 1) (hl : Cond.methodLink own idx kM.1 ∈ lw_tbl) (hd : decode cc pc = .ok (.invokevirtual idx, 3)) (kk : ∀ h2 : AH, Ph h2 → AW x cs ss n h2 (pc + 3) lv (.ref z :: st)) (hci : (vwCl[ci]?).map (fun q => q.1) = some kM.1.cls := by rfl) (hcs : cs ≤ mc ∧ ss ≤ ms := by decide) (hsum : (st.map fun v => v.category).sum ≤ 8 := by exact Nat.le_of_ble_eq_true rfl) : AW x cs ss n h pc lv (a1 :: .ref r :: st) := A_callV (As := [a1]) X hc hh hci kc rfl hl hd (fun v n2 h2 hp => by obtain ⟨rfl, rfl, hq⟩ := hp; exact kk h2 hq) (Nat.le_refl _) hcs hsum
theorem A_dVl1 {d2 : Nat} (X : aOk x (d2 + 1) cc own nm ret mc ms post) {idx : Nat} {kM : aM} {a1 : Value} {z : Int} {r ci : Nat} {fs : List Value} (hc : aD x.1 d2 kM [.ref r, a1] n h (some (aL z))) (hh : h r = some (aOb ci fs)) (kc : aKV kM 1) (hl : Cond.methodLink own idx kM.1 ∈ lw_tbl) (hd : decode cc pc = .ok (.invokevirtual idx, 3)) (kk : AW x cs ss n h (pc + 3) lv (aL z :: st)) (hci : (vwCl[ci]?).map (fun q => q.1) = some kM.1.cls := by rfl) (hcs : cs ≤ mc ∧ ss ≤ ms := by decide) (hsum : (st.map fun v => v.category).sum ≤ 8 := by exact Nat.le_of_ble_eq_true rfl) : AW x cs ss n h pc lv (a1 :: .ref r :: st) := A_callV (As := [a1]) X hc hh hci kc rfl hl hd (fun v n2 h2 hp => by obtain ⟨rfl, rfl, rfl⟩ := hp; exact kk) (Nat.le_refl _) hcs hsum
theorem A_eVl1 {d2 : Nat} {Ph : AH → Prop} (X : aOk x (d2 + 1) cc own nm ret mc ms post) {idx : Nat} {kM : aM} {a1 : Value} {z : Int} {r ci : Nat} {fs : List Value} (hc : aE x.1 d2 kM [.ref r, a1] n h (some (aL z)) Ph) (hh : h r = some (aOb ci fs)) (kc : aKV kM 1) (hl : Cond.methodLink own idx kM.1 ∈ lw_tbl) (hd : decode cc pc = .ok (.invokevirtual idx, 3)) (kk : ∀ h2 : AH, Ph h2 → AW x cs ss n h2 (pc + 3) lv (aL z :: st)) (hci : (vwCl[ci]?).map (fun q => q.1) = some kM.1.cls := by rfl) (hcs : cs ≤ mc ∧ ss ≤ ms := by decide) (hsum : (st.map fun v => v.category).sum ≤ 8 := by exact Nat.le_of_ble_eq_true rfl) : AW x cs ss n h pc lv (a1 :: .ref r :: st) := A_callV (As := [a1]) X hc hh hci kc rfl hl hd (fun v n2 h2 hp => by obtain ⟨rfl, rfl, hq⟩ := hp; exact kk h2 hq) (Nat.le_refl _) hcs hsum
theorem A_dVi2 {d2 : Nat} (X : aOk x (d2 + 1) cc own nm ret mc ms post) {idx : Nat} {kM : aM} {a1 a2 : Value} {z : Int} {r ci : Nat} {fs : List Value} (hc : aD x.1 d2 kM [.ref r, a1, a2] n h (some (aI z))) (hh : h r = some (aOb ci fs)) (kc : aKV kM 2) (hl : Cond.methodLink own idx kM.1 ∈ lw_tbl) (hd : decode cc pc = .ok (.invokevirtual idx, 3)) (kk : AW x cs ss n h (pc + 3) lv (aI z :: st)) (hci : (vwCl[ci]?).map (fun q => q.1) = some kM.1.cls := by rfl) (hcs : cs ≤ mc ∧ ss ≤ ms := by decide) (hsum : (st.map fun v => v.category).sum ≤ 8 := by exact Nat.le_of_ble_eq_true rfl) : AW x cs ss n h pc lv (a2 :: a1 :: .ref r :: st) := A_callV (As := [a1, a2]) X hc hh hci kc rfl hl hd (fun v n2 h2 hp => by obtain ⟨rfl, rfl, rfl⟩ := hp; exact kk) (Nat.le_refl _) hcs hsum
theorem A_eVi2 {d2 : Nat} {Ph : AH → Prop} (X : aOk x (d2 + 1) cc own nm ret mc ms post) {idx : Nat} {kM : aM} {a1 a2 : Value} {z : Int} {r ci : Nat} {fs : List Value} (hc : aE x.1 d2 kM [.ref r, a1, a2] n h (some (aI z)) Ph) (hh : h r = some (aOb ci fs)) (kc : aKV kM 2) (hl : Cond.methodLink own idx kM.1 ∈ lw_tbl) (hd : decode cc pc = .ok (.invokevirtual idx, 3)) (kk : ∀ h2 : AH, Ph h2 → AW x cs ss n h2 (pc + 3) lv (aI z :: st)) (hci : (vwCl[ci]?).map (fun q => q.1) = some kM.1.cls := by rfl) (hcs : cs ≤ mc ∧ ss ≤ ms := by decide) (hsum : (st.map fun v => v.category).sum ≤ 8 := by exact Nat.le_of_ble_eq_true rfl) : AW x cs ss n h pc lv (a2 :: a1 :: .ref r :: st) := A_callV (As := [a1, a2]) X hc hh hci kc rfl hl hd (fun v n2 h2 hp => by obtain ⟨rfl, rfl, hq⟩ := hp; exact kk h2 hq) (Nat.le_refl _) hcs hsum
theorem A_dVv2 {d2 : Nat} (X : aOk x (d2 + 1) cc own nm ret mc ms post) {idx : Nat} {kM : aM} {a1 a2 : Value} {r ci : Nat} {fs : List Value} (hc : aD x.1 d2 kM [.ref r, a1, a2] n h (none)) (hh : h r = some (aOb ci fs)) (kc : aKV kM 2) (hl : Cond.methodLink own idx kM.1 ∈ lw_tbl) (hd : decode cc pc = .ok (.invokevirtual idx, 3)) (kk : AW x cs ss n h (pc + 3) lv st) (hci : (vwCl[ci]?).map (fun q => q.1) = some kM.1.cls := by rfl) (hcs : cs ≤ mc ∧ ss ≤ ms := by decide) (hsum : (st.map fun v => v.category).sum ≤ 8 := by exact Nat.le_of_ble_eq_true rfl) : AW x cs ss n h pc lv (a2 :: a1 :: .ref r :: st) := A_callV (As := [a1, a2]) X hc hh hci kc rfl hl hd (fun v n2 h2 hp => by obtain ⟨rfl, rfl, rfl⟩ := hp; exact kk) (Nat.le_refl _) hcs hsum
theorem A_eVv2 {d2 : Nat} {Ph : AH → Prop} (X : aOk x (d2 + 1) cc own nm ret mc ms post) {idx : Nat} {kM : aM} {a1 a2 : Value} {r ci : Nat} {fs : List Value} (hc : aE x.1 d2 kM [.ref r, a1, a2] n h (none) Ph) (hh : h r = some (aOb ci fs)) (kc : aKV kM 2) (hl : Cond.methodLink own idx kM.1 ∈ lw_tbl) (hd : decode cc pc = .ok (.invokevirtual idx, 3)) (kk : ∀ h2 : AH, Ph h2 → AW x cs ss n h2 (pc + 3) lv st) (hci : (vwCl[ci]?).map (fun q => q.1) = some kM.1.cls := by rfl) (hcs : cs ≤ mc ∧ ss ≤ ms := by decide) (hsum : (st.map fun v => v.category).sum ≤ 8 := by exact Nat.le_of_ble_eq_true rfl) : AW x cs ss n h pc lv (a2 :: a1 :: .ref r :: st) := A_callV (As := [a1, a2]) X hc hh hci kc rfl hl hd (fun v n2 h2 hp => by obtain ⟨rfl, rfl, hq⟩ := hp; exact kk h2 hq) (Nat.le_refl _) hcs hsum
theorem A_dVi3 {d2 : Nat} (X : aOk x (d2 + 1) cc own nm ret mc ms post) {idx : Nat} {kM : aM} {a1 a2 a3 : Value} {z : Int} {r ci : Nat} {fs : List Value} (hc : aD x.1 d2 kM [.ref r, a1, a2, a3] n h (some (aI z))) (hh : h r = some (aOb ci fs)) (kc : aKV kM 3) (hl : Cond.methodLink own idx kM.1 ∈ lw_tbl) (hd : decode cc pc = .ok (.invokevirtual idx, 3)) (kk : AW x cs ss n h (pc + 3) lv (aI z :: st)) (hci : (vwCl[ci]?).map (fun q => q.1) = some kM.1.cls := by rfl) (hcs : cs ≤ mc ∧ ss ≤ ms := by decide) (hsum : (st.map fun v => v.category).sum ≤ 8 := by exact Nat.le_of_ble_eq_true rfl) : AW x cs ss n h pc lv (a3 :: a2 :: a1 :: .ref r :: st) := A_callV (As := [a1, a2, a3]) X hc hh hci kc rfl hl hd (fun v n2 h2 hp => by obtain ⟨rfl, rfl, rfl⟩ := hp; exact kk) (Nat.le_refl _) hcs hsum
theorem A_eVi3 {d2 : Nat} {Ph : AH → Prop} (X : aOk x (d2 + 1) cc own nm ret mc ms post) {idx : Nat} {kM : aM} {a1 a2 a3 : Value} {z : Int} {r ci : Nat} {fs : List Value} (hc : aE x.1 d2 kM [.ref r, a1, a2, a3] n h (some (aI z)) Ph) (hh : h r = some (aOb ci fs)) (kc : aKV kM 3) (hl : Cond.methodLink own idx kM.1 ∈ lw_tbl) (hd : decode cc pc = .ok (.invokevirtual idx, 3)) (kk : ∀ h2 : AH, Ph h2 → AW x cs ss n h2 (pc + 3) lv (aI z :: st)) (hci : (vwCl[ci]?).map (fun q => q.1) = some kM.1.cls := by rfl) (hcs : cs ≤ mc ∧ ss ≤ ms := by decide) (hsum : (st.map fun v => v.category).sum ≤ 8 := by exact Nat.le_of_ble_eq_true rfl) : AW x cs ss n h pc lv (a3 :: a2 :: a1 :: .ref r :: st) := A_callV (As := [a1, a2, a3]) X hc hh hci kc rfl hl hd (fun v n2 h2 hp => by obtain ⟨rfl, rfl, hq⟩ := hp; exact kk h2 hq) (Nat.le_refl _) hcs hsum
theorem A_dVv3 {d2 : Nat} (X : aOk x (d2 + 1) cc own nm ret mc ms post) {idx : Nat} {kM : aM} {a1 a2 a3 : Value} {r ci : Nat} {fs : List Value} (hc : aD x.1 d2 kM [.ref r, a1, a2, a3] n h (none)) (hh : h r = some (aOb ci fs)) (kc : aKV kM 3) (hl : Cond.methodLink own idx kM.1 ∈ lw_tbl) (hd : decode cc pc = .ok (.invokevirtual idx, 3)) (kk : AW x cs ss n h (pc + 3) lv st) (hci : (vwCl[ci]?).map (fun q => q.1) = some kM.1.cls := by rfl) (hcs : cs ≤ mc ∧ ss ≤ ms := by decide) (hsum : (st.map fun v => v.category).sum ≤ 8 := by exact Nat.le_of_ble_eq_true rfl) : AW x cs ss n h pc lv (a3 :: a2 :: a1 :: .ref r :: st) := A_callV (As := [a1, a2, a3]) X hc hh hci kc rfl hl hd (fun v n2 h2 hp => by obtain ⟨rfl, rfl, rfl⟩ := hp; exact kk) (Nat.le_refl _) hcs hsum
theorem A_eVv3 {d2 : Nat} {Ph : AH → Prop} (X : aOk x (d2 + 1) cc own nm ret mc ms post) {idx : Nat} {kM : aM} {a1 a2 a3 : Value} {r ci : Nat} {fs : List Value} (hc : aE x.1 d2 kM [.ref r, a1, a2, a3] n h (none) Ph) (hh : h r = some (aOb ci fs)) (kc : aKV kM 3) (hl : Cond.methodLink own idx kM.1 ∈ lw_tbl) (hd : decode cc pc = .ok (.invokevirtual idx, 3)) (kk : ∀ h2 : AH, Ph h2 → AW x cs ss n h2 (pc + 3) lv st) (hci : (vwCl[ci]?).map (fun q => q.1) = some kM.1.cls := by rfl) (hcs : cs ≤ mc ∧ ss ≤ ms := by decide) (hsum : (st.map fun v => v.category).sum ≤ 8 := by exact Nat.le_of_ble_eq_true rfl) : AW x cs ss n h pc lv (a3 :: a2 :: a1 :: .ref r :: st) := A_callV (As := [a1, a2, a3]) X hc hh hci kc rfl hl hd (fun v n2 h2 hp => by obtain ⟨rfl, rfl, hq⟩ := hp; exact kk h2 hq) (Nat.le_refl _) hcs hsum
theorem A_dVi4 {d2 : Nat} (X : aOk x (d2 + 1) cc own nm ret mc ms post) {idx : Nat} {kM : aM} {a1 a2 a3 a4 : Value} {z : Int} {r ci : Nat} {fs : List Value} (hc : aD x.1 d2 kM [.ref r, a1, a2, a3, a4] n h (some (aI z))) (hh : h r = some (aOb ci fs)) (kc : aKV kM 4) (hl : Cond.methodLink own idx kM.1 ∈ lw_tbl) (hd : decode cc pc = .ok (.invokevirtual idx, 3)) (kk : AW x cs ss n h (pc + 3) lv (aI z :: st)) (hci : (vwCl[ci]?).map (fun q => q.1) = some kM.1.cls := by rfl) (hcs : cs ≤ mc ∧ ss ≤ ms := by decide) (hsum : (st.map fun v => v.category).sum ≤ 8 := by exact Nat.le_of_ble_eq_true rfl) : AW x cs ss n h pc lv (a4 :: a3 :: a2 :: a1 :: .ref r :: st) := A_callV (As := [a1, a2, a3, a4]) X hc hh hci kc rfl hl hd (fun v n2 h2 hp => by obtain ⟨rfl, rfl, rfl⟩ := hp; exact kk) (Nat.le_refl _) hcs hsum
theorem A_eVi4 {d2 : Nat} {Ph : AH → Prop} (X : aOk x (d2 + 1) cc own nm ret mc ms post) {idx : Nat} {kM : aM} {a1 a2 a3 a4 : Value} {z : Int} {r ci : Nat} {fs : List Value} (hc : aE x.1 d2 kM [.ref r, a1, a2, a3, a4] n h (some (aI z)) Ph) (hh : h r = some (aOb ci fs)) (kc : aKV kM 4) (hl : Cond.methodLink own idx kM.1 ∈ lw_tbl) (hd : decode cc pc = .ok (.invokevirtual idx, 3)) (kk : ∀ h2 : AH, Ph h2 → AW x cs ss n h2 (pc + 3) lv (aI z :: st)) (hci : (vwCl[ci]?).map (fun q => q.1) = some kM.1.cls := by rfl) (hcs : cs ≤ mc ∧ ss ≤ ms := by decide) (hsum : (st.map fun v => v.category).sum ≤ 8 := by exact Nat.le_of_ble_eq_true rfl) : AW x cs ss n h pc lv (a4 :: a3 :: a2 :: a1 :: .ref r :: st) := A_callV (As := [a1, a2, a3, a4]) X hc hh hci kc rfl hl hd (fun v n2 h2 hp => by obtain ⟨rfl, rfl, hq⟩ := hp; exact kk h2 hq) (Nat.le_refl _) hcs hsum
theorem A_dVv4 {d2 : Nat} (X : aOk x (d2 + 1) cc own nm ret mc ms post) {idx : Nat} {kM : aM} {a1 a2 a3 a4 : Value} {r ci : Nat} {fs : List Value} (hc : aD x.1 d2 kM [.ref r, a1, a2, a3, a4] n h (none)) (hh : h r = some (aOb ci fs)) (kc : aKV kM 4) (hl : Cond.methodLink own idx kM.1 ∈ lw_tbl) (hd : decode cc pc = .ok (.invokevirtual idx, 3)) (kk : AW x cs ss n h (pc + 3) lv st) (hci : (vwCl[ci]?).map (fun q => q.1) = some kM.1.cls := by rfl) (hcs : cs ≤ mc ∧ ss ≤ ms := by decide) (hsum : (st.map fun v => v.category).sum ≤ 8 := by exact Nat.le_of_ble_eq_true rfl) : AW x cs ss n h pc lv (a4 :: a3 :: a2 :: a1 :: .ref r :: st) := A_callV (As := [a1, a2, a3, a4]) X hc hh hci kc rfl hl hd (fun v n2 h2 hp => by obtain ⟨rfl, rfl, rfl⟩ := hp; exact kk) (Nat.le_refl _) hcs hsum
theorem A_eVv4 {d2 : Nat} {Ph : AH → Prop} (X : aOk x (d2 + 1) cc own nm ret mc ms post) {idx : Nat} {kM : aM} {a1 a2 a3 a4 : Value} {r ci : Nat} {fs : List Value} (hc : aE x.1 d2 kM [.ref r, a1, a2, a3, a4] n h (none) Ph) (hh : h r = some (aOb ci fs)) (kc : aKV kM 4) (hl : Cond.methodLink own idx kM.1 ∈ lw_tbl) (hd : decode cc pc = .ok (.invokevirtual idx, 3)) (kk : ∀ h2 : AH, Ph h2 → AW x cs ss n h2 (pc + 3) lv st) (hci : (vwCl[ci]?).map (fun q => q.1) = some kM.1.cls := by rfl) (hcs : cs ≤ mc ∧ ss ≤ ms := by decide) (hsum : (st.map fun v => v.category).sum ≤ 8 := by exact Nat.le_of_ble_eq_true rfl) : AW x cs ss n h pc lv (a4 :: a3 :: a2 :: a1 :: .ref r :: st) := A_callV (As := [a1, a2, a3, a4]) X hc hh hci kc rfl hl hd (fun v n2 h2 hp => by obtain ⟨rfl, rfl, hq⟩ := hp; exact kk h2 hq) (Nat.le_refl _) hcs hsum
theorem A_dVi5 {d2 : Nat} (X : aOk x (d2 + 1) cc own nm ret mc ms post) {idx : Nat} {kM : aM} {a1 a2 a3 a4 a5 : Value} {z : Int} {r ci : Nat} {fs : List Value} (hc : aD x.1 d2 kM [.ref r, a1, a2, a3, a4, a5] n h (some (aI z))) (hh : h r = some (aOb ci fs)) (kc : aKV kM 5) (hl : Cond.methodLink own idx kM.1 ∈ lw_tbl) (hd : decode cc pc = .ok (.invokevirtual idx, 3)) (kk : AW x cs ss n h (pc + 3) lv (aI z :: st)) (hci : (vwCl[ci]?).map (fun q => q.1) = some kM.1.cls := by rfl) (hcs : cs ≤ mc ∧ ss ≤ ms := by decide) (hsum : (st.map fun v => v.category).sum ≤ 8 := by exact Nat.le_of_ble_eq_true rfl) : AW x cs ss n h pc lv (a5 :: a4 :: a3 :: a2 :: a1 :: .ref r :: st) := A_callV (As := [a1, a2, a3, a4, a5]) X hc hh hci kc rfl hl hd (fun v n2 h2 hp => by obtain ⟨rfl, rfl, rfl⟩ := hp; exact kk) (Nat.le_refl _) hcs hsum
theorem A_eVi5 {d2 : Nat} {Ph : AH → Prop} (X : aOk x (d2 + 1) cc own nm ret mc ms post) {idx : Nat} {kM : aM} {a1 a2 a3 a4 a5 : Value} {z : Int} {r ci : Nat} {fs : List Value} (hc : aE x.1 d2 kM [.ref r, a1, a2, a3, a4, a5] n h (some (aI z)) Ph) (hh : h r = some (aOb ci fs)) (kc : aKV kM 5) (hl : Cond.methodLink own idx kM.1 ∈ lw_tbl) (hd : decode cc pc = .ok (.invokevirtual idx, 3)) (kk : ∀ h2 : AH, Ph h2 → AW x cs ss n h2 (pc + 3) lv (aI z :: st)) (hci : (vwCl[ci]?).map (fun q => q.1) = some kM.1.cls := by rfl) (hcs : cs ≤ mc ∧ ss ≤ ms := by decide) (hsum : (st.map fun v => v.category).sum ≤ 8 := by exact Nat.le_of_ble_eq_true rfl) : AW x cs ss n h pc lv (a5 :: a4 :: a3 :: a2 :: a1 :: .ref r :: st) := A_callV (As := [a1, a2, a3, a4, a5]) X hc hh hci kc rfl hl hd (fun v n2 h2 hp => by obtain ⟨rfl, rfl, hq⟩ := hp; exact kk h2 hq) (Nat.le_refl _) hcs hsum
theorem A_dVv5 {d2 : Nat} (X : aOk x (d2 + 1) cc own nm ret mc ms post) {idx : Nat} {kM : aM} {a1 a2 a3 a4 a5 : Value} {r ci : Nat} {fs : List Value} (hc : aD x.1 d2 kM [.ref r, a1, a2, a3, a4, a5] n h (none)) (hh : h r = some (aOb ci fs)) (kc : aKV kM 5) (hl : Cond.methodLink own idx kM.1 ∈ lw_tbl) (hd : decode cc pc = .ok (.invokevirtual idx, 3)) (kk : AW x cs ss n h (pc + 3) lv st) (hci : (vwCl[ci]?).map (fun q => q.1) = some kM.1.cls := by rfl) (hcs : cs ≤ mc ∧ ss ≤ ms := by decide) (hsum : (st.map fun v => v.category).sum ≤ 8 := by exact Nat.le_of_ble_eq_true rfl) : AW x cs ss n h pc lv (a5 :: a4 :: a3 :: a2 :: a1 :: .ref r :: st) := A_callV (As := [a1, a2, a3, a4, a5]) X hc hh hci kc rfl hl hd (fun v n2 h2 hp => by obtain ⟨rfl, rfl, rfl⟩ := hp; exact kk) (Nat.le_refl _) hcs hsum
theorem A_eVv5 {d2 : Nat} {Ph : AH → Prop} (X : aOk x (d2 + 1) cc own nm ret mc ms post) {idx : Nat} {kM : aM} {a1 a2 a3 a4 a5 : Value} {r ci : Nat} {fs : List Value} (hc : aE x.1 d2 kM [.ref r, a1, a2, a3, a4, a5] n h (none) Ph) (hh : h r = some (aOb ci fs)) (kc : aKV kM 5) (hl : Cond.methodLink own idx kM.1 ∈ lw_tbl) (hd : decode cc pc = .ok (.invokevirtual idx, 3)) (kk : ∀ h2 : AH, Ph h2 → AW x cs ss n h2 (pc + 3) lv st) (hci : (vwCl[ci]?).map (fun q => q.1) = some kM.1.cls := by rfl) (hcs : cs ≤ mc ∧ ss ≤ ms := by decide) (hsum : (st.map fun v => v.category).sum ≤ 8 := by exact Nat.le_of_ble_eq_true rfl) : AW x cs ss n h pc lv (a5 :: a4 :: a3 :: a2 :: a1 :: .ref r :: st) := A_callV (As := [a1, a2, a3, a4, a5]) X hc hh hci kc rfl hl hd (fun v n2 h2 hp => by obtain ⟨rfl, rfl, hq⟩ := hp; exact kk h2 hq) (Nat.le_refl _) hcs hsum
theorem A_dVNi0 {d2 : Nat} (X : aOk x (d2 + 1) cc own nm ret mc ms post) {idx : Nat} {kM : aM} {z : Int} {r ci : Nat} {fs : List Value} {host : String} (hc : aD x.1 d2 kM [.ref r] n h (some (aI z))) (hh : h r = some (aOb ci fs)) (kc : aKV kM 0) (hl : Cond.methodLinkNest own idx kM.1 host ∈ lw_tbl) (hd : decode cc pc = .ok (.invokevirtual idx, 3)) (kk : AW x cs ss n h (pc + 3) lv (aI z :: st)) (hci : (vwCl[ci]?).map (fun q => q.1) = some kM.1.cls := by rfl) (hcs : cs ≤ mc ∧ ss ≤ ms := by decide) (hsum : (st.map fun v => v.category).sum ≤ 8 := by exact Nat.le_of_ble_eq_true rfl) : AW x cs ss n h pc lv (.ref r :: st) := A_callVN (As := []) X hc hh hci kc rfl hl hd (fun v n2 h2 hp => by obtain ⟨rfl, rfl, rfl⟩ := hp; exact kk) (Nat.le_refl _) hcs hsum
theorem A_eVNi0 {d2 : Nat} {Ph : AH → Prop} (X : aOk x (d2 + 1) cc own nm ret mc ms post) {idx : Nat} {kM : aM} {z : Int} {r ci : Nat} {fs : List Value} {host : String} (hc : aE x.1 d2 kM [.ref r] n h (some (aI z)) Ph) (hh : h r = some (aOb ci fs)) (kc : aKV kM 0) (hl : Cond.methodLinkNest own idx kM.1 host ∈ lw_tbl) (hd : decode cc pc = .ok (.invokevirtual idx, 3)) (kk : ∀ h2 : AH, Ph h2 → AW x cs ss n h2 (pc + 3) lv (aI z :: st)) (hci : (vwCl[ci]?).map (fun q => q.1) = some kM.1.cls := by rfl) (hcs : cs ≤ mc ∧ ss ≤ ms := by decide) (hsum : (st.map fun v => v.category).sum ≤ 8 := by exact Nat.le_of_ble_eq_true rfl) : AW x cs ss n h pc lv (.ref r :: st) := A_callVN (As := []) X hc hh hci kc rfl hl hd (fun v n2 h2 hp => by obtain ⟨rfl, rfl, hq⟩ := hp; exact kk h2 hq) (Nat.le_refl _) hcs hsum
theorem A_dVNv0 {d2 : Nat} (X : aOk x (d2 + 1) cc own nm ret mc ms post) {idx : Nat} {kM : aM} {r ci : Nat} {fs : List Value} {host : String} (hc : aD x.1 d2 kM [.ref r] n h (none)) (hh : h r = some (aOb ci fs)) (kc : aKV kM 0) (hl : Cond.methodLinkNest own idx kM.1 host ∈ lw_tbl) (hd : decode cc pc = .ok (.invokevirtual idx, 3)) (kk : AW x cs ss n h (pc + 3) lv st) (hci : (vwCl[ci]?).map (fun q => q.1) = some kM.1.cls := by rfl) (hcs : cs ≤ mc ∧ ss ≤ ms := by decide) (hsum : (st.map fun v => v.category).sum ≤ 8 := by exact Nat.le_of_ble_eq_true rfl) : AW x cs ss n h pc lv (.ref r :: st) := A_callVN (As := []) X hc hh hci kc rfl hl hd (fun v n2 h2 hp => by obtain ⟨rfl, rfl, rfl⟩ := hp; exact kk) (Nat.le_refl _) hcs hsum
theorem A_eVNv0 {d2 : Nat} {Ph : AH → Prop} (X : aOk x (d2 + 1) cc own nm ret mc ms post) {idx : Nat} {kM : aM} {r ci : Nat} {fs : List Value} {host : String} (hc : aE x.1 d2 kM [.ref r] n h (none) Ph) (hh : h r = some (aOb ci fs)) (kc : aKV kM 0) (hl : Cond.methodLinkNest own idx kM.1 host ∈ lw_tbl) (hd : decode cc pc = .ok (.invokevirtual idx, 3)) (kk : ∀ h2 : AH, Ph h2 → AW x cs ss n h2 (pc + 3) lv st) (hci : (vwCl[ci]?).map (fun q => q.1) = some kM.1.cls := by rfl) (hcs : cs ≤ mc ∧ ss ≤ ms := by decide) (hsum : (st.map fun v => v.category).sum ≤ 8 := by exact Nat.le_of_ble_eq_true rfl) : AW x cs ss n h pc lv (.ref r :: st) := A_callVN (As := []) X hc hh hci kc rfl hl hd (fun v n2 h2 hp => by obtain ⟨rfl, rfl, hq⟩ := hp; exact kk h2 hq) (Nat.le_refl _) hcs hsum
theorem A_dVNa0 {d2 : Nat} (X : aOk x (d2 + 1) cc own nm ret mc ms post) {idx : Nat} {kM : aM} {z : Nat} {r ci : Nat} {fs : List Value} {host : String} (hc : aD x.1 d2 kM [.ref r] n h (some (.ref z))) (hh : h r = some (aOb ci fs)) (kc : aKV kM 0) (hl : Cond.methodLinkNest own idx kM.1 host ∈ lw_tbl) (hd : decode cc pc = .ok (.invokevirtual idx, 3)) (kk : AW x cs ss n h (pc + 3) lv (.ref z :: st)) (hci : (vwCl[ci]?).map (fun q => q.1) = some kM.1.cls := by rfl) (hcs : cs ≤ mc ∧ ss ≤ ms := by decide) (hsum : (st.map fun v => v.category).sum ≤ 8 := by exact Nat.le_of_ble_eq_true rfl) : AW x cs ss n h pc lv (.ref r :: st) := A_callVN (As := []) X hc hh hci kc rfl hl hd (fun v n2 h2 hp => by obtain ⟨rfl, rfl, rfl⟩ := hp; exact kk) (Nat.le_refl _) hcs hsum
theorem A_eVNa0 {d2 : Nat} {Ph : AH → Prop} (X : aOk x (d2 + 1) cc own nm ret mc ms post) {idx : Nat} {kM : aM} {z : Nat} {r ci : Nat} {fs : List Value} {host : String} (hc : aE x.1 d2 kM [.ref r] n h (some (.ref z)) Ph) (hh : h r = some (aOb ci fs)) (kc : aKV kM 0) (hl : Cond.methodLinkNest own idx kM.1 host ∈ lw_tbl) (hd : decode cc pc = .ok (.invokevirtual idx, 3)) (kk : ∀ h2 : AH, Ph h2 → AW x cs ss n h2 (pc + 3) lv (.ref z :: st)) (hci : (vwCl[ci]?).map (fun q => q.1) = some kM.1.cls := by rfl) (hcs : cs ≤ mc ∧ ss ≤ ms := by decide) (hsum : (st.map fun v => v.category).sum ≤ 8 := by exact Nat.le_of_ble_eq_true rfl) : AW x cs ss n h pc lv (.ref r :: st) := A_callVN (As := []) X hc hh hci kc rfl hl hd (fun v n2 h2 hp => by obtain ⟨rfl, rfl, hq⟩ := hp; exact kk h2 hq) (Nat.le_refl _) hcs hsum
theorem A_dVNl0 {d2 : Nat} (X : aOk x (d2 + 1) cc own nm ret mc ms post) {idx : Nat} {kM : aM} {z : Int} {r ci : Nat} {fs : List Value} {host : String} (hc : aD x.1 d2 kM [.ref r] n h (some (aL z))) (hh : h r = some (aOb ci fs)) (kc : aKV kM 0) (hl : Cond.methodLinkNest own idx kM.1 host ∈ lw_tbl) (hd : decode cc pc = .ok (.invokevirtual idx, 3)) (kk : AW x cs ss n h (pc + 3) lv (aL z :: st)) (hci : (vwCl[ci]?).map (fun q => q.1) = some kM.1.cls := by rfl) (hcs : cs ≤ mc ∧ ss ≤ ms := by decide) (hsum : (st.map fun v => v.category).sum ≤ 8 := by exact Nat.le_of_ble_eq_true rfl) : AW x cs ss n h pc lv (.ref r :: st) := A_callVN (As := []) X hc hh hci kc rfl hl hd (fun v n2 h2 hp => by obtain ⟨rfl, rfl, rfl⟩ := hp; exact kk) (Nat.le_refl _) hcs hsum
theorem A_eVNl0 {d2 : Nat} {Ph : AH → Prop} (X : aOk x (d2 + 1) cc own nm ret mc ms post) {idx : Nat} {kM : aM} {z : Int} {r ci : Nat} {fs : List Value} {host : String} (hc : aE x.1 d2 kM [.ref r] n h (some (aL z)) Ph) (hh : h r = some (aOb ci fs)) (kc : aKV kM 0) (hl : Cond.methodLinkNest own idx kM.1 host ∈ lw_tbl) (hd : decode cc pc = .ok (.invokevirtual idx, 3)) (kk : ∀ h2 : AH, Ph h2 → AW x cs ss n h2 (pc + 3) lv (aL z :: st)) (hci : (vwCl[ci]?).map (fun q => q.1) = some kM.1.cls := by rfl) (hcs : cs ≤ mc ∧ ss ≤ ms := by decide) (hsum : (st.map fun v => v.category).sum ≤ 8 := by exact Nat.le_of_ble_eq_true rfl) : AW x cs ss n h pc lv (.ref r :: st) := A_callVN (As := []) X hc hh hci kc rfl hl hd (fun v n2 h2 hp => by obtain ⟨rfl, rfl, hq⟩ := hp; exact kk h2 hq) (Nat.le_refl _) hcs hsum
theorem A_dVNi1 {d2 : Nat} (X : aOk x (d2 + 1) cc own nm ret mc ms post) {idx : Nat} {kM : aM} {a1 : Value} {z : Int} {r ci : Nat} {fs : List Value} {host : String} (hc : aD x.1 d2 kM [.ref r, a1] n h (some (aI z))) (hh : h r = some (aOb ci fs)) (kc : aKV kM 1) (hl : Cond.methodLinkNest own idx kM.1 host ∈ lw_tbl) (hd : decode cc pc = .ok (.invokevirtual idx, 3)) (kk : AW x cs ss n h (pc + 3) lv (aI z :: st)) (hci : (vwCl[ci]?).map (fun q => q.1) = some kM.1.cls := by rfl) (hcs : cs ≤ mc ∧ ss ≤ ms := by decide) (hsum : (st.map fun v => v.category).sum ≤ 8 := by exact Nat.le_of_ble_eq_true rfl) : AW x cs ss n h pc lv (a1 :: .ref r :: st) := A_callVN (As := [a1]) X hc hh hci kc rfl hl hd (fun v n2 h2 hp => by obtain ⟨rfl, rfl, rfl⟩ := hp; exact kk) (Nat.le_refl _) hcs hsum
theorem A_eVNi1 {d2 : Nat} {Ph : AH → Prop} (X : aOk x (d2 + 1) cc own nm ret mc ms post) {idx : Nat} {kM : aM} {a1 : Value} {z : Int} {r ci : Nat} {fs : List Value} {host : String} (hc : aE x.1 d2 kM [.ref r, a1] n h (some (aI z)) Ph) (hh : h r = some (aOb ci fs)) (kc : aKV kM 1) (hl : Cond.methodLinkNest own idx kM.1 host ∈ lw_tbl) (hd : decode cc pc = .ok (.invokevirtual idx, 3)) (kk : ∀ h2 : AH, Ph h2 → AW x cs ss n h2 (pc + 3) lv (aI z :: st)) (hci : (vwCl[ci]?).map (fun q => q.1) = some kM.1.cls := by rfl) (hcs : cs ≤ mc ∧ ss ≤ ms := by decide) (hsum : (st.map fun v => v.category).sum ≤ 8 := by exact Nat.le_of_ble_eq_true rfl) : AW x cs ss n h pc lv (a1 :: .ref r :: st) := A_callVN (As := [a1]) X hc hh hci kc rfl hl hd (fun v n2 h2 hp => by obtain ⟨rfl, rfl, hq⟩ := hp; exact kk h2 hq) (Nat.le_refl _) hcs hsum
theorem A_dVNv1 {d2 : Nat} (X : aOk x (d2 + 1) cc own nm ret mc ms post) {idx : Nat} {kM : aM} {a1 : Value} {r ci : Nat} {fs : List Value} {host : String} (hc : aD x.1 d2 kM [.ref r, a1] n h (none)) (hh : h r = some (aOb ci fs)) (kc : aKV kM 1) (hl : Cond.methodLinkNest own idx kM.1 host ∈ lw_tbl) (hd : decode cc pc = .ok (.invokevirtual idx, 3)) (kk : AW x cs ss n h (pc + 3) lv st) (hci : (vwCl[ci]?).map (fun q => q.1) = some kM.1.cls := by rfl) (hcs : cs ≤ mc ∧ ss ≤ ms := by decide) (hsum : (st.map fun v => v.category).sum ≤ 8 := by exact Nat.le_of_ble_eq_true rfl) : AW x cs ss n h pc lv (a1 :: .ref r :: st) := A_callVN (As := [a1]) X hc hh hci kc rfl hl hd (fun v n2 h2 hp => by obtain ⟨rfl, rfl, rfl⟩ := hp; exact kk) (Nat.le_refl _) hcs hsum
theorem A_eVNv1 {d2 : Nat} {Ph : AH → Prop} (X : aOk x (d2 + 1) cc own nm ret mc ms post) {idx : Nat} {kM : aM} {a1 : Value} {r ci : Nat} {fs : List Value} {host : String} (hc : aE x.1 d2 kM [.ref r, a1] n h (none) Ph) (hh : h r = some (aOb ci fs)) (kc : aKV kM 1) (hl : Cond.methodLinkNest own idx kM.1 host ∈ lw_tbl) (hd : decode cc pc = .ok (.invokevirtual idx, 3)) (kk : ∀ h2 : AH, Ph h2 → AW x cs ss n h2 (pc + 3) lv st) (hci : (vwCl[ci]?).map (fun q => q.1) = some kM.1.cls := by rfl) (hcs : cs ≤ mc ∧ ss ≤ ms := by decide) (hsum : (st.map fun v => v.category).sum ≤ 8 := by exact Nat.le_of_ble_eq_true rfl) : AW x cs ss n h pc lv (a1 :: .ref r :: st) := A_callVN (As := [a1]) X hc hh hci kc rfl hl hd (fun v n2 h2 hp => by obtain ⟨rfl, rfl, hq⟩ := hp; exact kk h2 hq) (Nat.le_refl _) hcs hsum
theorem A_dVNa1 {d2 : Nat} (X : aOk x (d2 + 1) cc own nm ret mc ms post) {idx : Nat} {kM : aM} {a1 : Value} {z : Nat} {r ci : Nat} {fs : List Value} {host : String} (hc : aD x.1 d2 kM [.ref r, a1] n h (some (.ref z))) (hh : h r = some (aOb ci fs)) (kc : aKV kM 1) (hl : Cond.methodLinkNest own idx kM.1 host ∈ lw_tbl) (hd : decode cc pc = .ok (.invokevirtual idx, 3)) (kk : AW x cs ss n h (pc + 3) lv (.ref z :: st)) (hci : (vwCl[ci]?).map (fun q => q.1) = some kM.1.cls := by rfl) (hcs : cs ≤ mc ∧ ss ≤ ms := by decide) (hsum : (st.map fun v => v.category).sum ≤ 8 := by exact Nat.le_of_ble_eq_true rfl) : AW x cs ss n h pc lv (a1 :: .ref r :: st) := A_callVN (As := [a1]) X hc hh hci kc rfl hl hd (fun v n2 h2 hp => by obtain ⟨rfl, rfl, rfl⟩ := hp; exact kk) (Nat.le_refl _) hcs hsum
theorem A_eVNa1 {d2 : Nat} {Ph : AH → Prop} (X : aOk x (d2 + 1) cc own nm ret mc ms post) {idx : Nat} {kM : aM} {a1 : Value} {z : Nat} {r ci : Nat} {fs : List Value} {host : String} (hc : aE x.1 d2 kM [.ref r, a1] n h (some (.ref z)) Ph) (hh : h r = some (aOb ci fs)) (kc : aKV kM 1) (hl : Cond.methodLinkNest own idx kM.1 host ∈ lw_tbl) (hd : decode cc pc = .ok (.invokevirtual idx, 3)) (kk : ∀ h2 : AH, Ph h2 → AW x cs ss n h2 (pc + 3) lv (.ref z :: st)) (hci : (vwCl[ci]?).map (fun q => q.1) = some kM.1.cls := by rfl) (hcs : cs ≤ mc ∧ ss ≤ ms := by decide) (hsum : (st.map fun v => v.category).sum ≤ 8 := by exact Nat.le_of_ble_eq_true rfl) : AW x cs ss n h pc lv (a1 :: .ref r :: st) := A_callVN (As := [a1]) X hc hh hci kc rfl hl hd (fun v n2 h2 hp => by obtain ⟨rfl, rfl, hq⟩ := hp; exact kk h2 hq) (Nat.le_refl _) hcs hsum
theorem A_dVNl1 {d2 : Nat} (X : aOk x (d2 + 1) cc own nm ret mc ms post) {idx : Nat} {kM : aM} {a1 : Value} {z : Int} {r ci : Nat} {fs : List Value} {host : String} (hc : aD x.1 d2 kM [.ref r, a1] n h (some (aL z))) (hh : h r = some (aOb ci fs)) (kc : aKV kM 1) (hl : Cond.methodLinkNest own idx kM.1 host ∈ lw_tbl) (hd : decode cc pc = .ok (.invokevirtual idx, 3)) (kk : AW x cs ss n h (pc + 3) lv (aL z :: st)) (hci : (vwCl[ci]?).map (fun q => q.1) = some kM.1.cls := by rfl) (hcs : cs ≤ mc ∧ ss ≤ ms := by decide) (hsum : (st.map fun v => v.category).sum ≤ 8 := by exact Nat.le_of_ble_eq_true rfl) : AW x cs ss n h pc lv (a1 :: .ref r :: st) := A_callVN (As := [a1]) X hc hh hci kc rfl hl hd (fun v n2 h2 hp => by obtain ⟨rfl, rfl, rfl⟩ := hp; exact kk) (Nat.le_refl _) hcs hsum
theorem A_eVNl1 {d2 : Nat} {Ph : AH → Prop} (X : aOk x (d2 + 1) cc own nm ret mc ms post) {idx : Nat} {kM : aM} {a1 : Value} {z : Int} {r ci : Nat} {fs : List Value} {host : String} (hc : aE x.1 d2 kM [.ref r, a1] n h (some (aL z)) Ph) (hh : h r = some (aOb ci fs)) (kc : aKV kM 1) (hl : Cond.methodLinkNest own idx kM.1 host ∈ lw_tbl) (hd : decode cc pc = .ok (.invokevirtual idx, 3)) (kk : ∀ h2 : AH, Ph h2 → AW x cs ss n h2 (pc + 3) lv (aL z :: st)) (hci : (vwCl[ci]?).map (fun q => q.1) = some kM.1.cls := by rfl) (hcs : cs ≤ mc ∧ ss ≤ ms := by decide) (hsum : (st.map fun v => v.category).sum ≤ 8 := by exact Nat.le_of_ble_eq_true rfl) : AW x cs ss n h pc lv (a1 :: .ref r :: st) := A_callVN (As := [a1]) X hc hh hci kc rfl hl hd (fun v n2 h2 hp => by obtain ⟨rfl, rfl, hq⟩ := hp; exact kk h2 hq) (Nat.le_refl _) hcs hsum
theorem A_dVNi2 {d2 : Nat} (X : aOk x (d2 + 1) cc own nm ret mc ms post) {idx : Nat} {kM : aM} {a1 a2 : Value} {z : Int} {r ci : Nat} {fs : List Value} {host : String} (hc : aD x.1 d2 kM [.ref r, a1, a2] n h (some (aI z))) (hh : h r = some (aOb ci fs)) (kc : aKV kM 2) (hl : Cond.methodLinkNest own idx kM.1 host ∈ lw_tbl) (hd : decode cc pc = .ok (.invokevirtual idx, 3)) (kk : AW x cs ss n h (pc + 3) lv (aI z :: st)) (hci : (vwCl[ci]?).map (fun q => q.1) = some kM.1.cls := by rfl) (hcs : cs ≤ mc ∧ ss ≤ ms := by decide) (hsum : (st.map fun v => v.category).sum ≤ 8 := by exact Nat.le_of_ble_eq_true rfl) : AW x cs ss n h pc lv (a2 :: a1 :: .ref r :: st) := A_callVN (As := [a1, a2]) X hc hh hci kc rfl hl hd (fun v n2 h2 hp => by obtain ⟨rfl, rfl, rfl⟩ := hp; exact kk) (Nat.le_refl _) hcs hsum
theorem A_eVNi2 {d2 : Nat} {Ph : AH → Prop} (X : aOk x (d2 + 1) cc own nm ret mc ms post) {idx : Nat} {kM : aM} {a1 a2 : Value} {z : Int} {r ci : Nat} {fs : List Value} {host : String} (hc : aE x.1 d2 kM [.ref r, a1, a2] n h (some (aI z)) Ph) (hh : h r = some (aOb ci fs)) (kc : aKV kM 2) (hl : Cond.methodLinkNest own idx kM.1 host ∈ lw_tbl) (hd : decode cc pc = .ok (.invokevirtual idx, 3)) (kk : ∀ h2 : AH, Ph h2 → AW x cs ss n h2 (pc + 3) lv (aI z :: st)) (hci : (vwCl[ci]?).map (fun q => q.1) = some kM.1.cls := by rfl) (hcs : cs ≤ mc ∧ ss ≤ ms := by decide) (hsum : (st.map fun v => v.category).sum ≤ 8 := by exact Nat.le_of_ble_eq_true rfl) : AW x cs ss n h pc lv (a2 :: a1 :: .ref r :: st) := A_callVN (As := [a1, a2]) X hc hh hci kc rfl hl hd (fun v n2 h2 hp => by obtain ⟨rfl, rfl, hq⟩ := hp; exact kk h2 hq) (Nat.le_refl _) hcs hsum
theorem A_dVNv2 {d2 : Nat} (X : aOk x (d2 + 1) cc own nm ret mc ms post) {idx : Nat} {kM : aM} {a1 a2 : Value} {r ci : Nat} {fs : List Value} {host : String} (hc : aD x.1 d2 kM [.ref r, a1, a2] n h (none)) (hh : h r = some (aOb ci fs)) (kc : aKV kM 2) (hl : Cond.methodLinkNest own idx kM.1 host ∈ lw_tbl) (hd : decode cc pc = .ok (.invokevirtual idx, 3)) (kk : AW x cs ss n h (pc + 3) lv st) (hci : (vwCl[ci]?).map (fun q => q.1) = some kM.1.cls := by rfl) (hcs : cs ≤ mc ∧ ss ≤ ms := by decide) (hsum : (st.map fun v => v.category).sum ≤ 8 := by exact Nat.le_of_ble_eq_true rfl) : AW x cs ss n h pc lv (a2 :: a1 :: .ref r :: st) := A_callVN (As := [a1, a2]) X hc hh hci kc rfl hl hd (fun v n2 h2 hp => by obtain ⟨rfl, rfl, rfl⟩ := hp; exact kk) (Nat.le_refl _) hcs hsum
theorem A_eVNv2 {d2 : Nat} {Ph : AH → Prop} (X : aOk x (d2 + 1) cc own nm ret mc ms post) {idx : Nat} {kM : aM} {a1 a2 : Value} {r ci : Nat} {fs : List Value} {host : String} (hc : aE x.1 d2 kM [.ref r, a1, a2] n h (none) Ph) (hh : h r = some (aOb ci fs)) (kc : aKV kM 2) (hl : Cond.methodLinkNest own idx kM.1 host ∈ lw_tbl) (hd : decode cc pc = .ok (.invokevirtual idx, 3)) (kk : ∀ h2 : AH, Ph h2 → AW x cs ss n h2 (pc + 3) lv st) (hci : (vwCl[ci]?).map (fun q => q.1) = some kM.1.cls := by rfl) (hcs : cs ≤ mc ∧ ss ≤ ms := by decide) (hsum : (st.map fun v => v.category).sum ≤ 8 := by exact Nat.le_of_ble_eq_true rfl) : AW x cs ss n h pc lv (a2 :: a1 :: .ref r :: st) := A_callVN (As := [a1, a2]) X hc hh hci kc rfl hl hd (fun v n2 h2 hp => by obtain ⟨rfl, rfl, hq⟩ := hp; exact kk h2 hq) (Nat.le_refl _) hcs hsum
theorem A_dVNi3 {d2 : Nat} (X : aOk x (d2 + 1) cc own nm ret mc ms post) {idx : Nat} {kM : aM} {a1 a2 a3 : Value} {z : Int} {r ci : Nat} {fs : List Value} {host : String} (hc : aD x.1 d2 kM [.ref r, a1, a2, a3] n h (some (aI z))) (hh : h r = some (aOb ci fs)) (kc : aKV kM 3) (hl : Cond.methodLinkNest own idx kM.1 host ∈ lw_tbl) (hd : decode cc pc = .ok (.invokevirtual idx, 3)) (kk : AW x cs ss n h (pc + 3) lv (aI z :: st)) (hci : (vwCl[ci]?).map (fun q => q.1) = some kM.1.cls := by rfl) (hcs : cs ≤ mc ∧ ss ≤ ms := by decide) (hsum : (st.map fun v => v.category).sum ≤ 8 := by exact Nat.le_of_ble_eq_true rfl) : AW x cs ss n h pc lv (a3 :: a2 :: a1 :: .ref r :: st) := A_callVN (As := [a1, a2, a3]) X hc hh hci kc rfl hl hd (fun v n2 h2 hp => by obtain ⟨rfl, rfl, rfl⟩ := hp; exact kk) (Nat.le_refl _) hcs hsum
theorem A_eVNi3 {d2 : Nat} {Ph : AH → Prop} (X : aOk x (d2 + 1) cc own nm ret mc ms post) {idx : Nat} {kM : aM} {a1 a2 a3 : Value} {z : Int} {r ci : Nat} {fs : List Value} {host : String} (hc : aE x.1 d2 kM [.ref r, a1, a2, a3] n h (some (aI z)) Ph) (hh : h r = some (aOb ci fs)) (kc : aKV kM 3) (hl : Cond.methodLinkNest own idx kM.1 host ∈ lw_tbl) (hd : decode cc pc = .ok (.invokevirtual idx, 3)) (kk : ∀ h2 : AH, Ph h2 → AW x cs ss n h2 (pc + 3) lv (aI z :: st)) (hci : (vwCl[ci]?).map (fun q => q.1) = some kM.1.cls := by rfl) (hcs : cs ≤ mc ∧ ss ≤ ms := by decide) (hsum : (st.map fun v => v.category).sum ≤ 8 := by exact Nat.le_of_ble_eq_true rfl) : AW x cs ss n h pc lv (a3 :: a2 :: a1 :: .ref r :: st) := A_callVN (As := [a1, a2, a3]) X hc hh hci kc rfl hl hd (fun v n2 h2 hp => by obtain ⟨rfl, rfl, hq⟩ := hp; exact kk h2 hq) (Nat.le_refl _) hcs hsum
theorem A_dVNv3 {d2 : Nat} (X : aOk x (d2 + 1) cc own nm ret mc ms post) {idx : Nat} {kM : aM} {a1 a2 a3 : Value} {r ci : Nat} {fs : List Value} {host : String} (hc : aD x.1 d2 kM [.ref r, a1, a2, a3] n h (none)) (hh : h r = some (aOb ci fs)) (kc : aKV kM 3) (hl : Cond.methodLinkNest own idx kM.1 host ∈ lw_tbl) (hd : decode cc pc = .ok (.invokevirtual idx, 3)) (kk : AW x cs ss n h (pc + 3) lv st) (hci : (vwCl[ci]?).map (fun q => q.1) = some kM.1.cls := by rfl) (hcs : cs ≤ mc ∧ ss ≤ ms := by decide) (hsum : (st.map fun v => v.category).sum ≤ 8 := by exact Nat.le_of_ble_eq_true rfl) : AW x cs ss n h pc lv (a3 :: a2 :: a1 :: .ref r :: st) := A_callVN (As := [a1, a2, a3]) X hc hh hci kc rfl hl hd (fun v n2 h2 hp => by obtain ⟨rfl, rfl, rfl⟩ := hp; exact kk) (Nat.le_refl _) hcs hsum
theorem A_eVNv3 {d2 : Nat} {Ph : AH → Prop} (X : aOk x (d2 + 1) cc own nm ret mc ms post) {idx : Nat} {kM : aM} {a1 a2 a3 : Value} {r ci : Nat} {fs : List Value} {host : String} (hc : aE x.1 d2 kM [.ref r, a1, a2, a3] n h (none) Ph) (hh : h r = some (aOb ci fs)) (kc : aKV kM 3) (hl : Cond.methodLinkNest own idx kM.1 host ∈ lw_tbl) (hd : decode cc pc = .ok (.invokevirtual idx, 3)) (kk : ∀ h2 : AH, Ph h2 → AW x cs ss n h2 (pc + 3) lv st) (hci : (vwCl[ci]?).map (fun q => q.1) = some kM.1.cls := by rfl) (hcs : cs ≤ mc ∧ ss ≤ ms := by decide) (hsum : (st.map fun v => v.category).sum ≤ 8 := by exact Nat.le_of_ble_eq_true rfl) : AW x cs ss n h pc lv (a3 :: a2 :: a1 :: .ref r :: st) := A_callVN (As := [a1, a2, a3]) X hc hh hci kc rfl hl hd (fun v n2 h2 hp => by obtain ⟨rfl, rfl, hq⟩ := hp; exact kk h2 hq) (Nat.le_refl _) hcs hsum
theorem A_dVNi4 {d2 : Nat} (X : aOk x (d2 + 1) cc own nm ret mc ms post) {idx : Nat} {kM : aM} {a1 a2 a3 a4 : Value} {z : Int} {r ci : Nat} {fs : List Value} {host : String} (hc : aD x.1 d2 kM [.ref r, a1, a2, a3, a4] n h (some (aI z))) (hh : h r = some (aOb ci fs)) (kc : aKV kM 4) (hl : Cond.methodLinkNest own idx kM.1 host ∈ lw_tbl) (hd : decode cc pc = .ok (.invokevirtual idx, 3)) (kk : AW x cs ss n h (pc + 3) lv (aI z :: st)) (hci : (vwCl[ci]?).map (fun q => q.1) = some kM.1.cls := by rfl) (hcs : cs ≤ mc ∧ ss ≤ ms := by decide) (hsum : (st.map fun v => v.category).sum ≤ 8 := by exact Nat.le_of_ble_eq_true rfl) : AW x cs ss n h pc lv (a4 :: a3 :: a2 :: a1 :: .ref r :: st) := A_callVN (As := [a1, a2, a3, a4]) X hc hh hci kc rfl hl hd (fun v n2 h2 hp => by obtain ⟨rfl, rfl, rfl⟩ := hp; exact kk) (Nat.le_refl _) hcs hsum
theorem A_eVNi4 {d2 : Nat} {Ph : AH → Prop} (X : aOk x (d2 + 1) cc own nm ret mc ms post) {idx : Nat} {kM : aM} {a1 a2 a3 a4 : Value} {z : Int} {r ci : Nat} {fs : List Value} {host : String} (hc : aE x.1 d2 kM [.ref r, a1, a2, a3, a4] n h (some (aI z)) Ph) (hh : h r = some (aOb ci fs)) (kc : aKV kM 4) (hl : Cond.methodLinkNest own idx kM.1 host ∈ lw_tbl) (hd : decode cc pc = .ok (.invokevirtual idx, 3)) (kk : ∀ h2 : AH, Ph h2 → AW x cs ss n h2 (pc + 3) lv (aI z :: st)) (hci : (vwCl[ci]?).map (fun q => q.1) = some kM.1.cls := by rfl) (hcs : cs ≤ mc ∧ ss ≤ ms := by decide) (hsum : (st.map fun v => v.category).sum ≤ 8 := by exact Nat.le_of_ble_eq_true rfl) : AW x cs ss n h pc lv (a4 :: a3 :: a2 :: a1 :: .ref r :: st) := A_callVN (As := [a1, a2, a3, a4]) X hc hh hci kc rfl hl hd (fun v n2 h2 hp => by obtain ⟨rfl, rfl, hq⟩ := hp; exact kk h2 hq) (Nat.le_refl _) hcs hsum
theorem A_dVNv4 {d2 : Nat} (X : aOk x (d2 + 1) cc own nm ret mc ms post) {idx : Nat} {kM : aM} {a1 a2 a3 a4 : Value} {r ci : Nat} {fs : List Value} {host : String} (hc : aD x.1 d2 kM [.ref r, a1, a2, a3, a4] n h (none)) (hh : h r = some (aOb ci fs)) (kc : aKV kM 4) (hl : Cond.methodLinkNest own idx kM.1 host ∈ lw_tbl) (hd : decode cc pc = .ok (.invokevirtual idx, 3)) (kk : AW x cs ss n h (pc + 3) lv st) (hci : (vwCl[ci]?).map (fun q => q.1) = some kM.1.cls := by rfl) (hcs : cs ≤ mc ∧ ss ≤ ms := by decide) (hsum : (st.map fun v => v.category).sum ≤ 8 := by exact Nat.le_of_ble_eq_true rfl) : AW x cs ss n h pc lv (a4 :: a3 :: a2 :: a1 :: .ref r :: st) := A_callVN (As := [a1, a2, a3, a4]) X hc hh hci kc rfl hl hd (fun v n2 h2 hp => by obtain ⟨rfl, rfl, rfl⟩ := hp; exact kk) (Nat.le_refl _) hcs hsum
theorem A_eVNv4 {d2 : Nat} {Ph : AH → Prop} (X : aOk x (d2 + 1) cc own nm ret mc ms post) {idx : Nat} {kM : aM} {a1 a2 a3 a4 : Value} {r ci : Nat} {fs : List Value} {host : String} (hc : aE x.1 d2 kM [.ref r, a1, a2, a3, a4] n h (none) Ph) (hh : h r = some (aOb ci fs)) (kc : aKV kM 4) (hl : Cond.methodLinkNest own idx kM.1 host ∈ lw_tbl) (hd : decode cc pc = .ok (.invokevirtual idx, 3)) (kk : ∀ h2 : AH, Ph h2 → AW x cs ss n h2 (pc + 3) lv st) (hci : (vwCl[ci]?).map (fun q => q.1) = some kM.1.cls := by rfl) (hcs : cs ≤ mc ∧ ss ≤ ms := by decide) (hsum : (st.map fun v => v.category).sum ≤ 8 := by exact Nat.le_of_ble_eq_true rfl) : AW x cs ss n h pc lv (a4 :: a3 :: a2 :: a1 :: .ref r :: st) := A_callVN (As := [a1, a2, a3, a4]) X hc hh hci kc rfl hl hd (fun v n2 h2 hp => by obtain ⟨rfl, rfl, hq⟩ := hp; exact kk h2 hq) (Nat.le_refl _) hcs hsum
theorem A_dVNi5 {d2 : Nat} (X : aOk x (d2 + 1) cc own nm ret mc ms post) {idx : Nat} {kM : aM} {a1 a2 a3 a4 a5 : Value} {z : Int} {r ci : Nat} {fs : List Value} {host : String} (hc : aD x.1 d2 kM [.ref r, a1, a2, a3, a4, a5] n h (some (aI z))) (hh : h r = some (aOb ci fs)) (kc : aKV kM 5) (hl : Cond.methodLinkNest own idx kM.1 host ∈ lw_tbl) (hd : decode cc pc = .ok (.invokevirtual idx, 3)) (kk : AW x cs ss n h (pc + 3) lv (aI z :: st)) (hci : (vwCl[ci]?).map (fun q => q.1) = some kM.1.cls := by rfl) (hcs : cs ≤ mc ∧ ss ≤ ms := by decide) (hsum : (st.map fun v => v.category).sum ≤ 8 := by exact Nat.le_of_ble_eq_true rfl) : AW x cs ss n h pc lv (a5 :: a4 :: a3 :: a2 :: a1 :: .ref r :: st) := A_callVN (As := [a1, a2, a3, a4, a5]) X hc hh hci kc rfl hl hd (fun v n2 h2 hp => by obtain ⟨rfl, rfl, rfl⟩ := hp; exact kk) (Nat.le_refl _) hcs hsum
theorem A_eVNi5 {d2 : Nat} {Ph : AH → Prop} (X : aOk x (d2 + 1) cc own nm ret mc ms post) {idx : Nat} {kM : aM} {a1 a2 a3 a4 a5 : Value} {z : Int} {r ci : Nat} {fs : List Value} {host : String} (hc : aE x.1 d2 kM [.ref r, a1, a2, a3, a4, a5] n h (some (aI z)) Ph) (hh : h r = some (aOb ci fs)) (kc : aKV kM 5) (hl : Cond.methodLinkNest own idx kM.1 host ∈ lw_tbl) (hd : decode cc pc = .ok (.invokevirtual idx, 3)) (kk : ∀ h2 : AH, Ph h2 → AW x cs ss n h2 (pc + 3) lv (aI z :: st)) (hci : (vwCl[ci]?).map (fun q => q.1) = some kM.1.cls := by rfl) (hcs : cs ≤ mc ∧ ss ≤ ms := by decide) (hsum : (st.map fun v => v.category).sum ≤ 8 := by exact Nat.le_of_ble_eq_true rfl) : AW x cs ss n h pc lv (a5 :: a4 :: a3 :: a2 :: a1 :: .ref r :: st) := A_callVN (As := [a1, a2, a3, a4, a5]) X hc hh hci kc rfl hl hd (fun v n2 h2 hp => by obtain ⟨rfl, rfl, hq⟩ := hp; exact kk h2 hq) (Nat.le_refl _) hcs hsum
theorem A_dVNv5 {d2 : Nat} (X : aOk x (d2 + 1) cc own nm ret mc ms post) {idx : Nat} {kM : aM} {a1 a2 a3 a4 a5 : Value} {r ci : Nat} {fs : List Value} {host : String} (hc : aD x.1 d2 kM [.ref r, a1, a2, a3, a4, a5] n h (none)) (hh : h r = some (aOb ci fs)) (kc : aKV kM 5) (hl : Cond.methodLinkNest own idx kM.1 host ∈ lw_tbl) (hd : decode cc pc = .ok (.invokevirtual idx, 3)) (kk : AW x cs ss n h (pc + 3) lv st) (hci : (vwCl[ci]?).map (fun q => q.1) = some kM.1.cls := by rfl) (hcs : cs ≤ mc ∧ ss ≤ ms := by decide) (hsum : (st.map fun v => v.category).sum ≤ 8 := by exact Nat.le_of_ble_eq_true rfl) : AW x cs ss n h pc lv (a5 :: a4 :: a3 :: a2 :: a1 :: .ref r :: st) := A_callVN (As := [a1, a2, a3, a4, a5]) X hc hh hci kc rfl hl hd (fun v n2 h2 hp => by obtain ⟨rfl, rfl, rfl⟩ := hp; exact kk) (Nat.le_refl _) hcs hsum
theorem A_eVNv5 {d2 : Nat} {Ph : AH → Prop} (X : aOk x (d2 + 1) cc own nm ret mc ms post) {idx : Nat} {kM : aM} {a1 a2 a3 a4 a5 : Value} {r ci : Nat} {fs : List Value} {host : String} (hc : aE x.1 d2 kM [.ref r, a1, a2, a3, a4, a5] n h (none) Ph) (hh : h r = some (aOb ci fs)) (kc : aKV kM 5) (hl : Cond.methodLinkNest own idx kM.1 host ∈ lw_tbl) (hd : decode cc pc = .ok (.invokevirtual idx, 3)) (kk : ∀ h2 : AH, Ph h2 → AW x cs ss n h2 (pc + 3) lv st) (hci : (vwCl[ci]?).map (fun q => q.1) = some kM.1.cls := by rfl) (hcs : cs ≤ mc ∧ ss ≤ ms := by decide) (hsum : (st.map fun v => v.category).sum ≤ 8 := by exact Nat.le_of_ble_eq_true rfl) : AW x cs ss n h pc lv (a5 :: a4 :: a3 :: a2 :: a1 :: .ref r :: st) := A_callVN (As := [a1, a2, a3, a4, a5]) X hc hh hci kc rfl hl hd (fun v n2 h2 hp => by obtain ⟨rfl, rfl, hq⟩ := hp; exact kk h2 hq) (Nat.le_refl _) hcs hsum
theorem A_dSi1 {d2 : Nat} (X : aOk x (d2 + 1) cc own nm ret mc ms post) {idx : Nat} {kM : aM} {a1 : Value} {z : Int} (hc : aD x.1 d2 kM [a1] n h (some (aI z))) (kc : aKS kM 1) (hl : Cond.methodLink own idx kM.1 ∈ lw_tbl) (hd : decode cc pc = .ok (.invokestatic idx, 3)) (kk : AW x cs ss n h (pc + 3) lv (aI z :: st)) (hcs : cs ≤ mc ∧ ss ≤ ms := by decide) (hsum : (st.map fun v => v.category).sum ≤ 8 := by exact Nat.le_of_ble_eq_true rfl) : AW x cs ss n h pc lv (a1 :: st) := A_callS (As := [a1]) X hc kc rfl hl hd (fun v n2 h2 hp => by obtain ⟨rfl, rfl, rfl⟩ := hp; exact kk) (Nat.le_refl _) hcs hsum
theorem A_eSi1 {d2 : Nat} {Ph : AH → Prop} (X : aOk x (d2 + 1) cc own nm ret mc ms post) {idx : Nat} {kM : aM} {a1 : Value} {z : Int} (hc : aE x.1 d2 kM [a1] n h (some (aI z)) Ph) (kc : aKS kM 1) (hl : Cond.methodLink own idx kM.1 ∈ lw_tbl) (hd : decode cc pc = .ok (.invokestatic idx, 3)) (kk : ∀ h2 : AH, Ph h2 → AW x cs ss n h2 (pc + 3) lv (aI z :: st)) (hcs : cs ≤ mc ∧ ss ≤ ms := by decide) (hsum : (st.map fun v => v.category).sum ≤ 8 := by exact Nat.le_of_ble_eq_true rfl) : AW x cs ss n h pc lv (a1 :: st) := A_callS (As := [a1]) X hc kc rfl hl hd (fun v n2 h2 hp => by obtain ⟨rfl, rfl, hq⟩ := hp; exact kk h2 hq) (Nat.le_refl _) hcs hsum
theorem A_dSv1 {d2 : Nat} (X : aOk x (d2 + 1) cc own nm ret mc ms post) {idx : Nat} {kM : aM} {a1 : Value} (hc : aD x.1 d2 kM [a1] n h (none)) (kc : aKS kM 1) (hl : Cond.methodLink own idx kM.1 ∈ lw_tbl) (hd : decode cc pc = .ok (.invokestatic idx, 3)) (kk : AW x cs ss n h (pc + 3) lv st) (hcs : cs ≤ mc ∧ ss ≤ ms := by decide) (hsum : (st.map fun v => v.category).sum ≤ 8 := by exact Nat.le_of_ble_eq_true rfl) : AW x cs ss n h pc lv (a1 :: st) := A_callS (As := [a1]) X hc kc rfl hl hd (fun v n2 h2 hp => by obtain ⟨rfl, rfl, rfl⟩ := hp; exact kk) (Nat.le_refl _) hcs hsum
theorem A_eSv1 {d2 : Nat} {Ph : AH → Prop} (X : aOk x (d2 + 1) cc own nm ret mc ms post) {idx : Nat} {kM : aM} {a1 : Value} (hc : aE x.1 d2 kM [a1] n h (none) Ph) (kc : aKS kM 1) (hl : Cond.methodLink own idx kM.1 ∈ lw_tbl) (hd : decode cc pc = .ok (.invokestatic idx, 3)) (kk : ∀ h2 : AH, Ph h2 → AW x cs ss n h2 (pc + 3) lv st) (hcs : cs ≤ mc ∧ ss ≤ ms := by decide) (hsum : (st.map fun v => v.category).sum ≤ 8 := by exact Nat.le_of_ble_eq_true rfl) : AW x cs ss n h pc lv (a1 :: st) := A_callS (As := [a1]) X hc kc rfl hl hd (fun v n2 h2 hp => by obtain ⟨rfl, rfl, hq⟩ := hp; exact kk h2 hq) (Nat.le_refl _) hcs hsum
theorem A_dSi2 {d2 : Nat} (X : aOk x (d2 + 1) cc own nm ret mc ms post) {idx : Nat} {kM : aM} {a1 a2 : Value} {z : Int} (hc : aD x.1 d2 kM [a1, a2] n h (some (aI z))) (kc : aKS kM 2) (hl : Cond.methodLink own idx kM.1 ∈ lw_tbl) (hd : decode cc pc = .ok (.invokestatic idx, 3)) (kk : AW x cs ss n h (pc + 3) lv (aI z :: st)) (hcs : cs ≤ mc ∧ ss ≤ ms := by decide) (hsum : (st.map fun v => v.category).sum ≤ 8 := by exact Nat.le_of_ble_eq_true rfl) : AW x cs ss n h pc lv (a2 :: a1 :: st) := A_callS (As := [a1, a2]) X hc kc rfl hl hd (fun v n2 h2 hp => by obtain ⟨rfl, rfl, rfl⟩ := hp; exact kk) (Nat.le_refl _) hcs hsum
theorem A_eSi2 {d2 : Nat} {Ph : AH → Prop} (X : aOk x (d2 + 1) cc own nm ret mc ms post) {idx : Nat} {kM : aM} {a1 a2 : Value} {z : Int} (hc : aE x.1 d2 kM [a1, a2] n h (some (aI z)) Ph) (kc : aKS kM 2) (hl : Cond.methodLink own idx kM.1 ∈ lw_tbl) (hd : decode cc pc = .ok (.invokestatic idx, 3)) (kk : ∀ h2 : AH, Ph h2 → AW x cs ss n h2 (pc + 3) lv (aI z :: st)) (hcs : cs ≤ mc ∧ ss ≤ ms := by decide) (hsum : (st.map fun v => v.category).sum ≤ 8 := by exact Nat.le_of_ble_eq_true rfl) : AW x cs ss n h pc lv (a2 :: a1 :: st) := A_callS (As := [a1, a2]) X hc kc rfl hl hd (fun v n2 h2 hp => by obtain ⟨rfl, rfl, hq⟩ := hp; exact kk h2 hq) (Nat.le_refl _) hcs hsum
theorem A_dSv2 {d2 : Nat} (X : aOk x (d2 + 1) cc own nm ret mc ms post) {idx : Nat} {kM : aM} {a1 a2 : Value} (hc : aD x.1 d2 kM [a1, a2] n h (none)) (kc : aKS kM 2) (hl : Cond.methodLink own idx kM.1 ∈ lw_tbl) (hd : decode cc pc = .ok (.invokestatic idx, 3)) (kk : AW x cs ss n h (pc + 3) lv st) (hcs : cs ≤ mc ∧ ss ≤ ms := by decide) (hsum : (st.map fun v => v.category).sum ≤ 8 := by exact Nat.le_of_ble_eq_true rfl) : AW x cs ss n h pc lv (a2 :: a1 :: st) := A_callS (As := [a1, a2]) X hc kc rfl hl hd (fun v n2 h2 hp => by obtain ⟨rfl, rfl, rfl⟩ := hp; exact kk) (Nat.le_refl _) hcs hsum
theorem A_eSv2 {d2 : Nat} {Ph : AH → Prop} (X : aOk x (d2 + 1) cc own nm ret mc ms post) {idx : Nat} {kM : aM} {a1 a2 : Value} (hc : aE x.1 d2 kM [a1, a2] n h (none) Ph) (kc : aKS kM 2) (hl : Cond.methodLink own idx kM.1 ∈ lw_tbl) (hd : decode cc pc = .ok (.invokestatic idx, 3)) (kk : ∀ h2 : AH, Ph h2 → AW x cs ss n h2 (pc + 3) lv st) (hcs : cs ≤ mc ∧ ss ≤ ms := by decide) (hsum : (st.map fun v => v.category).sum ≤ 8 := by exact Nat.le_of_ble_eq_true rfl) : AW x cs ss n h pc lv (a2 :: a1 :: st) := A_callS (As := [a1, a2]) X hc kc rfl hl hd (fun v n2 h2 hp => by obtain ⟨rfl, rfl, hq⟩ := hp; exact kk h2 hq) (Nat.le_refl _) hcs hsum
theorem A_dSi3 {d2 : Nat} (X : aOk x (d2 + 1) cc own nm ret mc ms post) {idx : Nat} {kM : aM} {a1 a2 a3 : Value} {z : Int} (hc : aD x.1 d2 kM [a1, a2, a3] n h (some (aI z))) (kc : aKS kM 3) (hl : Cond.methodLink own idx kM.1 ∈ lw_tbl) (hd : decode cc pc = .ok (.invokestatic idx, 3)) (kk : AW x cs ss n h (pc + 3) lv (aI z :: st)) (hcs : cs ≤ mc ∧ ss ≤ ms := by decide) (hsum : (st.map fun v => v.category).sum ≤ 8 := by exact Nat.le_of_ble_eq_true rfl) : AW x cs ss n h pc lv (a3 :: a2 :: a1 :: st) := A_callS (As := [a1, a2, a3]) X hc kc rfl hl hd (fun v n2 h2 hp => by obtain ⟨rfl, rfl, rfl⟩ := hp; exact kk) (Nat.le_refl _) hcs hsum
theorem A_eSi3 {d2 : Nat} {Ph : AH → Prop} (X : aOk x (d2 + 1) cc own nm ret mc ms post) {idx : Nat} {kM : aM} {a1 a2 a3 : Value} {z : Int} (hc : aE x.1 d2 kM [a1, a2, a3] n h (some (aI z)) Ph) (kc : aKS kM 3) (hl : Cond.methodLink own idx kM.1 ∈ lw_tbl) (hd : decode cc pc = .ok (.invokestatic idx, 3)) (kk : ∀ h2 : AH, Ph h2 → AW x cs ss n h2 (pc + 3) lv (aI z :: st)) (hcs : cs ≤ mc ∧ ss ≤ ms := by decide) (hsum : (st.map fun v => v.category).sum ≤ 8 := by exact Nat.le_of_ble_eq_true rfl) : AW x cs ss n h pc lv (a3 :: a2 :: a1 :: st) := A_callS (As := [a1, a2, a3]) X hc kc rfl hl hd (fun v n2 h2 hp => by obtain ⟨rfl, rfl, hq⟩ := hp; exact kk h2 hq) (Nat.le_refl _) hcs hsum
theorem A_dSv3 {d2 : Nat} (X : aOk x (d2 + 1) cc own nm ret mc ms post) {idx : Nat} {kM : aM} {a1 a2 a3 : Value} (hc : aD x.1 d2 kM [a1, a2, a3] n h (none)) (kc : aKS kM 3) (hl : Cond.methodLink own idx kM.1 ∈ lw_tbl) (hd : decode cc pc = .ok (.invokestatic idx, 3)) (kk : AW x cs ss n h (pc + 3) lv st) (hcs : cs ≤ mc ∧ ss ≤ ms := by decide) (hsum : (st.map fun v => v.category).sum ≤ 8 := by exact Nat.le_of_ble_eq_true rfl) : AW x cs ss n h pc lv (a3 :: a2 :: a1 :: st) := A_callS (As := [a1, a2, a3]) X hc kc rfl hl hd (fun v n2 h2 hp => by obtain ⟨rfl, rfl, rfl⟩ := hp; exact kk) (Nat.le_refl _) hcs hsum
theorem A_eSv3 {d2 : Nat} {Ph : AH → Prop} (X : aOk x (d2 + 1) cc own nm ret mc ms post) {idx : Nat} {kM : aM} {a1 a2 a3 : Value} (hc : aE x.1 d2 kM [a1, a2, a3] n h (none) Ph) (kc : aKS kM 3) (hl : Cond.methodLink own idx kM.1 ∈ lw_tbl) (hd : decode cc pc = .ok (.invokestatic idx, 3)) (kk : ∀ h2 : AH, Ph h2 → AW x cs ss n h2 (pc + 3) lv st) (hcs : cs ≤ mc ∧ ss ≤ ms := by decide) (hsum : (st.map fun v => v.category).sum ≤ 8 := by exact Nat.le_of_ble_eq_true rfl) : AW x cs ss n h pc lv (a3 :: a2 :: a1 :: st) := A_callS (As := [a1, a2, a3]) X hc kc rfl hl hd (fun v n2 h2 hp => by obtain ⟨rfl, rfl, hq⟩ := hp; exact kk h2 hq) (Nat.le_refl _) hcs hsum
theorem A_dSi4 {d2 : Nat} (X : aOk x (d2 + 1) cc own nm ret mc ms post) {idx : Nat} {kM : aM} {a1 a2 a3 a4 : Value} {z : Int} (hc : aD x.1 d2 kM [a1, a2, a3, a4] n h (some (aI z))) (kc : aKS kM 4) (hl : Cond.methodLink own idx kM.1 ∈ lw_tbl) (hd : decode cc pc = .ok (.invokestatic idx, 3)) (kk : AW x cs ss n h (pc + 3) lv (aI z :: st)) (hcs : cs ≤ mc ∧ ss ≤ ms := by decide) (hsum : (st.map fun v => v.category).sum ≤ 8 := by exact Nat.le_of_ble_eq_true rfl) : AW x cs ss n h pc lv (a4 :: a3 :: a2 :: a1 :: st) := A_callS (As := [a1, a2, a3, a4]) X hc kc rfl hl hd (fun v n2 h2 hp => by obtain ⟨rfl, rfl, rfl⟩ := hp; exact kk) (Nat.le_refl _) hcs hsum
theorem A_eSi4 {d2 : Nat} {Ph : AH → Prop} (X : aOk x (d2 + 1) cc own nm ret mc ms post) {idx : Nat} {kM : aM} {a1 a2 a3 a4 : Value} {z : Int} (hc : aE x.1 d2 kM [a1, a2, a3, a4] n h (some (aI z)) Ph) (kc : aKS kM 4) (hl : Cond.methodLink own idx kM.1 ∈ lw_tbl) (hd : decode cc pc = .ok (.invokestatic idx, 3)) (kk : ∀ h2 : AH, Ph h2 → AW x cs ss n h2 (pc + 3) lv (aI z :: st)) (hcs : cs ≤ mc ∧ ss ≤ ms := by decide) (hsum : (st.map fun v => v.category).sum ≤ 8 := by exact Nat.le_of_ble_eq_true rfl) : AW x cs ss n h pc lv (a4 :: a3 :: a2 :: a1 :: st) := A_callS (As := [a1, a2, a3, a4]) X hc kc rfl hl hd (fun v n2 h2 hp => by obtain ⟨rfl, rfl, hq⟩ := hp; exact kk h2 hq) (Nat.le_refl _) hcs hsum
theorem A_dSv4 {d2 : Nat} (X : aOk x (d2 + 1) cc own nm ret mc ms post) {idx : Nat} {kM : aM} {a1 a2 a3 a4 : Value} (hc : aD x.1 d2 kM [a1, a2, a3, a4] n h (none)) (kc : aKS kM 4) (hl : Cond.methodLink own idx kM.1 ∈ lw_tbl) (hd : decode cc pc = .ok (.invokestatic idx, 3)) (kk : AW x cs ss n h (pc + 3) lv st) (hcs : cs ≤ mc ∧ ss ≤ ms := by decide) (hsum : (st.map fun v => v.category).sum ≤ 8 := by exact Nat.le_of_ble_eq_true rfl) : AW x cs ss n h pc lv (a4 :: a3 :: a2 :: a1 :: st) := A_callS (As := [a1, a2, a3, a4]) X hc kc rfl hl hd (fun v n2 h2 hp => by obtain ⟨rfl, rfl, rfl⟩ := hp; exact kk) (Nat.le_refl _) hcs hsum
theorem A_eSv4 {d2 : Nat} {Ph : AH → Prop} (X : aOk x (d2 + 1) cc own nm ret mc ms post) {idx : Nat} {kM : aM} {a1 a2 a3 a4 : Value} (hc : aE x.1 d2 kM [a1, a2, a3, a4] n h (none) Ph) (kc : aKS kM 4) (hl : Cond.methodLink own idx kM.1 ∈ lw_tbl) (hd : decode cc pc = .ok (.invokestatic idx, 3)) (kk : ∀ h2 : AH, Ph h2 → AW x cs ss n h2 (pc + 3) lv st) (hcs : cs ≤ mc ∧ ss ≤ ms := by decide) (hsum : (st.map fun v => v.category).sum ≤ 8 := by exact Nat.le_of_ble_eq_true rfl) : AW x cs ss n h pc lv (a4 :: a3 :: a2 :: a1 :: st) := A_callS (As := [a1, a2, a3, a4]) X hc kc rfl hl hd (fun v n2 h2 hp => by obtain ⟨rfl, rfl, hq⟩ := hp; exact kk h2 hq) (Nat.le_refl _) hcs hsum
theorem A_dSi5 {d2 : Nat} (X : aOk x (d2 + 1) cc own nm ret mc ms post) {idx : Nat} {kM : aM} {a1 a2 a3 a4 a5 : Value} {z : Int} (hc : aD x.1 d2 kM [a1, a2, a3, a4, a5] n h (some (aI z))) (kc : aKS kM 5) (hl : Cond.methodLink own idx kM.1 ∈ lw_tbl) (hd : decode cc pc = .ok (.invokestatic idx, 3)) (kk : AW x cs ss n h (pc + 3) lv (aI z :: st)) (hcs : cs ≤ mc ∧ ss ≤ ms := by decide) (hsum : (st.map fun v => v.category).sum ≤ 8 := by exact Nat.le_of_ble_eq_true rfl) : AW x cs ss n h pc lv (a5 :: a4 :: a3 :: a2 :: a1 :: st) := A_callS (As := [a1, a2, a3, a4, a5]) X hc kc rfl hl hd (fun v n2 h2 hp => by obtain ⟨rfl, rfl, rfl⟩ := hp; exact kk) (Nat.le_refl _) hcs hsum
theorem A_eSi5 {d2 : Nat} {Ph : AH → Prop} (X : aOk x (d2 + 1) cc own nm ret mc ms post) {idx : Nat} {kM : aM} {a1 a2 a3 a4 a5 : Value} {z : Int} (hc : aE x.1 d2 kM [a1, a2, a3, a4, a5] n h (some (aI z)) Ph) (kc : aKS kM 5) (hl : Cond.methodLink own idx kM.1 ∈ lw_tbl) (hd : decode cc pc = .ok (.invokestatic idx, 3)) (kk : ∀ h2 : AH, Ph h2 → AW x cs ss n h2 (pc + 3) lv (aI z :: st)) (hcs : cs ≤ mc ∧ ss ≤ ms := by decide) (hsum : (st.map fun v => v.category).sum ≤ 8 := by exact Nat.le_of_ble_eq_true rfl) : AW x cs ss n h pc lv (a5 :: a4 :: a3 :: a2 :: a1 :: st) := A_callS (As := [a1, a2, a3, a4, a5]) X hc kc rfl hl hd (fun v n2 h2 hp => by obtain ⟨rfl, rfl, hq⟩ := hp; exact kk h2 hq) (Nat.le_refl _) hcs hsum
theorem A_dSv5 {d2 : Nat} (X : aOk x (d2 + 1) cc own nm ret mc ms post) {idx : Nat} {kM : aM} {a1 a2 a3 a4 a5 : Value} (hc : aD x.1 d2 kM [a1, a2, a3, a4, a5] n h (none)) (kc : aKS kM 5) (hl : Cond.methodLink own idx kM.1 ∈ lw_tbl) (hd : decode cc pc = .ok (.invokestatic idx, 3)) (kk : AW x cs ss n h (pc + 3) lv st) (hcs : cs ≤ mc ∧ ss ≤ ms := by decide) (hsum : (st.map fun v => v.category).sum ≤ 8 := by exact Nat.le_of_ble_eq_true rfl) : AW x cs ss n h pc lv (a5 :: a4 :: a3 :: a2 :: a1 :: st) := A_callS (As := [a1, a2, a3, a4, a5]) X hc kc rfl hl hd (fun v n2 h2 hp => by obtain ⟨rfl, rfl, rfl⟩ := hp; exact kk) (Nat.le_refl _) hcs hsum
theorem A_eSv5 {d2 : Nat} {Ph : AH → Prop} (X : aOk x (d2 + 1) cc own nm ret mc ms post) {idx : Nat} {kM : aM} {a1 a2 a3 a4 a5 : Value} (hc : aE x.1 d2 kM [a1, a2, a3, a4, a5] n h (none) Ph) (kc : aKS kM 5) (hl : Cond.methodLink own idx kM.1 ∈ lw_tbl) (hd : decode cc pc = .ok (.invokestatic idx, 3)) (kk : ∀ h2 : AH, Ph h2 → AW x cs ss n h2 (pc + 3) lv st) (hcs : cs ≤ mc ∧ ss ≤ ms := by decide) (hsum : (st.map fun v => v.category).sum ≤ 8 := by exact Nat.le_of_ble_eq_true rfl) : AW x cs ss n h pc lv (a5 :: a4 :: a3 :: a2 :: a1 :: st) := A_callS (As := [a1, a2, a3, a4, a5]) X hc kc rfl hl hd (fun v n2 h2 hp => by obtain ⟨rfl, rfl, hq⟩ := hp; exact kk h2 hq) (Nat.le_refl _) hcs hsum
theorem A_dSNi1 {d2 : Nat} (X : aOk x (d2 + 1) cc own nm ret mc ms post) {idx : Nat} {kM : aM} {a1 : Value} {z : Int} {host : String} (hc : aD x.1 d2 kM [a1] n h (some (aI z))) (kc : aKS kM 1) (hl : Cond.methodLinkNest own idx kM.1 host ∈ lw_tbl) (hd : decode cc pc = .ok (.invokestatic idx, 3)) (kk : AW x cs ss n h (pc + 3) lv (aI z :: st)) (hcs : cs ≤ mc ∧ ss ≤ ms := by decide) (hsum : (st.map fun v => v.category).sum ≤ 8 := by exact Nat.le_of_ble_eq_true rfl) : AW x cs ss n h pc lv (a1 :: st) := A_callSN (As := [a1]) X hc kc rfl hl hd (fun v n2 h2 hp => by obtain ⟨rfl, rfl, rfl⟩ := hp; exact kk) (Nat.le_refl _) hcs hsum
theorem A_eSNi1 {d2 : Nat} {Ph : AH → Prop} (X : aOk x (d2 + 1) cc own nm ret mc ms post) {idx : Nat} {kM : aM} {a1 : Value} {z : Int} {host : String} (hc : aE x.1 d2 kM [a1] n h (some (aI z)) Ph) (kc : aKS kM 1) (hl : Cond.methodLinkNest own idx kM.1 host ∈ lw_tbl) (hd : decode cc pc = .ok (.invokestatic idx, 3)) (kk : ∀ h2 : AH, Ph h2 → AW x cs ss n h2 (pc + 3) lv (aI z :: st)) (hcs : cs ≤ mc ∧ ss ≤ ms := by decide) (hsum : (st.map fun v => v.category).sum ≤ 8 := by exact Nat.le_of_ble_eq_true rfl) : AW x cs ss n h pc lv (a1 :: st) := A_callSN (As := [a1]) X hc kc rfl hl hd (fun v n2 h2 hp => by obtain ⟨rfl, rfl, hq⟩ := hp; exact kk h2 hq) (Nat.le_refl _) hcs hsum
theorem A_dSNv1 {d2 : Nat} (X : aOk x (d2 + 1) cc own nm ret mc ms post) {idx : Nat} {kM : aM} {a1 : Value} {host : String} (hc : aD x.1 d2 kM [a1] n h (none)) (kc : aKS kM 1) (hl : Cond.methodLinkNest own idx kM.1 host ∈ lw_tbl) (hd : decode cc pc = .ok (.invokestatic idx, 3)) (kk : AW x cs ss n h (pc + 3) lv st) (hcs : cs ≤ mc ∧ ss ≤ ms := by decide) (hsum : (st.map fun v => v.category).sum ≤ 8 := by exact Nat.le_of_ble_eq_true rfl) : AW x cs ss n h pc lv (a1 :: st) := A_callSN (As := [a1]) X hc kc rfl hl hd (fun v n2 h2 hp => by obtain ⟨rfl, rfl, rfl⟩ := hp; exact kk) (Nat.le_refl _) hcs hsum
theorem A_eSNv1 {d2 : Nat} {Ph : AH → Prop} (X : aOk x (d2 + 1) cc own nm ret mc ms post) {idx : Nat} {kM : aM} {a1 : Value} {host : String} (hc : aE x.1 d2 kM [a1] n h (none) Ph) (kc : aKS kM 1) (hl : Cond.methodLinkNest own idx kM.1 host ∈ lw_tbl) (hd : decode cc pc = .ok (.invokestatic idx, 3)) (kk : ∀ h2 : AH, Ph h2 → AW x cs ss n h2 (pc + 3) lv st) (hcs : cs ≤ mc ∧ ss ≤ ms := by decide) (hsum : (st.map fun v => v.category).sum ≤ 8 := by exact Nat.le_of_ble_eq_true rfl) : AW x cs ss n h pc lv (a1 :: st) := A_callSN (As := [a1]) X hc kc rfl hl hd (fun v n2 h2 hp => by obtain ⟨rfl, rfl, hq⟩ := hp; exact kk h2 hq) (Nat.le_refl _) hcs hsum
theorem A_dSNi2 {d2 : Nat} (X : aOk x (d2 + 1) cc own nm ret mc ms post) {idx : Nat} {kM : aM} {a1 a2 : Value} {z : Int} {host : String} (hc : aD x.1 d2 kM [a1, a2] n h (some (aI z))) (kc : aKS kM 2) (hl : Cond.methodLinkNest own idx kM.1 host ∈ lw_tbl) (hd : decode cc pc = .ok (.invokestatic idx, 3)) (kk : AW x cs ss n h (pc + 3) lv (aI z :: st)) (hcs : cs ≤ mc ∧ ss ≤ ms := by decide) (hsum : (st.map fun v => v.category).sum ≤ 8 := by exact Nat.le_of_ble_eq_true rfl) : AW x cs ss n h pc lv (a2 :: a1 :: st) := A_callSN (As := [a1, a2]) X hc kc rfl hl hd (fun v n2 h2 hp => by obtain ⟨rfl, rfl, rfl⟩ := hp; exact kk) (Nat.le_refl _) hcs hsum
theorem A_eSNi2 {d2 : Nat} {Ph : AH → Prop} (X : aOk x (d2 + 1) cc own nm ret mc ms post) {idx : Nat} {kM : aM} {a1 a2 : Value} {z : Int} {host : String} (hc : aE x.1 d2 kM [a1, a2] n h (some (aI z)) Ph) (kc : aKS kM 2) (hl : Cond.methodLinkNest own idx kM.1 host ∈ lw_tbl) (hd : decode cc pc = .ok (.invokestatic idx, 3)) (kk : ∀ h2 : AH, Ph h2 → AW x cs ss n h2 (pc + 3) lv (aI z :: st)) (hcs : cs ≤ mc ∧ ss ≤ ms := by decide) (hsum : (st.map fun v => v.category).sum ≤ 8 := by exact Nat.le_of_ble_eq_true rfl) : AW x cs ss n h pc lv (a2 :: a1 :: st) := A_callSN (As := [a1, a2]) X hc kc rfl hl hd (fun v n2 h2 hp => by obtain ⟨rfl, rfl, hq⟩ := hp; exact kk h2 hq) (Nat.le_refl _) hcs hsum
theorem A_dSNv2 {d2 : Nat} (X : aOk x (d2 + 1) cc own nm ret mc ms post) {idx : Nat} {kM : aM} {a1 a2 : Value} {host : String} (hc : aD x.1 d2 kM [a1, a2] n h (none)) (kc : aKS kM 2) (hl : Cond.methodLinkNest own idx kM.1 host ∈ lw_tbl) (hd : decode cc pc = .ok (.invokestatic idx, 3)) (kk : AW x cs ss n h (pc + 3) lv st) (hcs : cs ≤ mc ∧ ss ≤ ms := by decide) (hsum : (st.map fun v => v.category).sum ≤ 8 := by exact Nat.le_of_ble_eq_true rfl) : AW x cs ss n h pc lv (a2 :: a1 :: st) := A_callSN (As := [a1, a2]) X hc kc rfl hl hd (fun v n2 h2 hp => by obtain ⟨rfl, rfl, rfl⟩ := hp; exact kk) (Nat.le_refl _) hcs hsum
theorem A_eSNv2 {d2 : Nat} {Ph : AH → Prop} (X : aOk x (d2 + 1) cc own nm ret mc ms post) {idx : Nat} {kM : aM} {a1 a2 : Value} {host : String} (hc : aE x.1 d2 kM [a1, a2] n h (none) Ph) (kc : aKS kM 2) (hl : Cond.methodLinkNest own idx kM.1 host ∈ lw_tbl) (hd : decode cc pc = .ok (.invokestatic idx, 3)) (kk : ∀ h2 : AH, Ph h2 → AW x cs ss n h2 (pc + 3) lv st) (hcs : cs ≤ mc ∧ ss ≤ ms := by decide) (hsum : (st.map fun v => v.category).sum ≤ 8 := by exact Nat.le_of_ble_eq_true rfl) : AW x cs ss n h pc lv (a2 :: a1 :: st) := A_callSN (As := [a1, a2]) X hc kc rfl hl hd (fun v n2 h2 hp => by obtain ⟨rfl, rfl, hq⟩ := hp; exact kk h2 hq) (Nat.le_refl _) hcs hsum
theorem A_dSNi3 {d2 : Nat} (X : aOk x (d2 + 1) cc own nm ret mc ms post) {idx : Nat} {kM : aM} {a1 a2 a3 : Value} {z : Int} {host : String} (hc : aD x.1 d2 kM [a1, a2, a3] n h (some (aI z))) (kc : aKS kM 3) (hl : Cond.methodLinkNest own idx kM.1 host ∈ lw_tbl) (hd : decode cc pc = .ok (.invokestatic idx, 3)) (kk : AW x cs ss n h (pc + 3) lv (aI z :: st)) (hcs : cs ≤ mc ∧ ss ≤ ms := by decide) (hsum : (st.map fun v => v.category).sum ≤ 8 := by exact Nat.le_of_ble_eq_true rfl) : AW x cs ss n h pc lv (a3 :: a2 :: a1 :: st) := A_callSN (As := [a1, a2, a3]) X hc kc rfl hl hd (fun v n2 h2 hp => by obtain ⟨rfl, rfl, rfl⟩ := hp; exact kk) (Nat.le_refl _) hcs hsum
theorem A_eSNi3 {d2 : Nat} {Ph : AH → Prop} (X : aOk x (d2 + 1) cc own nm ret mc ms post) {idx : Nat} {kM : aM} {a1 a2 a3 : Value} {z : Int} {host : String} (hc : aE x.1 d2 kM [a1, a2, a3] n h (some (aI z)) Ph) (kc : aKS kM 3) (hl : Cond.methodLinkNest own idx kM.1 host ∈ lw_tbl) (hd : decode cc pc = .ok (.invokestatic idx, 3)) (kk : ∀ h2 : AH, Ph h2 → AW x cs ss n h2 (pc + 3) lv (aI z :: st)) (hcs : cs ≤ mc ∧ ss ≤ ms := by decide) (hsum : (st.map fun v => v.category).sum ≤ 8 := by exact Nat.le_of_ble_eq_true rfl) : AW x cs ss n h pc lv (a3 :: a2 :: a1 :: st) := A_callSN (As := [a1, a2, a3]) X hc kc rfl hl hd (fun v n2 h2 hp => by obtain ⟨rfl, rfl, hq⟩ := hp; exact kk h2 hq) (Nat.le_refl _) hcs hsum
theorem A_dSNv3 {d2 : Nat} (X : aOk x (d2 + 1) cc own nm ret mc ms post) {idx : Nat} {kM : aM} {a1 a2 a3 : Value} {host : String} (hc : aD x.1 d2 kM [a1, a2, a3] n h (none)) (kc : aKS kM 3) (hl : Cond.methodLinkNest own idx kM.1 host ∈ lw_tbl) (hd : decode cc pc = .ok (.invokestatic idx, 3)) (kk : AW x cs ss n h (pc + 3) lv st) (hcs : cs ≤ mc ∧ ss ≤ ms := by decide) (hsum : (st.map fun v => v.category).sum ≤ 8 := by exact Nat.le_of_ble_eq_true rfl) : AW x cs ss n h pc lv (a3 :: a2 :: a1 :: st) := A_callSN (As := [a1, a2, a3]) X hc kc rfl hl hd (fun v n2 h2 hp => by obtain ⟨rfl, rfl, rfl⟩ := hp; exact kk) (Nat.le_refl _) hcs hsum
theorem A_eSNv3 {d2 : Nat} {Ph : AH → Prop} (X : aOk x (d2 + 1) cc own nm ret mc ms post) {idx : Nat} {kM : aM} {a1 a2 a3 : Value} {host : String} (hc : aE x.1 d2 kM [a1, a2, a3] n h (none) Ph) (kc : aKS kM 3) (hl : Cond.methodLinkNest own idx kM.1 host ∈ lw_tbl) (hd : decode cc pc = .ok (.invokestatic idx, 3)) (kk : ∀ h2 : AH, Ph h2 → AW x cs ss n h2 (pc + 3) lv st) (hcs : cs ≤ mc ∧ ss ≤ ms := by decide) (hsum : (st.map fun v => v.category).sum ≤ 8 := by exact Nat.le_of_ble_eq_true rfl) : AW x cs ss n h pc lv (a3 :: a2 :: a1 :: st) := A_callSN (As := [a1, a2, a3]) X hc kc rfl hl hd (fun v n2 h2 hp => by obtain ⟨rfl, rfl, hq⟩ := hp; exact kk h2 hq) (Nat.le_refl _) hcs hsum
theorem A_dSNi4 {d2 : Nat} (X : aOk x (d2 + 1) cc own nm ret mc ms post) {idx : Nat} {kM : aM} {a1 a2 a3 a4 : Value} {z : Int} {host : String} (hc : aD x.1 d2 kM [a1, a2, a3, a4] n h (some (aI z))) (kc : aKS kM 4) (hl : Cond.methodLinkNest own idx kM.1 host ∈ lw_tbl) (hd : decode cc pc = .ok (.invokestatic idx, 3)) (kk : AW x cs ss n h (pc + 3) lv (aI z :: st)) (hcs : cs ≤ mc ∧ ss ≤ ms := by decide) (hsum : (st.map fun v => v.category).sum ≤ 8 := by exact Nat.le_of_ble_eq_true rfl) : AW x cs ss n h pc lv (a4 :: a3 :: a2 :: a1 :: st) := A_callSN (As := [a1, a2, a3, a4]) X hc kc rfl hl hd (fun v n2 h2 hp => by obtain ⟨rfl, rfl, rfl⟩ := hp; exact kk) (Nat.le_refl _) hcs hsum
theorem A_eSNi4 {d2 : Nat} {Ph : AH → Prop} (X : aOk x (d2 + 1) cc own nm ret mc ms post) {idx : Nat} {kM : aM} {a1 a2 a3 a4 : Value} {z : Int} {host : String} (hc : aE x.1 d2 kM [a1, a2, a3, a4] n h (some (aI z)) Ph) (kc : aKS kM 4) (hl : Cond.methodLinkNest own idx kM.1 host ∈ lw_tbl) (hd : decode cc pc = .ok (.invokestatic idx, 3)) (kk : ∀ h2 : AH, Ph h2 → AW x cs ss n h2 (pc + 3) lv (aI z :: st)) (hcs : cs ≤ mc ∧ ss ≤ ms := by decide) (hsum : (st.map fun v => v.category).sum ≤ 8 := by exact Nat.le_of_ble_eq_true rfl) : AW x cs ss n h pc lv (a4 :: a3 :: a2 :: a1 :: st) := A_callSN (As := [a1, a2, a3, a4]) X hc kc rfl hl hd (fun v n2 h2 hp => by obtain ⟨rfl, rfl, hq⟩ := hp; exact kk h2 hq) (Nat.le_refl _) hcs hsum
theorem A_dSNv4 {d2 : Nat} (X : aOk x (d2 + 1) cc own nm ret mc ms post) {idx : Nat} {kM : aM} {a1 a2 a3 a4 : Value} {host : String} (hc : aD x.1 d2 kM [a1, a2, a3, a4] n h (none)) (kc : aKS kM 4) (hl : Cond.methodLinkNest own idx kM.1 host ∈ lw_tbl) (hd : decode cc pc = .ok (.invokestatic idx, 3)) (kk : AW x cs ss n h (pc + 3) lv st) (hcs : cs ≤ mc ∧ ss ≤ ms := by decide) (hsum : (st.map fun v => v.category).sum ≤ 8 := by exact Nat.le_of_ble_eq_true rfl) : AW x cs ss n h pc lv (a4 :: a3 :: a2 :: a1 :: st) := A_callSN (As := [a1, a2, a3, a4]) X hc kc rfl hl hd (fun v n2 h2 hp => by obtain ⟨rfl, rfl, rfl⟩ := hp; exact kk) (Nat.le_refl _) hcs hsum
theorem A_eSNv4 {d2 : Nat} {Ph : AH → Prop} (X : aOk x (d2 + 1) cc own nm ret mc ms post) {idx : Nat} {kM : aM} {a1 a2 a3 a4 : Value} {host : String} (hc : aE x.1 d2 kM [a1, a2, a3, a4] n h (none) Ph) (kc : aKS kM 4) (hl : Cond.methodLinkNest own idx kM.1 host ∈ lw_tbl) (hd : decode cc pc = .ok (.invokestatic idx, 3)) (kk : ∀ h2 : AH, Ph h2 → AW x cs ss n h2 (pc + 3) lv st) (hcs : cs ≤ mc ∧ ss ≤ ms := by decide) (hsum : (st.map fun v => v.category).sum ≤ 8 := by exact Nat.le_of_ble_eq_true rfl) : AW x cs ss n h pc lv (a4 :: a3 :: a2 :: a1 :: st) := A_callSN (As := [a1, a2, a3, a4]) X hc kc rfl hl hd (fun v n2 h2 hp => by obtain ⟨rfl, rfl, hq⟩ := hp; exact kk h2 hq) (Nat.le_refl _) hcs hsum
theorem A_dSNi5 {d2 : Nat} (X : aOk x (d2 + 1) cc own nm ret mc ms post) {idx : Nat} {kM : aM} {a1 a2 a3 a4 a5 : Value} {z : Int} {host : String} (hc : aD x.1 d2 kM [a1, a2, a3, a4, a5] n h (some (aI z))) (kc : aKS kM 5) (hl : Cond.methodLinkNest own idx kM.1 host ∈ lw_tbl) (hd : decode cc pc = .ok (.invokestatic idx, 3)) (kk : AW x cs ss n h (pc + 3) lv (aI z :: st)) (hcs : cs ≤ mc ∧ ss ≤ ms := by decide) (hsum : (st.map fun v => v.category).sum ≤ 8 := by exact Nat.le_of_ble_eq_true rfl) : AW x cs ss n h pc lv (a5 :: a4 :: a3 :: a2 :: a1 :: st) := A_callSN (As := [a1, a2, a3, a4, a5]) X hc kc rfl hl hd (fun v n2 h2 hp => by obtain ⟨rfl, rfl, rfl⟩ := hp; exact kk) (Nat.le_refl _) hcs hsum
theorem A_eSNi5 {d2 : Nat} {Ph : AH → Prop} (X : aOk x (d2 + 1) cc own nm ret mc ms post) {idx : Nat} {kM : aM} {a1 a2 a3 a4 a5 : Value} {z : Int} {host : String} (hc : aE x.1 d2 kM [a1, a2, a3, a4, a5] n h (some (aI z)) Ph) (kc : aKS kM 5) (hl : Cond.methodLinkNest own idx kM.1 host ∈ lw_tbl) (hd : decode cc pc = .ok (.invokestatic idx, 3)) (kk : ∀ h2 : AH, Ph h2 → AW x cs ss n h2 (pc + 3) lv (aI z :: st)) (hcs : cs ≤ mc ∧ ss ≤ ms := by decide) (hsum : (st.map fun v => v.category).sum ≤ 8 := by exact Nat.le_of_ble_eq_true rfl) : AW x cs ss n h pc lv (a5 :: a4 :: a3 :: a2 :: a1 :: st) := A_callSN (As := [a1, a2, a3, a4, a5]) X hc kc rfl hl hd (fun v n2 h2 hp => by obtain ⟨rfl, rfl, hq⟩ := hp; exact kk h2 hq) (Nat.le_refl _) hcs hsum
theorem A_dSNv5 {d2 : Nat} (X : aOk x (d2 + 1) cc own nm ret mc ms post) {idx : Nat} {kM : aM} {a1 a2 a3 a4 a5 : Value} {host : String} (hc : aD x.1 d2 kM [a1, a2, a3, a4, a5] n h (none)) (kc : aKS kM 5) (hl : Cond.methodLinkNest own idx kM.1 host ∈ lw_tbl) (hd : decode cc pc = .ok (.invokestatic idx, 3)) (kk : AW x cs ss n h (pc + 3) lv st) (hcs : cs ≤ mc ∧ ss ≤ ms := by decide) (hsum : (st.map fun v => v.category).sum ≤ 8 := by exact Nat.le_of_ble_eq_true rfl) : AW x cs ss n h pc lv (a5 :: a4 :: a3 :: a2 :: a1 :: st) := A_callSN (As := [a1, a2, a3, a4, a5]) X hc kc rfl hl hd (fun v n2 h2 hp => by obtain ⟨rfl, rfl, rfl⟩ := hp; exact kk) (Nat.le_refl _) hcs hsum
theorem A_eSNv5 {d2 : Nat} {Ph : AH → Prop} (X : aOk x (d2 + 1) cc own nm ret mc ms post) {idx : Nat} {kM : aM} {a1 a2 a3 a4 a5 : Value} {host : String} (hc : aE x.1 d2 kM [a1, a2, a3, a4, a5] n h (none) Ph) (kc : aKS kM 5) (hl : Cond.methodLinkNest own idx kM.1 host ∈ lw_tbl) (hd : decode cc pc = .ok (.invokestatic idx, 3)) (kk : ∀ h2 : AH, Ph h2 → AW x cs ss n h2 (pc + 3) lv st) (hcs : cs ≤ mc ∧ ss ≤ ms := by decide) (hsum : (st.map fun v => v.category).sum ≤ 8 := by exact Nat.le_of_ble_eq_true rfl) : AW x cs ss n h pc lv (a5 :: a4 :: a3 :: a2 :: a1 :: st) := A_callSN (As := [a1, a2, a3, a4, a5]) X hc kc rfl hl hd (fun v n2 h2 hp => by obtain ⟨rfl, rfl, hq⟩ := hp; exact kk h2 hq) (Nat.le_refl _) hcs hsum
end AR
theorem lp_up {P : Nat → Prop} (N : Nat) (hx : P N) (hs : ∀ i, i < N → P (i + 1) → P i) : ∀ i, i ≤ N → P i := by
  intro i hi
  obtain ⟨k, hk⟩ : ∃ k, N = i + k := ⟨N - i, by omega⟩
  induction k generalizing i with
  | zero => rw [Nat.add_zero] at hk; subst hk; exact hx
  | succ k ih => exact hs i (by omega) (ih (i + 1) (by omega) (by omega))
theorem lp_0 {P : Nat → Prop} (N : Nat) (hx : P N) (hs : ∀ i, i < N → P (i + 1) → P i) : P 0 := lp_up N hx hs 0 (Nat.zero_le N)
theorem lp_dn {P : Nat → Prop} (hx : P 0) (hs : ∀ i, P i → P (i + 1)) : ∀ i, P i := fun i => Nat.rec hx (fun k ih => hs k ih) i
end
section
/-! the reference's small methods -/
abbrev hasB (set i : Nat) : Prop := set / 2 ^ i % 2 = 1
/-- the reference's object: its rows lie behind it -/
def mO (tm : Nat) (un sz sm tr ak bg mt : Int) : List Value := [.ref (tm + 1), .ref (tm + 2), .ref (tm + 3), .ref (tm + 4), aI un, .ref (tm + 5), .ref (tm + 6), .ref (tm + 7), aI sz, .ref (tm + 8), aI sm, aL tr, aI ak, aI bg, aI mt, .ref (tm + 9), .ref (tm + 10), .ref (tm + 11), .ref (tm + 12), .ref (tm + 13)]
set_option maxRecDepth 100000 in
theorem m_in {G : aG} {d n : Nat} {h : AH} {a b c : Int} (ha : inR a) (hb : inR b) (hc : inR c) : aD G d kX11_in [aL a, aL b, aL c] n h (some (aI (bI (b ≤ a ∧ a ≤ c)))) := by
  refine aCt_of (lv := [some (aL a), none, some (aL b), none, some (aL c), none]) knX11_in.1 rfl rfl (Nat.le_of_ble_eq_true rfl) (fun x hG hsc X => ?_)
  subst hG
  refine A_ll0 X dX11_in_0 ?_
  refine A_ll2 X dX11_in_1 ?_
  refine A_lcmpc X (by omega) (by omega) dX11_in_2 ?_
  refine A_ifc_lt (t := 17) X dX11_in_3 (fun c3 => ?_) (fun c3 => ?_)
  · refine A_iconst X dX11_in_17 ?_
    exact A_retz X dX11_in_18 rfl (Or.inl rfl) ⟨bI_0 (by omega), rfl, rfl⟩
  · refine A_ll0 X dX11_in_6 ?_
    refine A_ll4 X dX11_in_7 ?_
    refine A_lcmpc X (by omega) (by omega) dX11_in_9 ?_
    refine A_ifc_gt (t := 17) X dX11_in_10 (fun c10 => ?_) (fun c10 => ?_)
    · refine A_iconst X dX11_in_17 ?_
      exact A_retz X dX11_in_18 rfl (Or.inl rfl) ⟨bI_0 (by omega), rfl, rfl⟩
    · refine A_iconst X dX11_in_13 ?_
      refine A_goto (t := 18) X dX11_in_14 ?_
      exact A_retz X dX11_in_18 rfl (Or.inr rfl) ⟨bI_1 (by omega), rfl, rfl⟩
set_option maxRecDepth 100000 in
theorem m_isTwo {G : aG} {d n : Nat} {h : AH} {a : Int} (ha : inR a) : aD G (d + 1) kX11_isTwo [aI a] n h (some (aI (bI (0 ≤ a ∧ a ≤ 1)))) := by
  refine aCt_of (lv := [some (aI a)]) knX11_isTwo.1 rfl rfl (Nat.le_of_ble_eq_true rfl) (fun x hG hsc X => ?_)
  subst hG
  refine A_il0 X dX11_isTwo_0 ?_
  refine A_i2l X (by omega) dX11_isTwo_1 ?_
  refine A_lconst (z := 0) X dX11_isTwo_2 ?_
  refine A_lconst (z := 1) X dX11_isTwo_3 ?_
  refine A_dSi3 X (m_in (by omega) (by omega) (by omega)) knX11_in mlX11_57 dX11_isTwo_4 ?_
  exact A_retz X dX11_isTwo_7 rfl bI_or ⟨rfl, rfl, rfl⟩
set_option maxRecDepth 100000 in
theorem m_has {G : aG} {d n : Nat} {h : AH} {s z : Int} (set i : Nat) (hs : s = (set : Int)) (hz : z = (i : Int)) (h1 : set < 2147483648) (h2 : i < 32) : aD G d kX11_has [aI s, aI z] n h (some (aI (bI (hasB set i)))) := by
  refine aCt_of (lv := [some (aI s), some (aI z)]) knX11_has.1 rfl rfl (Nat.le_of_ble_eq_true rfl) (fun x hG hsc X => ?_)
  subst hG
  refine A_il0 X dX11_has_0 ?_
  refine A_il1 X dX11_has_1 ?_
  refine A_ishr X set i hs hz h2 h1 dX11_has_2 ?_
  refine A_iconst X dX11_has_3 ?_
  refine A_iand X (set / 2 ^ i) 1 rfl rfl dX11_has_4 ?_
  refine A_iconst X dX11_has_5 ?_
  refine A_icmp_ne (t := 13) X (by rw [Nat.and_one_is_mod]; omega) (by omega) dX11_has_6 (fun c6 => ?_) (fun c6 => ?_)
  · rw [Nat.and_one_is_mod] at c6
    refine A_iconst X dX11_has_13 ?_
    exact A_retz X dX11_has_14 rfl (Or.inl rfl) ⟨bI_0 (by show ¬ _ = _; omega), rfl, rfl⟩
  · rw [Nat.and_one_is_mod] at c6
    refine A_iconst X dX11_has_9 ?_
    refine A_goto (t := 14) X dX11_has_10 ?_
    exact A_retz X dX11_has_14 rfl (Or.inr rfl) ⟨bI_1 (by show _ = _; omega), rfl, rfl⟩
set_option maxRecDepth 100000 in
theorem m_all {G : aG} {d n : Nat} {h : AH} {tm : Nat} {un sz sm tr ak bg mt : Int} {fs : Int → Int} (g : Nat) (hg : fs 0 = (g : Int)) (h6 : g ≤ 6) (h_this : h tm = some (aOb 11 (mO tm un sz sm tr ak bg mt))) (h_this_suit : h (tm + 1) = some (aIa G 32 fs)) : aD G d kX11_all [.ref tm] n h (some (aI ((2 ^ g - 1 : Nat) : Int))) := by
  refine aCt_of (lv := [some (.ref tm)]) knX11_all.1 rfl rfl (Nat.le_of_ble_eq_true rfl) (fun x hG hsc X => ?_)
  subst hG
  refine A_iconst X dX11_all_0 ?_
  refine A_al0 X dX11_all_1 ?_
  refine A_getf X flX11_7 h_this rfl dX11_all_2 ?_
  refine A_iconst X dX11_all_5 ?_
  refine A_iald X h_this_suit (by omega) dX11_all_6 ?_
  refine A_ishl X 1 g rfl hg (by omega) (by have := Nat.pow_le_pow_right (show 0 < 2 by omega) h6; omega) dX11_all_7 ?_
  refine A_iconst X dX11_all_8 ?_
  refine A_isub X dX11_all_9 ?_
  exact A_ret X dX11_all_10 rfl ⟨congrArg (fun t => some (aI t)) (by have := Nat.one_le_two_pow (n := g); omega), rfl, rfl⟩
end
section
/-! the reference: suits, values, sets -/
def sOK (fs : Int → Int) : Prop := (0 ≤ fs 0 ∧ fs 0 ≤ 6) ∧ (0 ≤ fs 1 ∧ fs 1 ≤ 4) ∧ (0 ≤ fs 2 ∧ fs 2 ≤ 3) ∧ (1 ≤ fs 3 ∧ fs 3 ≤ 6) ∧ (∀ k : Int, 4 ≤ k → k < 16 → 0 ≤ fs k ∧ fs k ≤ 20) ∧ (∀ p : Int, 0 ≤ p → p < fs 1 → (0 ≤ fs (16 + p) ∧ fs (16 + p) < fs 0) ∧ (0 ≤ fs (20 + p) ∧ fs (20 + p) < fs 0)) ∧ (∀ k : Int, 24 ≤ k → k < 32 → 0 ≤ fs k ∧ fs k ≤ 20)
def vW (fs : Int → Int) (side : Int) (set : Nat) : Nat → Int
  | 0 => 0
  | k + 1 => vW fs side set k + (if hasB set k then fs (4 + 6 * side + (k : Int)) else 0)
def vP (fs : Int → Int) (side : Int) (set : Nat) : Nat → Int
  | 0 => 0
  | k + 1 => vP fs side set k + (if hasB set (fs (16 + (k : Int))).toNat ∧ hasB set (fs (20 + (k : Int))).toNat then fs (24 + 4 * side + (k : Int)) else 0)
/-- what a side values a set at -/
def vl (fs : Int → Int) (side : Int) (set : Nat) : Int := vW fs side set (fs 0).toNat + vP fs side set (fs 1).toNat
theorem vW_b {fs : Int → Int} (hs : sOK fs) {side : Int} (h1 : side = 0 ∨ side = 1) {set : Nat} : ∀ k : Nat, k ≤ 6 → 0 ≤ vW fs side set k ∧ vW fs side set k ≤ 20 * (k : Int)
  | 0, _ => ⟨Int.le_refl 0, by simp [vW]⟩
  | k + 1, hk => by
    have ih := vW_b hs h1 (set := set) k (by omega)
    have hb := hs.2.2.2.2.1 (4 + 6 * side + (k : Int)) (by omega) (by omega)
    unfold vW
    split <;> omega
theorem vP_b {fs : Int → Int} (hs : sOK fs) {side : Int} (h1 : side = 0 ∨ side = 1) {set : Nat} : ∀ k : Nat, k ≤ 4 → 0 ≤ vP fs side set k ∧ vP fs side set k ≤ 20 * (k : Int)
  | 0, _ => ⟨Int.le_refl 0, by simp [vP]⟩
  | k + 1, hk => by
    have ih := vP_b hs h1 (set := set) k (by omega)
    have hb := hs.2.2.2.2.2.2 (24 + 4 * side + (k : Int)) (by omega) (by omega)
    unfold vP
    split <;> omega
theorem vl_b {fs : Int → Int} (hs : sOK fs) {side : Int} (h1 : side = 0 ∨ side = 1) (set : Nat) : 0 ≤ vl fs side set ∧ vl fs side set ≤ 200 := by
  have a := vW_b hs h1 (set := set) (fs 0).toNat (by have := hs.1; omega)
  have b := vP_b hs h1 (set := set) (fs 1).toNat (by have := hs.2.1; omega)
  have := hs.1
  have := hs.2.1
  unfold vl
  omega
theorem p2b {g : Nat} (h : g ≤ 6) : 1 ≤ 2 ^ g ∧ 2 ^ g ≤ 64 := ⟨Nat.one_le_two_pow, Nat.pow_le_pow_right (by omega) h⟩
set_option maxRecDepth 100000 in
theorem m_valued {G : aG} {d n : Nat} {h : AH} {tm : Nat} {un sz sm tr ak bg mt : Int} {fs : Int → Int} {side s : Int} (set : Nat) (hsv : s = (set : Int)) (hset : set < 2147483648) (hsd : side = 0 ∨ side = 1) (hok : sOK fs) (h_this : h tm = some (aOb 11 (mO tm un sz sm tr ak bg mt))) (h_this_suit : h (tm + 1) = some (aIa G 32 fs)) : aD G (d + 1) kX11_valued [.ref tm, aI side, aI s] n h (some (aI (vl fs side set))) := by
  refine aCt_of (lv := [some (.ref tm), some (aI side), some (aI s), none, none]) knX11_valued.1 rfl rfl (Nat.le_of_ble_eq_true rfl) (fun x hG hsc X => ?_)
  subst hG
  subst hsv
  have hok2 := hok
  obtain ⟨hg0, hp0, -, -, hw0, hpp, hm0⟩ := hok2
  obtain ⟨g, hg⟩ := Int.eq_ofNat_of_zero_le hg0.1
  obtain ⟨np, hnp⟩ := Int.eq_ofNat_of_zero_le hp0.1
  refine A_iconst X dX11_valued_0 ?_
  refine A_is3 X dX11_valued_1 ?_
  refine A_iconst X dX11_valued_2 ?_
  refine A_is4 X dX11_valued_3 ?_
  refine lp_0 (P := fun i => ∀ s : Int, s = vW fs side set i → AW x 0 0 n h 5 [some (.ref tm), some (aI side), some (aI (set : Int)), some (aI s), some (aI (i : Int))] []) g ?_ ?_ 0 rfl
  · intro s hs
    refine A_il4 X dX11_valued_5 ?_
    refine A_al0 X dX11_valued_7 ?_
    refine A_getf X flX11_7 h_this rfl dX11_valued_8 ?_
    refine A_iconst X dX11_valued_11 ?_
    refine A_iald X h_this_suit (by omega) dX11_valued_12 ?_
    refine A_icmp_ge (t := 52) X (by omega) (by omega) dX11_valued_13 (fun c13 => ?_) (fun c13 => by exfalso; omega)
    refine A_iconst X dX11_valued_52 ?_
    refine A_is4 X dX11_valued_53 ?_
    refine lp_0 (P := fun i => ∀ t : Int, t = s + vP fs side set i → AW x 0 0 n h 55 [some (.ref tm), some (aI side), some (aI (set : Int)), some (aI t), some (aI (i : Int))] []) np ?_ ?_ s (by simp [vP])
    · intro t ht
      refine A_il4 X dX11_valued_55 ?_
      refine A_al0 X dX11_valued_57 ?_
      refine A_getf X flX11_7 h_this rfl dX11_valued_58 ?_
      refine A_iconst X dX11_valued_61 ?_
      refine A_iald X h_this_suit (by omega) dX11_valued_62 ?_
      refine A_icmp_ge (t := 127) X (by omega) (by omega) dX11_valued_63 (fun c63 => ?_) (fun c63 => by exfalso; omega)
      refine A_il3 X dX11_valued_127 ?_
      exact A_ret X dX11_valued_128 rfl ⟨congrArg (fun t => some (aI t)) (by unfold vl; rw [hg, hnp, ht, hs]; rfl), rfl, rfl⟩
    · intro i hi ih t ht
      have hb1 := hpp (i : Int) (by omega) (by omega)
      have hb2 := hm0 (24 + 4 * side + (i : Int)) (by omega) (by omega)
      refine A_il4 X dX11_valued_55 ?_
      refine A_al0 X dX11_valued_57 ?_
      refine A_getf X flX11_7 h_this rfl dX11_valued_58 ?_
      refine A_iconst X dX11_valued_61 ?_
      refine A_iald X h_this_suit (by omega) dX11_valued_62 ?_
      refine A_icmp_ge (t := 127) X (by omega) (by omega) dX11_valued_63 (fun c63 => by exfalso; omega) (fun c63 => ?_)
      refine A_il3 X dX11_valued_66 ?_
      refine A_il2 X dX11_valued_67 ?_
      refine A_al0 X dX11_valued_68 ?_
      refine A_getf X flX11_7 h_this rfl dX11_valued_69 ?_
      refine A_bipush X dX11_valued_72 ?_
      refine A_il4 X dX11_valued_74 ?_
      refine A_iadd X dX11_valued_76 ?_
      refine A_iald X h_this_suit (by omega) dX11_valued_77 ?_
      refine A_dSi2 X (m_has set (fs (16 + (i : Int))).toNat rfl (by omega) hset (by omega)) knX11_has mlX11_97 dX11_valued_78 ?_
      refine A_ifb_eq (t := 118) X dX11_valued_81 (fun c81 => ?_) (fun c81 => ?_)
      · refine A_iconst X dX11_valued_118 ?_
        refine A_iadd X dX11_valued_119 ?_
        refine A_is3 X dX11_valued_120 ?_
        refine A_ii4 X dX11_valued_121 ?_
        refine A_goto (t := 55) X dX11_valued_124 ?_
        exact ih _ (by rw [ht, vP, if_neg (fun q => c81 q.1), Int.add_assoc])
      · refine A_il2 X dX11_valued_84 ?_
        refine A_al0 X dX11_valued_85 ?_
        refine A_getf X flX11_7 h_this rfl dX11_valued_86 ?_
        refine A_bipush X dX11_valued_89 ?_
        refine A_il4 X dX11_valued_91 ?_
        refine A_iadd X dX11_valued_93 ?_
        refine A_iald X h_this_suit (by omega) dX11_valued_94 ?_
        refine A_dSi2 X (m_has set (fs (20 + (i : Int))).toNat rfl (by omega) hset (by omega)) knX11_has mlX11_97 dX11_valued_95 ?_
        refine A_ifb_eq (t := 118) X dX11_valued_98 (fun c98 => ?_) (fun c98 => ?_)
        · refine A_iconst X dX11_valued_118 ?_
          refine A_iadd X dX11_valued_119 ?_
          refine A_is3 X dX11_valued_120 ?_
          refine A_ii4 X dX11_valued_121 ?_
          refine A_goto (t := 55) X dX11_valued_124 ?_
          exact ih _ (by rw [ht, vP, if_neg (fun q => c98 q.2), Int.add_assoc])
        · refine A_al0 X dX11_valued_101 ?_
          refine A_getf X flX11_7 h_this rfl dX11_valued_102 ?_
          refine A_bipush X dX11_valued_105 ?_
          refine A_iconst X dX11_valued_107 ?_
          refine A_il1 X dX11_valued_108 ?_
          refine A_imul X dX11_valued_109 ?_
          refine A_iadd X dX11_valued_110 ?_
          refine A_il4 X dX11_valued_111 ?_
          refine A_iadd X dX11_valued_113 ?_
          refine A_iald X h_this_suit (by omega) dX11_valued_114 ?_
          refine A_goto (t := 119) X dX11_valued_115 ?_
          refine A_iadd X dX11_valued_119 ?_
          refine A_is3 X dX11_valued_120 ?_
          refine A_ii4 X dX11_valued_121 ?_
          refine A_goto (t := 55) X dX11_valued_124 ?_
          exact ih _ (by rw [ht, vP, if_pos ⟨c81, c98⟩, Int.add_assoc])
  · intro i hi ih s hs
    have hb2 := hw0 (4 + 6 * side + (i : Int)) (by omega) (by omega)
    refine A_il4 X dX11_valued_5 ?_
    refine A_al0 X dX11_valued_7 ?_
    refine A_getf X flX11_7 h_this rfl dX11_valued_8 ?_
    refine A_iconst X dX11_valued_11 ?_
    refine A_iald X h_this_suit (by omega) dX11_valued_12 ?_
    refine A_icmp_ge (t := 52) X (by omega) (by omega) dX11_valued_13 (fun c13 => by exfalso; omega) (fun c13 => ?_)
    refine A_il3 X dX11_valued_16 ?_
    refine A_il2 X dX11_valued_17 ?_
    refine A_il4 X dX11_valued_18 ?_
    refine A_dSi2 X (m_has set i rfl rfl hset (by omega)) knX11_has mlX11_97 dX11_valued_20 ?_
    refine A_ifb_eq (t := 43) X dX11_valued_23 (fun c23 => ?_) (fun c23 => ?_)
    · refine A_iconst X dX11_valued_43 ?_
      refine A_iadd X dX11_valued_44 ?_
      refine A_is3 X dX11_valued_45 ?_
      refine A_ii4 X dX11_valued_46 ?_
      refine A_goto (t := 5) X dX11_valued_49 ?_
      exact ih _ (by rw [hs, vW, if_neg c23])
    · refine A_al0 X dX11_valued_26 ?_
      refine A_getf X flX11_7 h_this rfl dX11_valued_27 ?_
      refine A_iconst X dX11_valued_30 ?_
      refine A_bipush X dX11_valued_31 ?_
      refine A_il1 X dX11_valued_33 ?_
      refine A_imul X dX11_valued_34 ?_
      refine A_iadd X dX11_valued_35 ?_
      refine A_il4 X dX11_valued_36 ?_
      refine A_iadd X dX11_valued_38 ?_
      refine A_iald X h_this_suit (by omega) dX11_valued_39 ?_
      refine A_goto (t := 44) X dX11_valued_40 ?_
      refine A_iadd X dX11_valued_44 ?_
      refine A_is3 X dX11_valued_45 ?_
      refine A_ii4 X dX11_valued_46 ?_
      refine A_goto (t := 5) X dX11_valued_49 ?_
      exact ih _ (by rw [hs, vW, if_pos c23])
/-- the goods of an owner, as bits -/
def gO (fn : Int → Int) (ow : Int) : Nat → Nat
  | 0 => 0
  | k + 1 => gO fn ow k ||| (if fn (k : Int) = ow then 1 * 2 ^ k else 0)
theorem gO_b {fn : Int → Int} {ow : Int} : ∀ k : Nat, gO fn ow k < 2 ^ k
  | 0 => by simp [gO]
  | k + 1 => by
    have ih := gO_b (fn := fn) (ow := ow) k
    have h2 : 2 ^ k < 2 ^ (k + 1) := Nat.pow_lt_pow_right (by omega) (by omega)
    unfold gO
    refine Nat.or_lt_two_pow (by omega) ?_
    split <;> omega
set_option maxRecDepth 100000 in
theorem m_goodsOf {G : aG} {d n : Nat} {h : AH} {tm : Nat} {un sz sm tr ak bg mt : Int} {fs fn : Int → Int} {ow : Int} (g : Nat) (hg : fs 0 = (g : Int)) (h6 : g ≤ 6) (hn : ∀ k : Int, 0 ≤ k → k < 6 → 0 ≤ fn k ∧ fn k ≤ 2) (how : inR ow) (h_this : h tm = some (aOb 11 (mO tm un sz sm tr ak bg mt))) (h_this_suit : h (tm + 1) = some (aIa G 32 fs)) (h_this_now : h (tm + 3) = some (aIa G 9 fn)) : aD G d kX11_goodsOf [.ref tm, aI ow] n h (some (aI (gO fn ow g : Nat))) := by
  refine aCt_of (lv := [some (.ref tm), some (aI ow), none, none]) knX11_goodsOf.1 rfl rfl (Nat.le_of_ble_eq_true rfl) (fun x hG hsc X => ?_)
  subst hG
  refine A_iconst X dX11_goodsOf_0 ?_
  refine A_is2 X dX11_goodsOf_1 ?_
  refine A_iconst X dX11_goodsOf_2 ?_
  refine A_is3 X dX11_goodsOf_3 ?_
  refine lp_0 (P := fun i => ∀ s : Nat, s = gO fn ow i → AW x 0 0 n h 4 [some (.ref tm), some (aI ow), some (aI (s : Int)), some (aI (i : Int))] []) g ?_ ?_ 0 rfl
  · intro s hs
    refine A_il3 X dX11_goodsOf_4 ?_
    refine A_al0 X dX11_goodsOf_5 ?_
    refine A_getf X flX11_7 h_this rfl dX11_goodsOf_6 ?_
    refine A_iconst X dX11_goodsOf_9 ?_
    refine A_iald X h_this_suit (by omega) dX11_goodsOf_10 ?_
    refine A_icmp_ge (t := 42) X (by omega) (by omega) dX11_goodsOf_11 (fun c11 => ?_) (fun c11 => by exfalso; omega)
    refine A_il2 X dX11_goodsOf_42 ?_
    exact A_ret X dX11_goodsOf_43 rfl ⟨congrArg (fun t => some (aI t)) (by rw [hs]), rfl, rfl⟩
  · intro i hi ih s hs
    have hb := hn (0 + (i : Int)) (by omega) (by omega)
    refine A_il3 X dX11_goodsOf_4 ?_
    refine A_al0 X dX11_goodsOf_5 ?_
    refine A_getf X flX11_7 h_this rfl dX11_goodsOf_6 ?_
    refine A_iconst X dX11_goodsOf_9 ?_
    refine A_iald X h_this_suit (by omega) dX11_goodsOf_10 ?_
    refine A_icmp_ge (t := 42) X (by omega) (by omega) dX11_goodsOf_11 (fun c11 => by exfalso; omega) (fun c11 => ?_)
    refine A_il2 X dX11_goodsOf_14 ?_
    refine A_al0 X dX11_goodsOf_15 ?_
    refine A_getf X flX11_16 h_this rfl dX11_goodsOf_16 ?_
    refine A_iconst X dX11_goodsOf_19 ?_
    refine A_il3 X dX11_goodsOf_20 ?_
    refine A_iadd X dX11_goodsOf_21 ?_
    refine A_iald X h_this_now (by omega) dX11_goodsOf_22 ?_
    refine A_il1 X dX11_goodsOf_23 ?_
    refine A_icmp_ne (t := 33) X (by omega) (by omega) dX11_goodsOf_24 (fun c24 => ?_) (fun c24 => ?_)
    · rw [Int.zero_add] at c24
      refine A_iconst X dX11_goodsOf_33 ?_
      refine A_ior X s 0 rfl rfl dX11_goodsOf_34 ?_
      refine A_is2 X dX11_goodsOf_35 ?_
      refine A_ii3 X dX11_goodsOf_36 ?_
      refine A_goto (t := 4) X dX11_goodsOf_39 ?_
      exact ih _ (by rw [hs, gO, if_neg c24])
    · rw [Int.zero_add] at c24
      refine A_iconst X dX11_goodsOf_27 ?_
      refine A_il3 X dX11_goodsOf_28 ?_
      refine A_ishl X 1 i rfl rfl (by omega) (by have := p2b (show i ≤ 6 by omega); omega) dX11_goodsOf_29 ?_
      refine A_goto (t := 34) X dX11_goodsOf_30 ?_
      refine A_ior X s (1 * 2 ^ i) rfl rfl dX11_goodsOf_34 ?_
      refine A_is2 X dX11_goodsOf_35 ?_
      refine A_ii3 X dX11_goodsOf_36 ?_
      refine A_goto (t := 4) X dX11_goodsOf_39 ?_
      exact ih _ (by rw [hs, gO, if_pos c24])
/-- how many bits, of six -/
def pct (s : Nat) : Nat := s % 2 + s / 2 % 2 + s / 4 % 2 + s / 8 % 2 + s / 16 % 2 + s / 32 % 2
theorem pct_s : ∀ s : Nat, s < 64 → s ≠ 0 → pct (s &&& (s - 1)) + 1 = pct s ∧ (s &&& (s - 1)) < s := by decide
set_option maxRecDepth 100000 in
theorem m_bits_l {d : Nat} {x : aX} {n : Nat} {h : AH} {post : aPost} (X : aOk x d cX11_bits RX11 "bits" (some .int) 0 0 post) (s : Nat) (hp : post (some (aI (pct s : Nat))) n h) : ∀ (k l c : Nat), l ≤ k → l < 64 → c + pct l = pct s → AW x 0 0 n h 4 [some (aI (s : Int)), some (aI (c : Int)), some (aI (l : Int))] [] := by
  intro k
  induction k with
  | zero =>
    intro l c hl h64 hc
    obtain rfl : l = 0 := by omega
    have h0 : pct 0 = 0 := by decide
    refine A_il2 X dX11_bits_4 ?_
    refine A_if_eq (t := 20) X (by omega) dX11_bits_5 (fun c5 => ?_) (fun c5 => by exfalso; omega)
    refine A_il1 X dX11_bits_20 ?_
    rw [show (c : Int) = (pct s : Nat) by omega]; exact A_ret X dX11_bits_21 rfl hp
  | succ k ih =>
    intro l c hl h64 hc
    by_cases hl0 : l = 0
    · exact ih l c (by omega) h64 hc
    · have h1 := pct_s l h64 hl0
      have h2 : ((l : Int) - 1) = ((l - 1 : Nat) : Int) := by omega
      refine A_il2 X dX11_bits_4 ?_
      refine A_if_eq (t := 20) X (by omega) dX11_bits_5 (fun c5 => by exfalso; omega) (fun c5 => ?_)
      refine A_ii1 X dX11_bits_8 ?_
      refine A_il2 X dX11_bits_11 ?_
      refine A_il2 X dX11_bits_12 ?_
      refine A_iconst X dX11_bits_13 ?_
      refine A_isub X dX11_bits_14 ?_
      refine A_iand X l (l - 1) rfl h2 dX11_bits_15 ?_
      refine A_is2 X dX11_bits_16 ?_
      refine A_goto (t := 4) X dX11_bits_17 ?_
      exact ih (l &&& (l - 1)) (c + 1) (by have := h1.2; omega) (by have := h1.2; omega) (by have := h1.1; omega)
set_option maxRecDepth 100000 in
theorem m_bits {G : aG} {d n : Nat} {h : AH} {z : Int} (s : Nat) (hz : z = (s : Int)) (h6 : s < 64) : aD G d kX11_bits [aI z] n h (some (aI (pct s : Nat))) := by
  refine aCt_of (lv := [some (aI z), none, none]) knX11_bits.1 rfl rfl (Nat.le_of_ble_eq_true rfl) (fun x hG hsc X => ?_)
  subst hG
  subst hz
  refine A_iconst X dX11_bits_0 ?_
  refine A_is1 X dX11_bits_1 ?_
  refine A_il0 X dX11_bits_2 ?_
  refine A_is2 X dX11_bits_3 ?_
  exact m_bits_l X s ⟨rfl, rfl, rfl⟩ s s 0 (Nat.le_refl s) h6 (by omega)
end
section
/-! the reference: steps, soles -/
def nOK (fn : Int → Int) : Prop := (∀ k : Int, 0 ≤ k → k < 6 → 0 ≤ fn k ∧ fn k ≤ 2) ∧ (0 ≤ fn 6 ∧ fn 6 ≤ 60) ∧ (0 ≤ fn 7 ∧ fn 7 < 1073741824) ∧ (0 ≤ fn 8 ∧ fn 8 < 1073741824)
/-- the foot of a step -/
def mF (fn : Int → Int) (i : Nat) : Int := (((fn (7 + (i : Int) / 30)).toNat / 2 ^ (i % 30) % 2 : Nat) : Int)
theorem mF_b (fn : Int → Int) (i : Nat) : 0 ≤ mF fn i ∧ mF fn i ≤ 1 := by
  unfold mF
  omega
theorem nOK_w {fn : Int → Int} (h : nOK fn) {i : Nat} (hi : i < 60) : 0 ≤ fn (7 + (i : Int) / 30) ∧ fn (7 + (i : Int) / 30) < 1073741824 := by
  rcases (show (i : Int) / 30 = 0 ∨ (i : Int) / 30 = 1 by omega) with e | e <;> rw [e]
  · exact h.2.2.1
  · exact h.2.2.2
def cnt (ft : Nat → Int) (foot : Int) : Nat → Int
  | 0 => 0
  | k + 1 => cnt ft foot k + (if ft k = foot then 1 else 0)
theorem cnt_b (ft : Nat → Int) (foot : Int) : ∀ k : Nat, 0 ≤ cnt ft foot k ∧ cnt ft foot k ≤ (k : Int)
  | 0 => by simp [cnt]
  | k + 1 => by
    have := cnt_b ft foot k
    unfold cnt
    split <;> omega
def wrn (ft : Nat → Int) (c foot cell : Int) : Nat → Int
  | 0 => 0
  | k + 1 => wrn ft c foot cell k + (if ft k = foot ∧ cnt ft foot k % c = cell then 1 else 0)
theorem wrn_b (ft : Nat → Int) (c foot cell : Int) : ∀ k : Nat, 0 ≤ wrn ft c foot cell k ∧ wrn ft c foot cell k ≤ (k : Int)
  | 0 => by simp [wrn]
  | k + 1 => by
    have := wrn_b ft c foot cell k
    unfold wrn
    split <;> omega
def flp (ft : Nat → Int) (o : Int) (i : Nat) : Int := if (i : Int) = o then 1 - ft i else ft i
set_option maxRecDepth 100000 in
theorem m_isGood {G : aG} {d n : Nat} {h : AH} {tm : Nat} {un sz sm tr ak bg mt : Int} {fs : Int → Int} {z : Int} (hz : inR z) (hg : 0 ≤ fs 0 ∧ fs 0 ≤ 6) (h_this : h tm = some (aOb 11 (mO tm un sz sm tr ak bg mt))) (h_this_suit : h (tm + 1) = some (aIa G 32 fs)) : aD G (d + 1) kX11_isGood [.ref tm, aI z] n h (some (aI (bI (0 ≤ z ∧ z ≤ fs 0 - 1)))) := by
  refine aCt_of (lv := [some (.ref tm), some (aI z)]) knX11_isGood.1 rfl rfl (Nat.le_of_ble_eq_true rfl) (fun x hG hsc X => ?_)
  subst hG
  refine A_il1 X dX11_isGood_0 ?_
  refine A_i2l X (by omega) dX11_isGood_1 ?_
  refine A_lconst (z := 0) X dX11_isGood_2 ?_
  refine A_al0 X dX11_isGood_3 ?_
  refine A_getf X flX11_7 h_this rfl dX11_isGood_4 ?_
  refine A_iconst X dX11_isGood_7 ?_
  refine A_iald X h_this_suit (by omega) dX11_isGood_8 ?_
  refine A_iconst X dX11_isGood_9 ?_
  refine A_isub X dX11_isGood_10 ?_
  refine A_i2l X (by omega) dX11_isGood_11 ?_
  refine A_dSi3 X (m_in (by omega) (by omega) (by omega)) knX11_in mlX11_57 dX11_isGood_12 ?_
  exact A_retz X dX11_isGood_15 rfl bI_or ⟨rfl, rfl, rfl⟩
set_option maxRecDepth 100000 in
theorem m_isCell {G : aG} {d n : Nat} {h : AH} {tm : Nat} {un sz sm tr ak bg mt : Int} {fs : Int → Int} {z : Int} (hz : inR z) (hg : 1 ≤ fs 3 ∧ fs 3 ≤ 6) (h_this : h tm = some (aOb 11 (mO tm un sz sm tr ak bg mt))) (h_this_suit : h (tm + 1) = some (aIa G 32 fs)) : aD G (d + 1) kX11_isCell [.ref tm, aI z] n h (some (aI (bI (0 ≤ z ∧ z ≤ fs 3 - 1)))) := by
  refine aCt_of (lv := [some (.ref tm), some (aI z)]) knX11_isCell.1 rfl rfl (Nat.le_of_ble_eq_true rfl) (fun x hG hsc X => ?_)
  subst hG
  refine A_il1 X dX11_isCell_0 ?_
  refine A_i2l X (by omega) dX11_isCell_1 ?_
  refine A_lconst (z := 0) X dX11_isCell_2 ?_
  refine A_al0 X dX11_isCell_3 ?_
  refine A_getf X flX11_7 h_this rfl dX11_isCell_4 ?_
  refine A_iconst X dX11_isCell_7 ?_
  refine A_iald X h_this_suit (by omega) dX11_isCell_8 ?_
  refine A_iconst X dX11_isCell_9 ?_
  refine A_isub X dX11_isCell_10 ?_
  refine A_i2l X (by omega) dX11_isCell_11 ?_
  refine A_dSi3 X (m_in (by omega) (by omega) (by omega)) knX11_in mlX11_57 dX11_isCell_12 ?_
  exact A_retz X dX11_isCell_15 rfl bI_or ⟨rfl, rfl, rfl⟩
set_option maxRecDepth 100000 in
theorem m_footOf {G : aG} {d n : Nat} {h : AH} {tm : Nat} {un sz sm tr ak bg mt : Int} {fn : Int → Int} {z : Int} (i : Nat) (hz : z = (i : Int)) (hi : i < 60) (hok : nOK fn) (h_this : h tm = some (aOb 11 (mO tm un sz sm tr ak bg mt))) (h_this_now : h (tm + 3) = some (aIa G 9 fn)) : aD G d kX11_footOf [.ref tm, aI z] n h (some (aI (mF fn i))) := by
  refine aCt_of (lv := [some (.ref tm), some (aI z)]) knX11_footOf.1 rfl rfl (Nat.le_of_ble_eq_true rfl) (fun x hG hsc X => ?_)
  subst hG
  subst hz
  have hb := nOK_w hok hi
  refine A_al0 X dX11_footOf_0 ?_
  refine A_getf X flX11_16 h_this rfl dX11_footOf_1 ?_
  refine A_bipush X dX11_footOf_4 ?_
  refine A_il1 X dX11_footOf_6 ?_
  refine A_bipush X dX11_footOf_7 ?_
  refine A_idiv X (by omega) (by omega) dX11_footOf_9 ?_
  refine A_iadd X dX11_footOf_10 ?_
  refine A_iald X h_this_now (by omega) dX11_footOf_11 ?_
  refine A_il1 X dX11_footOf_12 ?_
  refine A_bipush X dX11_footOf_13 ?_
  refine A_irem X (by omega) (by omega) dX11_footOf_15 ?_
  refine A_ishr X (fn (7 + (i : Int) / 30)).toNat (i % 30) (by omega) (by omega) (by omega) (by omega) dX11_footOf_16 ?_
  refine A_iconst X dX11_footOf_17 ?_
  refine A_iand X ((fn (7 + (i : Int) / 30)).toNat / 2 ^ (i % 30)) 1 rfl rfl dX11_footOf_18 ?_
  exact A_ret X dX11_footOf_19 rfl ⟨congrArg (fun t => some (aI t)) (by rw [Nat.and_one_is_mod]; rfl), rfl, rfl⟩
set_option maxRecDepth 100000 in
theorem m_stepsOf {G : aG} {d n : Nat} {h : AH} {tm : Nat} {un sz sm tr ak bg mt : Int} {fn : Int → Int} {foot : Int} (k : Nat) (hk : fn 6 = (k : Int)) (hok : nOK fn) (hf : inR foot) (h_this : h tm = some (aOb 11 (mO tm un sz sm tr ak bg mt))) (h_this_now : h (tm + 3) = some (aIa G 9 fn)) : aD G (d + 1) kX11_stepsOf [.ref tm, aI foot] n h (some (aI (cnt (mF fn) foot k))) := by
  refine aCt_of (lv := [some (.ref tm), some (aI foot), none, none]) knX11_stepsOf.1 rfl rfl (Nat.le_of_ble_eq_true rfl) (fun x hG hsc X => ?_)
  subst hG
  have hk6 := hok.2.1
  refine A_iconst X dX11_stepsOf_0 ?_
  refine A_is2 X dX11_stepsOf_1 ?_
  refine A_iconst X dX11_stepsOf_2 ?_
  refine A_is3 X dX11_stepsOf_3 ?_
  refine lp_0 (P := fun i => ∀ s : Int, s = cnt (mF fn) foot i → AW x 0 0 n h 4 [some (.ref tm), some (aI foot), some (aI s), some (aI (i : Int))] []) k ?_ ?_ 0 rfl
  · intro s hs
    refine A_il3 X dX11_stepsOf_4 ?_
    refine A_al0 X dX11_stepsOf_5 ?_
    refine A_getf X flX11_16 h_this rfl dX11_stepsOf_6 ?_
    refine A_bipush X dX11_stepsOf_9 ?_
    refine A_iald X h_this_now (by omega) dX11_stepsOf_11 ?_
    refine A_icmp_ge (t := 38) X (by omega) (by omega) dX11_stepsOf_12 (fun c12 => ?_) (fun c12 => by exfalso; omega)
    refine A_il2 X dX11_stepsOf_38 ?_
    exact A_ret X dX11_stepsOf_39 rfl ⟨congrArg (fun t => some (aI t)) (by rw [hs]), rfl, rfl⟩
  · intro i hi ih s hs
    have hb := mF_b fn i
    refine A_il3 X dX11_stepsOf_4 ?_
    refine A_al0 X dX11_stepsOf_5 ?_
    refine A_getf X flX11_16 h_this rfl dX11_stepsOf_6 ?_
    refine A_bipush X dX11_stepsOf_9 ?_
    refine A_iald X h_this_now (by omega) dX11_stepsOf_11 ?_
    refine A_icmp_ge (t := 38) X (by omega) (by omega) dX11_stepsOf_12 (fun c12 => by exfalso; omega) (fun c12 => ?_)
    refine A_il2 X dX11_stepsOf_15 ?_
    refine A_al0 X dX11_stepsOf_16 ?_
    refine A_il3 X dX11_stepsOf_17 ?_
    refine A_dVi1 X (m_footOf i rfl (by omega) hok h_this h_this_now) h_this knX11_footOf mlX11_140 dX11_stepsOf_18 ?_
    refine A_il1 X dX11_stepsOf_21 ?_
    refine A_icmp_ne (t := 29) X (by omega) (by omega) dX11_stepsOf_22 (fun c22 => ?_) (fun c22 => ?_)
    · refine A_iconst X dX11_stepsOf_29 ?_
      refine A_iadd X dX11_stepsOf_30 ?_
      refine A_is2 X dX11_stepsOf_31 ?_
      refine A_ii3 X dX11_stepsOf_32 ?_
      refine A_goto (t := 4) X dX11_stepsOf_35 ?_
      exact ih _ (by rw [hs, cnt, if_neg c22])
    · refine A_iconst X dX11_stepsOf_25 ?_
      refine A_goto (t := 30) X dX11_stepsOf_26 ?_
      refine A_iadd X dX11_stepsOf_30 ?_
      refine A_is2 X dX11_stepsOf_31 ?_
      refine A_ii3 X dX11_stepsOf_32 ?_
      refine A_goto (t := 4) X dX11_stepsOf_35 ?_
      exact ih _ (by rw [hs, cnt, if_pos c22])
set_option maxRecDepth 100000 in
theorem m_wornBy {G : aG} {d n : Nat} {h : AH} {tm : Nat} {un sz sm tr ak bg mt : Int} {fs fn : Int → Int} {foot cell o : Int} (k : Nat) (hk : fn 6 = (k : Int)) (hok : nOK fn) (hc : 1 ≤ fs 3 ∧ fs 3 ≤ 6) (hf : inR foot) (hce : inR cell) (ho : inR o) (h_this : h tm = some (aOb 11 (mO tm un sz sm tr ak bg mt))) (h_this_suit : h (tm + 1) = some (aIa G 32 fs)) (h_this_now : h (tm + 3) = some (aIa G 9 fn)) : aD G (d + 1) kX11_wornBy [.ref tm, aI foot, aI cell, aI o] n h (some (aI (wrn (flp (mF fn) o) (fs 3) foot cell k))) := by
  refine aCt_of (lv := [some (.ref tm), some (aI foot), some (aI cell), some (aI o), none, none, none, none]) knX11_wornBy.1 rfl rfl (Nat.le_of_ble_eq_true rfl) (fun x hG hsc X => ?_)
  subst hG
  have hk6 := hok.2.1
  refine A_iconst X dX11_wornBy_0 ?_
  refine A_is4 X dX11_wornBy_1 ?_
  refine A_iconst X dX11_wornBy_3 ?_
  refine A_is5 X dX11_wornBy_4 ?_
  refine A_iconst X dX11_wornBy_6 ?_
  refine A_is6 X dX11_wornBy_7 ?_
  refine lp_0 (P := fun i => ∀ (s t : Int) (u : Option Value), lo_c1 [u] = true → s = cnt (flp (mF fn) o) foot i → t = wrn (flp (mF fn) o) (fs 3) foot cell i → AW x 0 0 n h 9 [some (.ref tm), some (aI foot), some (aI cell), some (aI o), some (aI s), some (aI t), some (aI (i : Int)), u] []) k ?_ ?_ 0 0 none rfl rfl rfl
  · intro s t u hu hs ht
    refine A_il6 X dX11_wornBy_9 ?_
    refine A_al0 X dX11_wornBy_11 ?_
    refine A_getf X flX11_16 h_this rfl dX11_wornBy_12 ?_
    refine A_bipush X dX11_wornBy_15 ?_
    refine A_iald X h_this_now (by omega) dX11_wornBy_17 ?_
    refine A_icmp_ge (t := 84) X (by omega) (by omega) dX11_wornBy_18 (fun c18 => ?_) (fun c18 => by exfalso; omega)
    refine A_il5 X dX11_wornBy_84 ?_
    exact A_ret X dX11_wornBy_86 rfl ⟨congrArg (fun t => some (aI t)) (by rw [ht]), rfl, rfl⟩
  · intro i hi ih s t u hu hs ht
    have hb := mF_b fn i
    have hcb := cnt_b (flp (mF fn) o) foot i
    have hwb := wrn_b (flp (mF fn) o) (fs 3) foot cell i
    have hfl : ∀ w : Int, (w = 1 - mF fn i ∧ (i : Int) = o) ∨ (w = mF fn i ∧ (i : Int) ≠ o) → flp (mF fn) o i = w := by
      intro w hw
      unfold flp
      rcases hw with ⟨h1, h2⟩ | ⟨h1, h2⟩
      · rw [if_pos h2, h1]
      · rw [if_neg h2, h1]
    refine A_il6 X dX11_wornBy_9 ?_
    refine A_al0 X dX11_wornBy_11 ?_
    refine A_getf X flX11_16 h_this rfl dX11_wornBy_12 ?_
    refine A_bipush X dX11_wornBy_15 ?_
    refine A_iald X h_this_now (by omega) dX11_wornBy_17 ?_
    refine A_icmp_ge (t := 84) X (by omega) (by omega) dX11_wornBy_18 (fun c18 => by exfalso; omega) (fun c18 => ?_)
    refine A_il6 X dX11_wornBy_21 ?_
    refine A_il3 X dX11_wornBy_23 ?_
    refine A_icmp_ne (t := 38) X (by omega) (by omega) dX11_wornBy_24 (fun c24 => ?_) (fun c24 => ?_)
    · refine A_al0 X dX11_wornBy_38 ?_
      refine A_il6 X dX11_wornBy_39 ?_
      refine A_dVi1 X (m_footOf i rfl (by omega) hok h_this h_this_now) h_this knX11_footOf mlX11_140 dX11_wornBy_41 ?_
      refine A_is7 X dX11_wornBy_44 ?_ (hc := by simp only [lo_c1, List.all_cons, List.all_nil, Bool.and_true] at hu ⊢; exact hu)
      have e := hfl _ (Or.inr ⟨rfl, c24⟩)
      refine A_il7 X dX11_wornBy_46 ?_
      refine A_il1 X dX11_wornBy_48 ?_
      refine A_icmp_ne (t := 78) X (by omega) (by omega) dX11_wornBy_49 (fun c49 => ?_) (fun c49 => ?_)
      · refine A_ii6 X dX11_wornBy_78 ?_
        refine A_goto (t := 9) X dX11_wornBy_81 ?_
        exact ih _ _ _ rfl (by rw [cnt, if_neg (by rw [e]; exact c49), hs, Int.add_zero]) (by rw [wrn, if_neg (by rw [e]; exact fun q => c49 q.1), ht, Int.add_zero])
      · have e2 : cnt (flp (mF fn) o) foot (i + 1) = s + 1 := by rw [cnt, if_pos (e.trans c49), hs]
        refine A_il5 X dX11_wornBy_52 ?_
        refine A_il4 X dX11_wornBy_54 ?_
        refine A_al0 X dX11_wornBy_56 ?_
        refine A_getf X flX11_7 h_this rfl dX11_wornBy_57 ?_
        refine A_iconst X dX11_wornBy_60 ?_
        refine A_iald X h_this_suit (by omega) dX11_wornBy_61 ?_
        refine A_irem X (by omega) (by omega) dX11_wornBy_62 ?_
        refine A_il2 X dX11_wornBy_63 ?_
        refine A_icmp_ne (t := 71) X (by have := Int.emod_nonneg s (show fs 3 ≠ 0 by omega); have := Int.emod_lt_of_pos s (show 0 < fs 3 by omega); omega) (by omega) dX11_wornBy_64 (fun c64 => ?_) (fun c64 => ?_)
        · refine A_iconst X dX11_wornBy_71 ?_
          refine A_iadd X dX11_wornBy_72 ?_
          refine A_is5 X dX11_wornBy_73 ?_
          refine A_ii4 X dX11_wornBy_75 ?_
          refine A_ii6 X dX11_wornBy_78 ?_
          refine A_goto (t := 9) X dX11_wornBy_81 ?_
          exact ih _ _ _ rfl e2.symm (by rw [wrn, if_neg (by rw [← hs]; exact fun q => c64 q.2), ht])
        · refine A_iconst X dX11_wornBy_67 ?_
          refine A_goto (t := 72) X dX11_wornBy_68 ?_
          refine A_iadd X dX11_wornBy_72 ?_
          refine A_is5 X dX11_wornBy_73 ?_
          refine A_ii4 X dX11_wornBy_75 ?_
          refine A_ii6 X dX11_wornBy_78 ?_
          refine A_goto (t := 9) X dX11_wornBy_81 ?_
          exact ih _ _ _ rfl e2.symm (by rw [wrn, if_pos (by rw [← hs]; exact ⟨e.trans c49, c64⟩), ht])
    · refine A_iconst X dX11_wornBy_27 ?_
      refine A_al0 X dX11_wornBy_28 ?_
      refine A_il6 X dX11_wornBy_29 ?_
      refine A_dVi1 X (m_footOf i rfl (by omega) hok h_this h_this_now) h_this knX11_footOf mlX11_140 dX11_wornBy_31 ?_
      refine A_isub X dX11_wornBy_34 ?_
      refine A_goto (t := 44) X dX11_wornBy_35 ?_
      refine A_is7 X dX11_wornBy_44 ?_ (hc := by simp only [lo_c1, List.all_cons, List.all_nil, Bool.and_true] at hu ⊢; exact hu)
      have e := hfl _ (Or.inl ⟨rfl, c24⟩)
      refine A_il7 X dX11_wornBy_46 ?_
      refine A_il1 X dX11_wornBy_48 ?_
      refine A_icmp_ne (t := 78) X (by omega) (by omega) dX11_wornBy_49 (fun c49 => ?_) (fun c49 => ?_)
      · refine A_ii6 X dX11_wornBy_78 ?_
        refine A_goto (t := 9) X dX11_wornBy_81 ?_
        exact ih _ _ _ rfl (by rw [cnt, if_neg (by rw [e]; exact c49), hs, Int.add_zero]) (by rw [wrn, if_neg (by rw [e]; exact fun q => c49 q.1), ht, Int.add_zero])
      · have e2 : cnt (flp (mF fn) o) foot (i + 1) = s + 1 := by rw [cnt, if_pos (e.trans c49), hs]
        refine A_il5 X dX11_wornBy_52 ?_
        refine A_il4 X dX11_wornBy_54 ?_
        refine A_al0 X dX11_wornBy_56 ?_
        refine A_getf X flX11_7 h_this rfl dX11_wornBy_57 ?_
        refine A_iconst X dX11_wornBy_60 ?_
        refine A_iald X h_this_suit (by omega) dX11_wornBy_61 ?_
        refine A_irem X (by omega) (by omega) dX11_wornBy_62 ?_
        refine A_il2 X dX11_wornBy_63 ?_
        refine A_icmp_ne (t := 71) X (by have := Int.emod_nonneg s (show fs 3 ≠ 0 by omega); have := Int.emod_lt_of_pos s (show 0 < fs 3 by omega); omega) (by omega) dX11_wornBy_64 (fun c64 => ?_) (fun c64 => ?_)
        · refine A_iconst X dX11_wornBy_71 ?_
          refine A_iadd X dX11_wornBy_72 ?_
          refine A_is5 X dX11_wornBy_73 ?_
          refine A_ii4 X dX11_wornBy_75 ?_
          refine A_ii6 X dX11_wornBy_78 ?_
          refine A_goto (t := 9) X dX11_wornBy_81 ?_
          exact ih _ _ _ rfl e2.symm (by rw [wrn, if_neg (by rw [← hs]; exact fun q => c64 q.2), ht])
        · refine A_iconst X dX11_wornBy_67 ?_
          refine A_goto (t := 72) X dX11_wornBy_68 ?_
          refine A_iadd X dX11_wornBy_72 ?_
          refine A_is5 X dX11_wornBy_73 ?_
          refine A_ii4 X dX11_wornBy_75 ?_
          refine A_ii6 X dX11_wornBy_78 ?_
          refine A_goto (t := 9) X dX11_wornBy_81 ?_
          exact ih _ _ _ rfl e2.symm (by rw [wrn, if_pos (by rw [← hs]; exact ⟨e.trans c49, c64⟩), ht])
end
section
/-! the reference: what is seen, judged, asked -/
def eOK (fe : Int → Int) : Prop := ∀ k : Int, 0 ≤ k → k < 18 → 0 ≤ fe k ∧ fe k ≤ 60
/-- whether all that is seen is so, a step being told the other way -/
def soQ (ft : Nat → Int) (c : Int) (fe : Int → Int) (o : Int) (st : Nat) : Nat → Bool
  | 0 => true
  | k + 1 => soQ ft c fe o st k && decide (wrn (flp ft o) c (fe (3 * (k : Int))) (fe (3 * (k : Int) + 1)) st = fe (3 * (k : Int) + 2))
set_option maxRecDepth 100000 in
theorem m_isSo {G : aG} {d n : Nat} {h : AH} {tm : Nat} {un sz sm tr ak bg mt : Int} {fs fn fe : Int → Int} {o : Int} (k m : Nat) (hk : fn 6 = (k : Int)) (hm : sm = (m : Int)) (hm6 : m ≤ 6) (hok : nOK fn) (hc : 1 ≤ fs 3 ∧ fs 3 ≤ 6) (he : eOK fe) (ho : inR o) (h_this : h tm = some (aOb 11 (mO tm un sz sm tr ak bg mt))) (h_this_suit : h (tm + 1) = some (aIa G 32 fs)) (h_this_now : h (tm + 3) = some (aIa G 9 fn)) (h_this_seen : h (tm + 8) = some (aIa G 18 fe)) : aD G (d + 2) kX11_isSo [.ref tm, aI o] n h (some (aI (bI (soQ (mF fn) (fs 3) fe o k m = true)))) := by
  refine aCt_of (lv := [some (.ref tm), some (aI o), none, none]) knX11_isSo.1 rfl rfl (Nat.le_of_ble_eq_true rfl) (fun x hG hsc X => ?_)
  subst hG
  have hk6 := hok.2.1
  refine A_iconst X dX11_isSo_0 ?_
  refine A_is2 X dX11_isSo_1 ?_
  refine A_iconst X dX11_isSo_2 ?_
  refine A_is3 X dX11_isSo_3 ?_
  refine lp_0 (P := fun i => ∀ s : Int, s = bI (soQ (mF fn) (fs 3) fe o k i = true) → AW x 0 0 n h 4 [some (.ref tm), some (aI o), some (aI s), some (aI (i : Int))] []) m ?_ ?_ 1 rfl
  · intro s hs
    have h01 := bI_or (p := soQ (mF fn) (fs 3) fe o k m = true)
    rw [← hs] at h01
    refine A_il3 X dX11_isSo_4 ?_
    refine A_al0 X dX11_isSo_5 ?_
    refine A_getf X flX11_65 h_this rfl dX11_isSo_6 ?_
    refine A_icmp_ge (t := 64) X (by omega) (by omega) dX11_isSo_9 (fun c9 => ?_) (fun c9 => by exfalso; omega)
    refine A_il2 X dX11_isSo_64 ?_
    exact A_retz X dX11_isSo_65 rfl (h01) ⟨congrArg (fun t => some (aI t)) hs, rfl, rfl⟩
  · intro i hi ih s hs
    have h01 := bI_or (p := soQ (mF fn) (fs 3) fe o k i = true)
    rw [← hs] at h01
    have b0 := he (3 * (i : Int)) (by omega) (by omega)
    have b1 := he (3 * (i : Int) + 1) (by omega) (by omega)
    have b2 := he (3 * (i : Int) + 2) (by omega) (by omega)
    have hwb := wrn_b (flp (mF fn) o) (fs 3) (fe (3 * (i : Int))) (fe (3 * (i : Int) + 1)) k
    refine A_il3 X dX11_isSo_4 ?_
    refine A_al0 X dX11_isSo_5 ?_
    refine A_getf X flX11_65 h_this rfl dX11_isSo_6 ?_
    refine A_icmp_ge (t := 64) X (by omega) (by omega) dX11_isSo_9 (fun c9 => by exfalso; omega) (fun c9 => ?_)
    refine A_il2 X dX11_isSo_12 ?_
    refine A_if_eq (t := 56) X (by omega) dX11_isSo_13 (fun c13 => ?_) (fun c13 => ?_)
    · refine A_iconst X dX11_isSo_56 ?_
      refine A_is2 X dX11_isSo_57 ?_
      refine A_ii3 X dX11_isSo_58 ?_
      refine A_goto (t := 4) X dX11_isSo_61 ?_
      exact ih _ (by
        have e : ¬ soQ (mF fn) (fs 3) fe o k i = true := fun q => by rw [bI_t q] at hs; omega
        rw [bI_f]; simp only [soQ, Bool.and_eq_true, not_and]; exact fun q => absurd q e)
    · refine A_al0 X dX11_isSo_16 ?_
      refine A_al0 X dX11_isSo_17 ?_
      refine A_getf X flX11_32 h_this rfl dX11_isSo_18 ?_
      refine A_iconst X dX11_isSo_21 ?_
      refine A_il3 X dX11_isSo_22 ?_
      refine A_imul X dX11_isSo_23 ?_
      refine A_iald X h_this_seen (by omega) dX11_isSo_24 ?_
      refine A_al0 X dX11_isSo_25 ?_
      refine A_getf X flX11_32 h_this rfl dX11_isSo_26 ?_
      refine A_iconst X dX11_isSo_29 ?_
      refine A_il3 X dX11_isSo_30 ?_
      refine A_imul X dX11_isSo_31 ?_
      refine A_iconst X dX11_isSo_32 ?_
      refine A_iadd X dX11_isSo_33 ?_
      refine A_iald X h_this_seen (by omega) dX11_isSo_34 ?_
      refine A_il1 X dX11_isSo_35 ?_
      refine A_dVi3 X (m_wornBy k hk hok hc (by omega) (by omega) ho h_this h_this_suit h_this_now) h_this knX11_wornBy mlX11_146 dX11_isSo_36 ?_
      refine A_al0 X dX11_isSo_39 ?_
      refine A_getf X flX11_32 h_this rfl dX11_isSo_40 ?_
      refine A_iconst X dX11_isSo_43 ?_
      refine A_il3 X dX11_isSo_44 ?_
      refine A_imul X dX11_isSo_45 ?_
      refine A_iconst X dX11_isSo_46 ?_
      refine A_iadd X dX11_isSo_47 ?_
      refine A_iald X h_this_seen (by omega) dX11_isSo_48 ?_
      refine A_icmp_ne (t := 56) X (by omega) (by omega) dX11_isSo_49 (fun c49 => ?_) (fun c49 => ?_)
      · refine A_iconst X dX11_isSo_56 ?_
        refine A_is2 X dX11_isSo_57 ?_
        refine A_ii3 X dX11_isSo_58 ?_
        refine A_goto (t := 4) X dX11_isSo_61 ?_
        exact ih _ (by rw [bI_f]; simp only [soQ, Bool.and_eq_true, decide_eq_true_eq, not_and]; exact fun _ => c49)
      · refine A_iconst X dX11_isSo_52 ?_
        refine A_goto (t := 57) X dX11_isSo_53 ?_
        refine A_is2 X dX11_isSo_57 ?_
        refine A_ii3 X dX11_isSo_58 ?_
        refine A_goto (t := 4) X dX11_isSo_61 ?_
        exact ih _ (by
          have e : soQ (mF fn) (fs 3) fe o k i = true := Decidable.byContradiction fun q => by rw [bI_f q] at hs; omega
          rw [bI_t]; simp only [soQ, Bool.and_eq_true, decide_eq_true_eq]; exact ⟨e, c49⟩)
set_option maxRecDepth 100000 in
theorem m_asTold {G : aG} {d n : Nat} {h : AH} {tm : Nat} {un sz sm tr ak bg mt : Int} {fs fn fe : Int → Int} (k m : Nat) (hk : fn 6 = (k : Int)) (hm : sm = (m : Int)) (hm6 : m ≤ 6) (hok : nOK fn) (hc : 1 ≤ fs 3 ∧ fs 3 ≤ 6) (he : eOK fe) (h_this : h tm = some (aOb 11 (mO tm un sz sm tr ak bg mt))) (h_this_suit : h (tm + 1) = some (aIa G 32 fs)) (h_this_now : h (tm + 3) = some (aIa G 9 fn)) (h_this_seen : h (tm + 8) = some (aIa G 18 fe)) : aD G (d + 3) kX11_asTold [.ref tm] n h (some (aI (bI (soQ (mF fn) (fs 3) fe (-1) k m = true)))) := by
  refine aCt_of (lv := [some (.ref tm)]) knX11_asTold.1 rfl rfl (Nat.le_of_ble_eq_true rfl) (fun x hG hsc X => ?_)
  subst hG
  refine A_al0 X dX11_asTold_0 ?_
  refine A_iconst X dX11_asTold_1 ?_
  refine A_dVi1 X (m_isSo k m hk hm hm6 hok hc he (by omega) h_this h_this_suit h_this_now h_this_seen) h_this knX11_isSo mlX11_188 dX11_asTold_2 ?_
  refine A_ifb_eq (t := 12) X dX11_asTold_5 (fun c5 => ?_) (fun c5 => ?_)
  · refine A_iconst X dX11_asTold_12 ?_
    exact A_ret X dX11_asTold_13 rfl ⟨bI_0 c5, rfl, rfl⟩
  · refine A_iconst X dX11_asTold_8 ?_
    refine A_goto (t := 13) X dX11_asTold_9 ?_
    exact A_ret X dX11_asTold_13 rfl ⟨bI_1 c5, rfl, rfl⟩
/-- the steps that may be wrong, as bits of a part -/
def wrS (ft : Nat → Int) (c : Int) (fe : Int → Int) (st m : Nat) (part : Int) : Nat → Nat
  | 0 => 0
  | k + 1 => wrS ft c fe st m part k ||| (if 30 * part + (k : Int) < (st : Int) ∧ soQ ft c fe (30 * part + (k : Int)) st m = true then 1 * 2 ^ k else 0)
def qWrong (fs fn fe : Int → Int) (sm part : Int) : Int := if 0 ≤ part ∧ part ≤ 1 then ((wrS (mF fn) (fs 3) fe (fn 6).toNat sm.toNat part 30 : Nat) : Int) else -1
theorem p2k {k : Nat} (h : k ≤ 30) : 2 ^ k ≤ 1073741824 := Nat.pow_le_pow_right (by omega) h
set_option maxRecDepth 100000 in
theorem m_wrong {G : aG} {d n : Nat} {h : AH} {tm : Nat} {un sz sm tr ak bg mt : Int} {fs fn fe : Int → Int} {part : Int} (hp : inR part) (hm6 : 0 ≤ sm ∧ sm ≤ 6) (hok : nOK fn) (hc : 1 ≤ fs 3 ∧ fs 3 ≤ 6) (he : eOK fe) (h_this : h tm = some (aOb 11 (mO tm un sz sm tr ak bg mt))) (h_this_suit : h (tm + 1) = some (aIa G 32 fs)) (h_this_now : h (tm + 3) = some (aIa G 9 fn)) (h_this_seen : h (tm + 8) = some (aIa G 18 fe)) : aD G (d + 3) kX11_wrong [.ref tm, aI part] n h (some (aI (qWrong fs fn fe sm part))) := by
  refine aCt_of (lv := [some (.ref tm), some (aI part), none, none, none]) knX11_wrong.1 rfl rfl (Nat.le_of_ble_eq_true rfl) (fun x hG hsc X => ?_)
  subst hG
  have hk6 := hok.2.1
  obtain ⟨k, hk⟩ := Int.eq_ofNat_of_zero_le hk6.1
  obtain ⟨m, rfl⟩ := Int.eq_ofNat_of_zero_le hm6.1
  have hq : qWrong fs fn fe (m : Int) part = if 0 ≤ part ∧ part ≤ 1 then ((wrS (mF fn) (fs 3) fe k m part 30 : Nat) : Int) else -1 := by
    unfold qWrong
    rw [hk]
    rfl
  rw [hq] at X
  refine A_il1 X dX11_wrong_0 ?_
  refine A_dSi1 X (m_isTwo (by omega)) knX11_isTwo mlX11_119 dX11_wrong_1 ?_
  refine A_ifb_ne (t := 9) X dX11_wrong_4 (fun c4 => ?_) (fun c4 => by exact A_iconst X dX11_wrong_7 (A_ret X dX11_wrong_8 rfl ⟨congrArg (fun t => some (aI t)) (by rw [if_neg c4]), rfl, rfl⟩))
  rw [if_pos c4] at X
  refine A_iconst X dX11_wrong_9 ?_
  refine A_is2 X dX11_wrong_10 ?_
  refine A_iconst X dX11_wrong_11 ?_
  refine A_is3 X dX11_wrong_12 ?_
  refine lp_0 (P := fun i => ∀ (s : Nat) (u : Option Value), lo_c1 [u] = true → s = wrS (mF fn) (fs 3) fe k m part i → AW x 0 0 n h 13 [some (.ref tm), some (aI part), some (aI (s : Int)), some (aI (i : Int)), u] []) 30 ?_ ?_ 0 none rfl rfl
  · intro s u hu hs
    refine A_il3 X dX11_wrong_13 ?_
    refine A_bipush X dX11_wrong_14 ?_
    refine A_icmp_ge (t := 64) X (by omega) (by omega) dX11_wrong_16 (fun c16 => ?_) (fun c16 => by exfalso; omega)
    refine A_il2 X dX11_wrong_64 ?_
    exact A_ret X dX11_wrong_65 rfl ⟨congrArg (fun t => some (aI t)) (by rw [hs]), rfl, rfl⟩
  · intro i hi ih s u hu hs
    refine A_il3 X dX11_wrong_13 ?_
    refine A_bipush X dX11_wrong_14 ?_
    refine A_icmp_ge (t := 64) X (by omega) (by omega) dX11_wrong_16 (fun c16 => by exfalso; omega) (fun c16 => ?_)
    refine A_bipush X dX11_wrong_19 ?_
    refine A_il1 X dX11_wrong_21 ?_
    refine A_imul X dX11_wrong_22 ?_
    refine A_il3 X dX11_wrong_23 ?_
    refine A_iadd X dX11_wrong_24 ?_
    refine A_is4 X dX11_wrong_25 ?_ (hc := by simp only [lo_c1, List.all_cons, List.all_nil, Bool.and_true] at hu ⊢; exact hu)
    refine A_il2 X dX11_wrong_27 ?_
    refine A_il4 X dX11_wrong_28 ?_
    refine A_al0 X dX11_wrong_30 ?_
    refine A_getf X flX11_16 h_this rfl dX11_wrong_31 ?_
    refine A_bipush X dX11_wrong_34 ?_
    refine A_iald X h_this_now (by omega) dX11_wrong_36 ?_
    refine A_icmp_ge (t := 55) X (by omega) (by omega) dX11_wrong_37 (fun c37 => ?_) (fun c37 => ?_)
    · refine A_iconst X dX11_wrong_55 ?_
      refine A_ior X s 0 rfl rfl dX11_wrong_56 ?_
      refine A_is2 X dX11_wrong_57 ?_
      refine A_ii3 X dX11_wrong_58 ?_
      refine A_goto (t := 13) X dX11_wrong_61 ?_
      exact ih _ _ rfl (by rw [hs, wrS, if_neg (fun q => by omega)])
    · refine A_al0 X dX11_wrong_40 ?_
      refine A_il4 X dX11_wrong_41 ?_
      refine A_dVi1 X (m_isSo k m hk rfl (by omega) hok hc he (by omega) h_this h_this_suit h_this_now h_this_seen) h_this knX11_isSo mlX11_188 dX11_wrong_43 ?_
      refine A_ifb_eq (t := 55) X dX11_wrong_46 (fun c46 => ?_) (fun c46 => ?_)
      · refine A_iconst X dX11_wrong_55 ?_
        refine A_ior X s 0 rfl rfl dX11_wrong_56 ?_
        refine A_is2 X dX11_wrong_57 ?_
        refine A_ii3 X dX11_wrong_58 ?_
        refine A_goto (t := 13) X dX11_wrong_61 ?_
        exact ih _ _ rfl (by rw [hs, wrS, if_neg (fun q => c46 q.2)])
      · refine A_iconst X dX11_wrong_49 ?_
        refine A_il3 X dX11_wrong_50 ?_
        refine A_ishl X 1 i rfl rfl (by omega) (by have := p2k (show i ≤ 30 by omega); omega) dX11_wrong_51 ?_
        refine A_goto (t := 56) X dX11_wrong_52 ?_
        refine A_ior X s (1 * 2 ^ i) rfl rfl dX11_wrong_56 ?_
        refine A_is2 X dX11_wrong_57 ?_
        refine A_ii3 X dX11_wrong_58 ?_
        refine A_goto (t := 13) X dX11_wrong_61 ?_
        exact ih _ _ rfl (by rw [hs, wrS, if_pos ⟨by omega, c46⟩])
def qFoot (fn : Int → Int) (i : Int) : Int := if 0 ≤ i ∧ i ≤ fn 6 - 1 then mF fn i.toNat else -1
set_option maxRecDepth 100000 in
theorem m_foot {G : aG} {d n : Nat} {h : AH} {tm : Nat} {un sz sm tr ak bg mt : Int} {fn : Int → Int} {i : Int} (hi : inR i) (hok : nOK fn) (h_this : h tm = some (aOb 11 (mO tm un sz sm tr ak bg mt))) (h_this_now : h (tm + 3) = some (aIa G 9 fn)) : aD G (d + 1) kX11_foot [.ref tm, aI i] n h (some (aI (qFoot fn i))) := by
  refine aCt_of (lv := [some (.ref tm), some (aI i)]) knX11_foot.1 rfl rfl (Nat.le_of_ble_eq_true rfl) (fun x hG hsc X => ?_)
  subst hG
  have hk6 := hok.2.1
  refine A_il1 X dX11_foot_0 ?_
  refine A_i2l X (by omega) dX11_foot_1 ?_
  refine A_lconst (z := 0) X dX11_foot_2 ?_
  refine A_al0 X dX11_foot_3 ?_
  refine A_getf X flX11_16 h_this rfl dX11_foot_4 ?_
  refine A_bipush X dX11_foot_7 ?_
  refine A_iald X h_this_now (by omega) dX11_foot_9 ?_
  refine A_iconst X dX11_foot_10 ?_
  refine A_isub X dX11_foot_11 ?_
  refine A_i2l X (by omega) dX11_foot_12 ?_
  refine A_dSi3 X (m_in (by omega) (by omega) (by omega)) knX11_in mlX11_57 dX11_foot_13 ?_
  refine A_ifb_eq (t := 27) X dX11_foot_16 (fun c16 => ?_) (fun c16 => ?_)
  · refine A_iconst X dX11_foot_27 ?_
    exact A_ret X dX11_foot_28 rfl ⟨congrArg (fun t => some (aI t)) (by rw [qFoot, if_neg c16]), rfl, rfl⟩
  · refine A_al0 X dX11_foot_19 ?_
    refine A_il1 X dX11_foot_20 ?_
    refine A_dVi1 X (m_footOf i.toNat (by omega) (by omega) hok h_this h_this_now) h_this knX11_footOf mlX11_140 dX11_foot_21 ?_
    refine A_goto (t := 28) X dX11_foot_24 ?_
    exact A_ret X dX11_foot_28 rfl ⟨congrArg (fun t => some (aI t)) (by rw [qFoot, if_pos c16]), rfl, rfl⟩
def qWorn (fs fn : Int → Int) (foot cell : Int) : Int := if (0 ≤ foot ∧ foot ≤ 1) ∧ (0 ≤ cell ∧ cell ≤ fs 3 - 1) then wrn (flp (mF fn) (-1)) (fs 3) foot cell (fn 6).toNat else -1
set_option maxRecDepth 100000 in
theorem m_worn {G : aG} {d n : Nat} {h : AH} {tm : Nat} {un sz sm tr ak bg mt : Int} {fs fn : Int → Int} {foot cell : Int} (hf : inR foot) (hce : inR cell) (hok : nOK fn) (hc : 1 ≤ fs 3 ∧ fs 3 ≤ 6) (h_this : h tm = some (aOb 11 (mO tm un sz sm tr ak bg mt))) (h_this_suit : h (tm + 1) = some (aIa G 32 fs)) (h_this_now : h (tm + 3) = some (aIa G 9 fn)) : aD G (d + 2) kX11_worn [.ref tm, aI foot, aI cell] n h (some (aI (qWorn fs fn foot cell))) := by
  refine aCt_of (lv := [some (.ref tm), some (aI foot), some (aI cell)]) knX11_worn.1 rfl rfl (Nat.le_of_ble_eq_true rfl) (fun x hG hsc X => ?_)
  subst hG
  have hk6 := hok.2.1
  refine A_il1 X dX11_worn_0 ?_
  refine A_dSi1 X (m_isTwo (by omega)) knX11_isTwo mlX11_119 dX11_worn_1 ?_
  refine A_ifb_eq (t := 25) X dX11_worn_4 (fun c4 => ?_) (fun c4 => ?_)
  · refine A_iconst X dX11_worn_25 ?_
    exact A_ret X dX11_worn_26 rfl ⟨congrArg (fun t => some (aI t)) (by rw [qWorn, if_neg (fun q => c4 q.1)]), rfl, rfl⟩
  · refine A_al0 X dX11_worn_7 ?_
    refine A_il2 X dX11_worn_8 ?_
    refine A_dVi1 X (m_isCell (by omega) hc h_this h_this_suit) h_this knX11_isCell mlX11_183 dX11_worn_9 ?_
    refine A_ifb_eq (t := 25) X dX11_worn_12 (fun c12 => ?_) (fun c12 => ?_)
    · refine A_iconst X dX11_worn_25 ?_
      exact A_ret X dX11_worn_26 rfl ⟨congrArg (fun t => some (aI t)) (by rw [qWorn, if_neg (fun q => c12 q.2)]), rfl, rfl⟩
    · refine A_al0 X dX11_worn_15 ?_
      refine A_il1 X dX11_worn_16 ?_
      refine A_il2 X dX11_worn_17 ?_
      refine A_iconst X dX11_worn_18 ?_
      refine A_dVi3 X (m_wornBy (fn 6).toNat (by omega) hok hc hf hce (by omega) h_this h_this_suit h_this_now) h_this knX11_wornBy mlX11_146 dX11_worn_19 ?_
      refine A_goto (t := 26) X dX11_worn_22 ?_
      exact A_ret X dX11_worn_26 rfl ⟨congrArg (fun t => some (aI t)) (by rw [qWorn, if_pos ⟨c4, c12⟩]), rfl, rfl⟩
/-- runs of steps -/
abbrev smB (ft : Nat → Int) (i : Nat) : Prop := 0 < i ∧ ft i = ft (i - 1)
def rnL (ft : Nat → Int) : Nat → Int
  | 0 => 0
  | k + 1 => if smB ft k then rnL ft k + 1 else 1
def rnC (ft : Nat → Int) (hp : Int) : Nat → Int
  | 0 => -9
  | k + 1 => if rnC ft hp k = -9 ∧ smB ft k ∧ hp < rnL ft k then (k : Int) else rnC ft hp k
def rnM (ft : Nat → Int) : Nat → Int
  | 0 => 0
  | k + 1 => if rnM ft k < rnL ft (k + 1) then rnL ft (k + 1) else rnM ft k
def rnD (ft : Nat → Int) : Nat → Int
  | 0 => 0
  | k + 1 => rnD ft k + (if 0 < k ∧ ¬ smB ft k then 1 else 0)
theorem rn_b (ft : Nat → Int) (hp : Int) : ∀ k : Nat, (0 ≤ rnL ft k ∧ rnL ft k ≤ (k : Int)) ∧ (-9 ≤ rnC ft hp k ∧ rnC ft hp k ≤ (k : Int)) ∧ (0 ≤ rnM ft k ∧ rnM ft k ≤ (k : Int)) ∧ (0 ≤ rnD ft k ∧ rnD ft k ≤ (k : Int))
  | 0 => by simp [rnL, rnC, rnM, rnD]
  | k + 1 => by
    obtain ⟨h1, h2, h3, h4⟩ := rn_b ft hp k
    have g1 : 0 ≤ rnL ft (k + 1) ∧ rnL ft (k + 1) ≤ ((k + 1 : Nat) : Int) := by unfold rnL; split <;> omega
    refine ⟨g1, ?_, ?_, ?_⟩
    · unfold rnC; split <;> omega
    · unfold rnM; split <;> omega
    · unfold rnD; split <;> omega
def qJudge (fs fn : Int → Int) (w : Int) : Int := if 0 ≤ w ∧ w ≤ 2 then (if w = 0 then rnC (mF fn) (fs 2) (fn 6).toNat else if w = 1 then rnM (mF fn) (fn 6).toNat else rnD (mF fn) (fn 6).toNat) else -1
set_option maxRecDepth 100000 in
theorem m_judge {G : aG} {d n : Nat} {h : AH} {tm : Nat} {un sz sm tr ak bg mt : Int} {fs fn : Int → Int} {w : Int} (hw : inR w) (hok : nOK fn) (hc : 0 ≤ fs 2 ∧ fs 2 ≤ 3) (h_this : h tm = some (aOb 11 (mO tm un sz sm tr ak bg mt))) (h_this_suit : h (tm + 1) = some (aIa G 32 fs)) (h_this_now : h (tm + 3) = some (aIa G 9 fn)) : aD G (d + 1) kX11_judge [.ref tm, aI w] n h (some (aI (qJudge fs fn w))) := by
  refine aCt_of (lv := [some (.ref tm), some (aI w), none, none, none, none, none, none]) knX11_judge.1 rfl rfl (Nat.le_of_ble_eq_true rfl) (fun x hG hsc X => ?_)
  subst hG
  have hk6 := hok.2.1
  obtain ⟨k, hk⟩ := Int.eq_ofNat_of_zero_le hk6.1
  have hkn : (fn 6).toNat = k := by omega
  refine A_il1 X dX11_judge_0 ?_
  refine A_i2l X (by omega) dX11_judge_1 ?_
  refine A_lconst (z := 0) X dX11_judge_2 ?_
  refine A_ldc2 (z := 2) X kcX11_117 dX11_judge_3 ?_
  refine A_dSi3 X (m_in (by omega) (by omega) (by omega)) knX11_in mlX11_57 dX11_judge_6 ?_
  refine A_ifb_ne (t := 14) X dX11_judge_9 (fun c9 => ?_) (fun c9 => by exact A_iconst X dX11_judge_12 (A_ret X dX11_judge_13 rfl ⟨congrArg (fun t => some (aI t)) (by rw [qJudge, if_neg c9]), rfl, rfl⟩))
  rw [qJudge, if_pos c9, hkn] at X
  refine A_bipush X dX11_judge_14 ?_
  refine A_is2 X dX11_judge_16 ?_
  refine A_iconst X dX11_judge_17 ?_
  refine A_is3 X dX11_judge_18 ?_
  refine A_iconst X dX11_judge_19 ?_
  refine A_is4 X dX11_judge_20 ?_
  refine A_iconst X dX11_judge_22 ?_
  refine A_is5 X dX11_judge_23 ?_
  refine A_iconst X dX11_judge_25 ?_
  refine A_is6 X dX11_judge_26 ?_
  refine lp_0 (P := fun i => ∀ (a b c e : Int) (u : Option Value), lo_c1 [u] = true → a = rnC (mF fn) (fs 2) i → b = rnM (mF fn) i → c = rnD (mF fn) i → e = rnL (mF fn) i → AW x 0 0 n h 28 [some (.ref tm), some (aI w), some (aI a), some (aI b), some (aI c), some (aI e), some (aI (i : Int)), u] []) k ?_ ?_ (-9) 0 0 0 none rfl rfl rfl rfl rfl
  · intro a b c e u hu ha hb hc2 he
    refine A_il6 X dX11_judge_28 ?_
    refine A_al0 X dX11_judge_30 ?_
    refine A_getf X flX11_16 h_this rfl dX11_judge_31 ?_
    refine A_bipush X dX11_judge_34 ?_
    refine A_iald X h_this_now (by omega) dX11_judge_36 ?_
    refine A_icmp_ge (t := 152) X (by omega) (by omega) dX11_judge_37 (fun c37 => ?_) (fun c37 => by exfalso; omega)
    refine A_il1 X dX11_judge_152 ?_
    refine A_if_ne (t := 160) X (by omega) dX11_judge_153 (fun c153 => ?_) (fun c153 => ?_)
    · refine A_il1 X dX11_judge_160 ?_
      refine A_iconst X dX11_judge_161 ?_
      refine A_icmp_ne (t := 169) X (by omega) (by omega) dX11_judge_162 (fun c162 => ?_) (fun c162 => ?_)
      · refine A_il4 X dX11_judge_169 ?_
        exact A_ret X dX11_judge_171 rfl ⟨congrArg (fun t => some (aI t)) (by rw [if_neg (by omega), if_neg c162, hc2]), rfl, rfl⟩
      · refine A_il3 X dX11_judge_165 ?_
        refine A_goto (t := 171) X dX11_judge_166 ?_
        exact A_ret X dX11_judge_171 rfl ⟨congrArg (fun t => some (aI t)) (by rw [if_neg (by omega), if_pos c162, hb]), rfl, rfl⟩
    · refine A_il2 X dX11_judge_156 ?_
      refine A_goto (t := 171) X dX11_judge_157 ?_
      exact A_ret X dX11_judge_171 rfl ⟨congrArg (fun t => some (aI t)) (by rw [if_pos c153, ha]), rfl, rfl⟩
  · intro i hi ih a b c e u hu ha hb hc2 he
    obtain ⟨b1, b2, b3, b4⟩ := rn_b (mF fn) (fs 2) i
    have hf1 := mF_b fn i
    have hf2 := mF_b fn (i - 1)
    refine A_il6 X dX11_judge_28 ?_
    refine A_al0 X dX11_judge_30 ?_
    refine A_getf X flX11_16 h_this rfl dX11_judge_31 ?_
    refine A_bipush X dX11_judge_34 ?_
    refine A_iald X h_this_now (by omega) dX11_judge_36 ?_
    refine A_icmp_ge (t := 152) X (by omega) (by omega) dX11_judge_37 (fun c37 => by exfalso; omega) (fun c37 => ?_)
    refine A_il6 X dX11_judge_40 ?_
    refine A_if_le (t := 66) X (by omega) dX11_judge_42 (fun c42 => ?_) (fun c42 => ?_)
    · refine A_iconst X dX11_judge_66 ?_
      refine A_is7 X dX11_judge_67 ?_ (hc := by simp only [lo_c1, List.all_cons, List.all_nil, Bool.and_true] at hu ⊢; exact hu)
      refine A_il2 X dX11_judge_69 ?_
      refine A_bipush X dX11_judge_70 ?_
      refine A_icmp_ne (t := 96) X (by omega) (by omega) dX11_judge_72 (fun c72 => ?_) (fun c72 => ?_)
      · refine A_il2 X dX11_judge_96 ?_
        refine A_is2 X dX11_judge_97 ?_
        refine A_il7 X dX11_judge_98 ?_
        refine A_if_eq (t := 110) X (by omega) dX11_judge_100 (fun c100 => ?_) (fun c100 => by exfalso; omega)
        refine A_iconst X dX11_judge_110 ?_
        refine A_is5 X dX11_judge_111 ?_
        refine A_il5 X dX11_judge_113 ?_
        refine A_il3 X dX11_judge_115 ?_
        refine A_icmp_le (t := 124) X (by omega) (by omega) dX11_judge_116 (fun c116 => ?_) (fun c116 => ?_)
        · refine A_il3 X dX11_judge_124 ?_
          refine A_is3 X dX11_judge_125 ?_
          refine A_il4 X dX11_judge_126 ?_
          refine A_il6 X dX11_judge_128 ?_
          refine A_if_le (t := 142) X (by omega) dX11_judge_130 (fun c130 => ?_) (fun c130 => ?_)
          · refine A_iconst X dX11_judge_142 ?_
            refine A_iadd X dX11_judge_143 ?_
            refine A_is4 X dX11_judge_144 ?_
            refine A_ii6 X dX11_judge_146 ?_
            refine A_goto (t := 28) X dX11_judge_149 ?_
            exact ih _ _ _ _ _ rfl (by simp only [rnC]; (repeat' split) <;> omega) (by simp only [rnM, rnL]; (repeat' split) <;> omega) (by simp only [rnD]; (repeat' split) <;> omega) (by simp only [rnL]; (repeat' split) <;> omega)
          · refine A_il7 X dX11_judge_133 ?_
            refine A_if_ne (t := 142) X (by omega) dX11_judge_135 (fun c135 => by exfalso; omega) (fun c135 => ?_)
            refine A_iconst X dX11_judge_138 ?_
            refine A_goto (t := 143) X dX11_judge_139 ?_
            refine A_iadd X dX11_judge_143 ?_
            refine A_is4 X dX11_judge_144 ?_
            refine A_ii6 X dX11_judge_146 ?_
            refine A_goto (t := 28) X dX11_judge_149 ?_
            exact ih _ _ _ _ _ rfl (by simp only [rnC]; (repeat' split) <;> omega) (by simp only [rnM, rnL]; (repeat' split) <;> omega) (by simp only [rnD]; (repeat' split) <;> omega) (by simp only [rnL]; (repeat' split) <;> omega)
        · refine A_il5 X dX11_judge_119 ?_
          refine A_goto (t := 125) X dX11_judge_121 ?_
          refine A_is3 X dX11_judge_125 ?_
          refine A_il4 X dX11_judge_126 ?_
          refine A_il6 X dX11_judge_128 ?_
          refine A_if_le (t := 142) X (by omega) dX11_judge_130 (fun c130 => ?_) (fun c130 => ?_)
          · refine A_iconst X dX11_judge_142 ?_
            refine A_iadd X dX11_judge_143 ?_
            refine A_is4 X dX11_judge_144 ?_
            refine A_ii6 X dX11_judge_146 ?_
            refine A_goto (t := 28) X dX11_judge_149 ?_
            exact ih _ _ _ _ _ rfl (by simp only [rnC]; (repeat' split) <;> omega) (by simp only [rnM, rnL]; (repeat' split) <;> omega) (by simp only [rnD]; (repeat' split) <;> omega) (by simp only [rnL]; (repeat' split) <;> omega)
          · refine A_il7 X dX11_judge_133 ?_
            refine A_if_ne (t := 142) X (by omega) dX11_judge_135 (fun c135 => by exfalso; omega) (fun c135 => ?_)
            refine A_iconst X dX11_judge_138 ?_
            refine A_goto (t := 143) X dX11_judge_139 ?_
            refine A_iadd X dX11_judge_143 ?_
            refine A_is4 X dX11_judge_144 ?_
            refine A_ii6 X dX11_judge_146 ?_
            refine A_goto (t := 28) X dX11_judge_149 ?_
            exact ih _ _ _ _ _ rfl (by simp only [rnC]; (repeat' split) <;> omega) (by simp only [rnM, rnL]; (repeat' split) <;> omega) (by simp only [rnD]; (repeat' split) <;> omega) (by simp only [rnL]; (repeat' split) <;> omega)
      · refine A_il7 X dX11_judge_75 ?_
        refine A_if_eq (t := 96) X (by omega) dX11_judge_77 (fun c77 => ?_) (fun c77 => by exfalso; omega)
        refine A_il2 X dX11_judge_96 ?_
        refine A_is2 X dX11_judge_97 ?_
        refine A_il7 X dX11_judge_98 ?_
        refine A_if_eq (t := 110) X (by omega) dX11_judge_100 (fun c100 => ?_) (fun c100 => by exfalso; omega)
        refine A_iconst X dX11_judge_110 ?_
        refine A_is5 X dX11_judge_111 ?_
        refine A_il5 X dX11_judge_113 ?_
        refine A_il3 X dX11_judge_115 ?_
        refine A_icmp_le (t := 124) X (by omega) (by omega) dX11_judge_116 (fun c116 => ?_) (fun c116 => ?_)
        · refine A_il3 X dX11_judge_124 ?_
          refine A_is3 X dX11_judge_125 ?_
          refine A_il4 X dX11_judge_126 ?_
          refine A_il6 X dX11_judge_128 ?_
          refine A_if_le (t := 142) X (by omega) dX11_judge_130 (fun c130 => ?_) (fun c130 => ?_)
          · refine A_iconst X dX11_judge_142 ?_
            refine A_iadd X dX11_judge_143 ?_
            refine A_is4 X dX11_judge_144 ?_
            refine A_ii6 X dX11_judge_146 ?_
            refine A_goto (t := 28) X dX11_judge_149 ?_
            exact ih _ _ _ _ _ rfl (by simp only [rnC]; (repeat' split) <;> omega) (by simp only [rnM, rnL]; (repeat' split) <;> omega) (by simp only [rnD]; (repeat' split) <;> omega) (by simp only [rnL]; (repeat' split) <;> omega)
          · refine A_il7 X dX11_judge_133 ?_
            refine A_if_ne (t := 142) X (by omega) dX11_judge_135 (fun c135 => by exfalso; omega) (fun c135 => ?_)
            refine A_iconst X dX11_judge_138 ?_
            refine A_goto (t := 143) X dX11_judge_139 ?_
            refine A_iadd X dX11_judge_143 ?_
            refine A_is4 X dX11_judge_144 ?_
            refine A_ii6 X dX11_judge_146 ?_
            refine A_goto (t := 28) X dX11_judge_149 ?_
            exact ih _ _ _ _ _ rfl (by simp only [rnC]; (repeat' split) <;> omega) (by simp only [rnM, rnL]; (repeat' split) <;> omega) (by simp only [rnD]; (repeat' split) <;> omega) (by simp only [rnL]; (repeat' split) <;> omega)
        · refine A_il5 X dX11_judge_119 ?_
          refine A_goto (t := 125) X dX11_judge_121 ?_
          refine A_is3 X dX11_judge_125 ?_
          refine A_il4 X dX11_judge_126 ?_
          refine A_il6 X dX11_judge_128 ?_
          refine A_if_le (t := 142) X (by omega) dX11_judge_130 (fun c130 => ?_) (fun c130 => ?_)
          · refine A_iconst X dX11_judge_142 ?_
            refine A_iadd X dX11_judge_143 ?_
            refine A_is4 X dX11_judge_144 ?_
            refine A_ii6 X dX11_judge_146 ?_
            refine A_goto (t := 28) X dX11_judge_149 ?_
            exact ih _ _ _ _ _ rfl (by simp only [rnC]; (repeat' split) <;> omega) (by simp only [rnM, rnL]; (repeat' split) <;> omega) (by simp only [rnD]; (repeat' split) <;> omega) (by simp only [rnL]; (repeat' split) <;> omega)
          · refine A_il7 X dX11_judge_133 ?_
            refine A_if_ne (t := 142) X (by omega) dX11_judge_135 (fun c135 => by exfalso; omega) (fun c135 => ?_)
            refine A_iconst X dX11_judge_138 ?_
            refine A_goto (t := 143) X dX11_judge_139 ?_
            refine A_iadd X dX11_judge_143 ?_
            refine A_is4 X dX11_judge_144 ?_
            refine A_ii6 X dX11_judge_146 ?_
            refine A_goto (t := 28) X dX11_judge_149 ?_
            exact ih _ _ _ _ _ rfl (by simp only [rnC]; (repeat' split) <;> omega) (by simp only [rnM, rnL]; (repeat' split) <;> omega) (by simp only [rnD]; (repeat' split) <;> omega) (by simp only [rnL]; (repeat' split) <;> omega)
    · refine A_al0 X dX11_judge_45 ?_
      refine A_il6 X dX11_judge_46 ?_
      refine A_dVi1 X (m_footOf i rfl (by omega) hok h_this h_this_now) h_this knX11_footOf mlX11_140 dX11_judge_48 ?_
      refine A_al0 X dX11_judge_51 ?_
      refine A_il6 X dX11_judge_52 ?_
      refine A_iconst X dX11_judge_54 ?_
      refine A_isub X dX11_judge_55 ?_
      refine A_dVi1 X (m_footOf (i - 1) (by omega) (by omega) hok h_this h_this_now) h_this knX11_footOf mlX11_140 dX11_judge_56 ?_
      refine A_icmp_ne (t := 66) X (by omega) (by omega) dX11_judge_59 (fun c59 => ?_) (fun c59 => ?_)
      · refine A_iconst X dX11_judge_66 ?_
        refine A_is7 X dX11_judge_67 ?_ (hc := by simp only [lo_c1, List.all_cons, List.all_nil, Bool.and_true] at hu ⊢; exact hu)
        refine A_il2 X dX11_judge_69 ?_
        refine A_bipush X dX11_judge_70 ?_
        refine A_icmp_ne (t := 96) X (by omega) (by omega) dX11_judge_72 (fun c72 => ?_) (fun c72 => ?_)
        · refine A_il2 X dX11_judge_96 ?_
          refine A_is2 X dX11_judge_97 ?_
          refine A_il7 X dX11_judge_98 ?_
          refine A_if_eq (t := 110) X (by omega) dX11_judge_100 (fun c100 => ?_) (fun c100 => by exfalso; omega)
          refine A_iconst X dX11_judge_110 ?_
          refine A_is5 X dX11_judge_111 ?_
          refine A_il5 X dX11_judge_113 ?_
          refine A_il3 X dX11_judge_115 ?_
          refine A_icmp_le (t := 124) X (by omega) (by omega) dX11_judge_116 (fun c116 => ?_) (fun c116 => ?_)
          · refine A_il3 X dX11_judge_124 ?_
            refine A_is3 X dX11_judge_125 ?_
            refine A_il4 X dX11_judge_126 ?_
            refine A_il6 X dX11_judge_128 ?_
            refine A_if_le (t := 142) X (by omega) dX11_judge_130 (fun c130 => ?_) (fun c130 => ?_)
            · refine A_iconst X dX11_judge_142 ?_
              refine A_iadd X dX11_judge_143 ?_
              refine A_is4 X dX11_judge_144 ?_
              refine A_ii6 X dX11_judge_146 ?_
              refine A_goto (t := 28) X dX11_judge_149 ?_
              exact ih _ _ _ _ _ rfl (by simp only [rnC]; (repeat' split) <;> omega) (by simp only [rnM, rnL]; (repeat' split) <;> omega) (by simp only [rnD]; (repeat' split) <;> omega) (by simp only [rnL]; (repeat' split) <;> omega)
            · refine A_il7 X dX11_judge_133 ?_
              refine A_if_ne (t := 142) X (by omega) dX11_judge_135 (fun c135 => by exfalso; omega) (fun c135 => ?_)
              refine A_iconst X dX11_judge_138 ?_
              refine A_goto (t := 143) X dX11_judge_139 ?_
              refine A_iadd X dX11_judge_143 ?_
              refine A_is4 X dX11_judge_144 ?_
              refine A_ii6 X dX11_judge_146 ?_
              refine A_goto (t := 28) X dX11_judge_149 ?_
              exact ih _ _ _ _ _ rfl (by simp only [rnC]; (repeat' split) <;> omega) (by simp only [rnM, rnL]; (repeat' split) <;> omega) (by simp only [rnD]; (repeat' split) <;> omega) (by simp only [rnL]; (repeat' split) <;> omega)
          · refine A_il5 X dX11_judge_119 ?_
            refine A_goto (t := 125) X dX11_judge_121 ?_
            refine A_is3 X dX11_judge_125 ?_
            refine A_il4 X dX11_judge_126 ?_
            refine A_il6 X dX11_judge_128 ?_
            refine A_if_le (t := 142) X (by omega) dX11_judge_130 (fun c130 => ?_) (fun c130 => ?_)
            · refine A_iconst X dX11_judge_142 ?_
              refine A_iadd X dX11_judge_143 ?_
              refine A_is4 X dX11_judge_144 ?_
              refine A_ii6 X dX11_judge_146 ?_
              refine A_goto (t := 28) X dX11_judge_149 ?_
              exact ih _ _ _ _ _ rfl (by simp only [rnC]; (repeat' split) <;> omega) (by simp only [rnM, rnL]; (repeat' split) <;> omega) (by simp only [rnD]; (repeat' split) <;> omega) (by simp only [rnL]; (repeat' split) <;> omega)
            · refine A_il7 X dX11_judge_133 ?_
              refine A_if_ne (t := 142) X (by omega) dX11_judge_135 (fun c135 => by exfalso; omega) (fun c135 => ?_)
              refine A_iconst X dX11_judge_138 ?_
              refine A_goto (t := 143) X dX11_judge_139 ?_
              refine A_iadd X dX11_judge_143 ?_
              refine A_is4 X dX11_judge_144 ?_
              refine A_ii6 X dX11_judge_146 ?_
              refine A_goto (t := 28) X dX11_judge_149 ?_
              exact ih _ _ _ _ _ rfl (by simp only [rnC]; (repeat' split) <;> omega) (by simp only [rnM, rnL]; (repeat' split) <;> omega) (by simp only [rnD]; (repeat' split) <;> omega) (by simp only [rnL]; (repeat' split) <;> omega)
        · refine A_il7 X dX11_judge_75 ?_
          refine A_if_eq (t := 96) X (by omega) dX11_judge_77 (fun c77 => ?_) (fun c77 => by exfalso; omega)
          refine A_il2 X dX11_judge_96 ?_
          refine A_is2 X dX11_judge_97 ?_
          refine A_il7 X dX11_judge_98 ?_
          refine A_if_eq (t := 110) X (by omega) dX11_judge_100 (fun c100 => ?_) (fun c100 => by exfalso; omega)
          refine A_iconst X dX11_judge_110 ?_
          refine A_is5 X dX11_judge_111 ?_
          refine A_il5 X dX11_judge_113 ?_
          refine A_il3 X dX11_judge_115 ?_
          refine A_icmp_le (t := 124) X (by omega) (by omega) dX11_judge_116 (fun c116 => ?_) (fun c116 => ?_)
          · refine A_il3 X dX11_judge_124 ?_
            refine A_is3 X dX11_judge_125 ?_
            refine A_il4 X dX11_judge_126 ?_
            refine A_il6 X dX11_judge_128 ?_
            refine A_if_le (t := 142) X (by omega) dX11_judge_130 (fun c130 => ?_) (fun c130 => ?_)
            · refine A_iconst X dX11_judge_142 ?_
              refine A_iadd X dX11_judge_143 ?_
              refine A_is4 X dX11_judge_144 ?_
              refine A_ii6 X dX11_judge_146 ?_
              refine A_goto (t := 28) X dX11_judge_149 ?_
              exact ih _ _ _ _ _ rfl (by simp only [rnC]; (repeat' split) <;> omega) (by simp only [rnM, rnL]; (repeat' split) <;> omega) (by simp only [rnD]; (repeat' split) <;> omega) (by simp only [rnL]; (repeat' split) <;> omega)
            · refine A_il7 X dX11_judge_133 ?_
              refine A_if_ne (t := 142) X (by omega) dX11_judge_135 (fun c135 => by exfalso; omega) (fun c135 => ?_)
              refine A_iconst X dX11_judge_138 ?_
              refine A_goto (t := 143) X dX11_judge_139 ?_
              refine A_iadd X dX11_judge_143 ?_
              refine A_is4 X dX11_judge_144 ?_
              refine A_ii6 X dX11_judge_146 ?_
              refine A_goto (t := 28) X dX11_judge_149 ?_
              exact ih _ _ _ _ _ rfl (by simp only [rnC]; (repeat' split) <;> omega) (by simp only [rnM, rnL]; (repeat' split) <;> omega) (by simp only [rnD]; (repeat' split) <;> omega) (by simp only [rnL]; (repeat' split) <;> omega)
          · refine A_il5 X dX11_judge_119 ?_
            refine A_goto (t := 125) X dX11_judge_121 ?_
            refine A_is3 X dX11_judge_125 ?_
            refine A_il4 X dX11_judge_126 ?_
            refine A_il6 X dX11_judge_128 ?_
            refine A_if_le (t := 142) X (by omega) dX11_judge_130 (fun c130 => ?_) (fun c130 => ?_)
            · refine A_iconst X dX11_judge_142 ?_
              refine A_iadd X dX11_judge_143 ?_
              refine A_is4 X dX11_judge_144 ?_
              refine A_ii6 X dX11_judge_146 ?_
              refine A_goto (t := 28) X dX11_judge_149 ?_
              exact ih _ _ _ _ _ rfl (by simp only [rnC]; (repeat' split) <;> omega) (by simp only [rnM, rnL]; (repeat' split) <;> omega) (by simp only [rnD]; (repeat' split) <;> omega) (by simp only [rnL]; (repeat' split) <;> omega)
            · refine A_il7 X dX11_judge_133 ?_
              refine A_if_ne (t := 142) X (by omega) dX11_judge_135 (fun c135 => by exfalso; omega) (fun c135 => ?_)
              refine A_iconst X dX11_judge_138 ?_
              refine A_goto (t := 143) X dX11_judge_139 ?_
              refine A_iadd X dX11_judge_143 ?_
              refine A_is4 X dX11_judge_144 ?_
              refine A_ii6 X dX11_judge_146 ?_
              refine A_goto (t := 28) X dX11_judge_149 ?_
              exact ih _ _ _ _ _ rfl (by simp only [rnC]; (repeat' split) <;> omega) (by simp only [rnM, rnL]; (repeat' split) <;> omega) (by simp only [rnD]; (repeat' split) <;> omega) (by simp only [rnL]; (repeat' split) <;> omega)
      · refine A_iconst X dX11_judge_62 ?_
        refine A_goto (t := 67) X dX11_judge_63 ?_
        refine A_is7 X dX11_judge_67 ?_ (hc := by simp only [lo_c1, List.all_cons, List.all_nil, Bool.and_true] at hu ⊢; exact hu)
        refine A_il2 X dX11_judge_69 ?_
        refine A_bipush X dX11_judge_70 ?_
        refine A_icmp_ne (t := 96) X (by omega) (by omega) dX11_judge_72 (fun c72 => ?_) (fun c72 => ?_)
        · refine A_il2 X dX11_judge_96 ?_
          refine A_is2 X dX11_judge_97 ?_
          refine A_il7 X dX11_judge_98 ?_
          refine A_if_eq (t := 110) X (by omega) dX11_judge_100 (fun c100 => by exfalso; omega) (fun c100 => ?_)
          refine A_il5 X dX11_judge_103 ?_
          refine A_iconst X dX11_judge_105 ?_
          refine A_iadd X dX11_judge_106 ?_
          refine A_goto (t := 111) X dX11_judge_107 ?_
          refine A_is5 X dX11_judge_111 ?_
          refine A_il5 X dX11_judge_113 ?_
          refine A_il3 X dX11_judge_115 ?_
          refine A_icmp_le (t := 124) X (by omega) (by omega) dX11_judge_116 (fun c116 => ?_) (fun c116 => ?_)
          · refine A_il3 X dX11_judge_124 ?_
            refine A_is3 X dX11_judge_125 ?_
            refine A_il4 X dX11_judge_126 ?_
            refine A_il6 X dX11_judge_128 ?_
            refine A_if_le (t := 142) X (by omega) dX11_judge_130 (fun c130 => ?_) (fun c130 => ?_)
            · refine A_iconst X dX11_judge_142 ?_
              refine A_iadd X dX11_judge_143 ?_
              refine A_is4 X dX11_judge_144 ?_
              refine A_ii6 X dX11_judge_146 ?_
              refine A_goto (t := 28) X dX11_judge_149 ?_
              exact ih _ _ _ _ _ rfl (by simp only [rnC]; (repeat' split) <;> omega) (by simp only [rnM, rnL]; (repeat' split) <;> omega) (by simp only [rnD]; (repeat' split) <;> omega) (by simp only [rnL]; (repeat' split) <;> omega)
            · refine A_il7 X dX11_judge_133 ?_
              refine A_if_ne (t := 142) X (by omega) dX11_judge_135 (fun c135 => ?_) (fun c135 => by exfalso; omega)
              refine A_iconst X dX11_judge_142 ?_
              refine A_iadd X dX11_judge_143 ?_
              refine A_is4 X dX11_judge_144 ?_
              refine A_ii6 X dX11_judge_146 ?_
              refine A_goto (t := 28) X dX11_judge_149 ?_
              exact ih _ _ _ _ _ rfl (by simp only [rnC]; (repeat' split) <;> omega) (by simp only [rnM, rnL]; (repeat' split) <;> omega) (by simp only [rnD]; (repeat' split) <;> omega) (by simp only [rnL]; (repeat' split) <;> omega)
          · refine A_il5 X dX11_judge_119 ?_
            refine A_goto (t := 125) X dX11_judge_121 ?_
            refine A_is3 X dX11_judge_125 ?_
            refine A_il4 X dX11_judge_126 ?_
            refine A_il6 X dX11_judge_128 ?_
            refine A_if_le (t := 142) X (by omega) dX11_judge_130 (fun c130 => ?_) (fun c130 => ?_)
            · refine A_iconst X dX11_judge_142 ?_
              refine A_iadd X dX11_judge_143 ?_
              refine A_is4 X dX11_judge_144 ?_
              refine A_ii6 X dX11_judge_146 ?_
              refine A_goto (t := 28) X dX11_judge_149 ?_
              exact ih _ _ _ _ _ rfl (by simp only [rnC]; (repeat' split) <;> omega) (by simp only [rnM, rnL]; (repeat' split) <;> omega) (by simp only [rnD]; (repeat' split) <;> omega) (by simp only [rnL]; (repeat' split) <;> omega)
            · refine A_il7 X dX11_judge_133 ?_
              refine A_if_ne (t := 142) X (by omega) dX11_judge_135 (fun c135 => ?_) (fun c135 => by exfalso; omega)
              refine A_iconst X dX11_judge_142 ?_
              refine A_iadd X dX11_judge_143 ?_
              refine A_is4 X dX11_judge_144 ?_
              refine A_ii6 X dX11_judge_146 ?_
              refine A_goto (t := 28) X dX11_judge_149 ?_
              exact ih _ _ _ _ _ rfl (by simp only [rnC]; (repeat' split) <;> omega) (by simp only [rnM, rnL]; (repeat' split) <;> omega) (by simp only [rnD]; (repeat' split) <;> omega) (by simp only [rnL]; (repeat' split) <;> omega)
        · refine A_il7 X dX11_judge_75 ?_
          refine A_if_eq (t := 96) X (by omega) dX11_judge_77 (fun c77 => by exfalso; omega) (fun c77 => ?_)
          refine A_il5 X dX11_judge_80 ?_
          refine A_al0 X dX11_judge_82 ?_
          refine A_getf X flX11_7 h_this rfl dX11_judge_83 ?_
          refine A_iconst X dX11_judge_86 ?_
          refine A_iald X h_this_suit (by omega) dX11_judge_87 ?_
          refine A_icmp_le (t := 96) X (by omega) (by omega) dX11_judge_88 (fun c88 => ?_) (fun c88 => ?_)
          · refine A_il2 X dX11_judge_96 ?_
            refine A_is2 X dX11_judge_97 ?_
            refine A_il7 X dX11_judge_98 ?_
            refine A_if_eq (t := 110) X (by omega) dX11_judge_100 (fun c100 => by exfalso; omega) (fun c100 => ?_)
            refine A_il5 X dX11_judge_103 ?_
            refine A_iconst X dX11_judge_105 ?_
            refine A_iadd X dX11_judge_106 ?_
            refine A_goto (t := 111) X dX11_judge_107 ?_
            refine A_is5 X dX11_judge_111 ?_
            refine A_il5 X dX11_judge_113 ?_
            refine A_il3 X dX11_judge_115 ?_
            refine A_icmp_le (t := 124) X (by omega) (by omega) dX11_judge_116 (fun c116 => ?_) (fun c116 => ?_)
            · refine A_il3 X dX11_judge_124 ?_
              refine A_is3 X dX11_judge_125 ?_
              refine A_il4 X dX11_judge_126 ?_
              refine A_il6 X dX11_judge_128 ?_
              refine A_if_le (t := 142) X (by omega) dX11_judge_130 (fun c130 => ?_) (fun c130 => ?_)
              · refine A_iconst X dX11_judge_142 ?_
                refine A_iadd X dX11_judge_143 ?_
                refine A_is4 X dX11_judge_144 ?_
                refine A_ii6 X dX11_judge_146 ?_
                refine A_goto (t := 28) X dX11_judge_149 ?_
                exact ih _ _ _ _ _ rfl (by simp only [rnC]; (repeat' split) <;> omega) (by simp only [rnM, rnL]; (repeat' split) <;> omega) (by simp only [rnD]; (repeat' split) <;> omega) (by simp only [rnL]; (repeat' split) <;> omega)
              · refine A_il7 X dX11_judge_133 ?_
                refine A_if_ne (t := 142) X (by omega) dX11_judge_135 (fun c135 => ?_) (fun c135 => by exfalso; omega)
                refine A_iconst X dX11_judge_142 ?_
                refine A_iadd X dX11_judge_143 ?_
                refine A_is4 X dX11_judge_144 ?_
                refine A_ii6 X dX11_judge_146 ?_
                refine A_goto (t := 28) X dX11_judge_149 ?_
                exact ih _ _ _ _ _ rfl (by simp only [rnC]; (repeat' split) <;> omega) (by simp only [rnM, rnL]; (repeat' split) <;> omega) (by simp only [rnD]; (repeat' split) <;> omega) (by simp only [rnL]; (repeat' split) <;> omega)
            · refine A_il5 X dX11_judge_119 ?_
              refine A_goto (t := 125) X dX11_judge_121 ?_
              refine A_is3 X dX11_judge_125 ?_
              refine A_il4 X dX11_judge_126 ?_
              refine A_il6 X dX11_judge_128 ?_
              refine A_if_le (t := 142) X (by omega) dX11_judge_130 (fun c130 => ?_) (fun c130 => ?_)
              · refine A_iconst X dX11_judge_142 ?_
                refine A_iadd X dX11_judge_143 ?_
                refine A_is4 X dX11_judge_144 ?_
                refine A_ii6 X dX11_judge_146 ?_
                refine A_goto (t := 28) X dX11_judge_149 ?_
                exact ih _ _ _ _ _ rfl (by simp only [rnC]; (repeat' split) <;> omega) (by simp only [rnM, rnL]; (repeat' split) <;> omega) (by simp only [rnD]; (repeat' split) <;> omega) (by simp only [rnL]; (repeat' split) <;> omega)
              · refine A_il7 X dX11_judge_133 ?_
                refine A_if_ne (t := 142) X (by omega) dX11_judge_135 (fun c135 => ?_) (fun c135 => by exfalso; omega)
                refine A_iconst X dX11_judge_142 ?_
                refine A_iadd X dX11_judge_143 ?_
                refine A_is4 X dX11_judge_144 ?_
                refine A_ii6 X dX11_judge_146 ?_
                refine A_goto (t := 28) X dX11_judge_149 ?_
                exact ih _ _ _ _ _ rfl (by simp only [rnC]; (repeat' split) <;> omega) (by simp only [rnM, rnL]; (repeat' split) <;> omega) (by simp only [rnD]; (repeat' split) <;> omega) (by simp only [rnL]; (repeat' split) <;> omega)
          · refine A_il6 X dX11_judge_91 ?_
            refine A_goto (t := 97) X dX11_judge_93 ?_
            refine A_is2 X dX11_judge_97 ?_
            refine A_il7 X dX11_judge_98 ?_
            refine A_if_eq (t := 110) X (by omega) dX11_judge_100 (fun c100 => by exfalso; omega) (fun c100 => ?_)
            refine A_il5 X dX11_judge_103 ?_
            refine A_iconst X dX11_judge_105 ?_
            refine A_iadd X dX11_judge_106 ?_
            refine A_goto (t := 111) X dX11_judge_107 ?_
            refine A_is5 X dX11_judge_111 ?_
            refine A_il5 X dX11_judge_113 ?_
            refine A_il3 X dX11_judge_115 ?_
            refine A_icmp_le (t := 124) X (by omega) (by omega) dX11_judge_116 (fun c116 => ?_) (fun c116 => ?_)
            · refine A_il3 X dX11_judge_124 ?_
              refine A_is3 X dX11_judge_125 ?_
              refine A_il4 X dX11_judge_126 ?_
              refine A_il6 X dX11_judge_128 ?_
              refine A_if_le (t := 142) X (by omega) dX11_judge_130 (fun c130 => ?_) (fun c130 => ?_)
              · refine A_iconst X dX11_judge_142 ?_
                refine A_iadd X dX11_judge_143 ?_
                refine A_is4 X dX11_judge_144 ?_
                refine A_ii6 X dX11_judge_146 ?_
                refine A_goto (t := 28) X dX11_judge_149 ?_
                exact ih _ _ _ _ _ rfl (by simp only [rnC]; (repeat' split) <;> omega) (by simp only [rnM, rnL]; (repeat' split) <;> omega) (by simp only [rnD]; (repeat' split) <;> omega) (by simp only [rnL]; (repeat' split) <;> omega)
              · refine A_il7 X dX11_judge_133 ?_
                refine A_if_ne (t := 142) X (by omega) dX11_judge_135 (fun c135 => ?_) (fun c135 => by exfalso; omega)
                refine A_iconst X dX11_judge_142 ?_
                refine A_iadd X dX11_judge_143 ?_
                refine A_is4 X dX11_judge_144 ?_
                refine A_ii6 X dX11_judge_146 ?_
                refine A_goto (t := 28) X dX11_judge_149 ?_
                exact ih _ _ _ _ _ rfl (by simp only [rnC]; (repeat' split) <;> omega) (by simp only [rnM, rnL]; (repeat' split) <;> omega) (by simp only [rnD]; (repeat' split) <;> omega) (by simp only [rnL]; (repeat' split) <;> omega)
            · refine A_il5 X dX11_judge_119 ?_
              refine A_goto (t := 125) X dX11_judge_121 ?_
              refine A_is3 X dX11_judge_125 ?_
              refine A_il4 X dX11_judge_126 ?_
              refine A_il6 X dX11_judge_128 ?_
              refine A_if_le (t := 142) X (by omega) dX11_judge_130 (fun c130 => ?_) (fun c130 => ?_)
              · refine A_iconst X dX11_judge_142 ?_
                refine A_iadd X dX11_judge_143 ?_
                refine A_is4 X dX11_judge_144 ?_
                refine A_ii6 X dX11_judge_146 ?_
                refine A_goto (t := 28) X dX11_judge_149 ?_
                exact ih _ _ _ _ _ rfl (by simp only [rnC]; (repeat' split) <;> omega) (by simp only [rnM, rnL]; (repeat' split) <;> omega) (by simp only [rnD]; (repeat' split) <;> omega) (by simp only [rnL]; (repeat' split) <;> omega)
              · refine A_il7 X dX11_judge_133 ?_
                refine A_if_ne (t := 142) X (by omega) dX11_judge_135 (fun c135 => ?_) (fun c135 => by exfalso; omega)
                refine A_iconst X dX11_judge_142 ?_
                refine A_iadd X dX11_judge_143 ?_
                refine A_is4 X dX11_judge_144 ?_
                refine A_ii6 X dX11_judge_146 ?_
                refine A_goto (t := 28) X dX11_judge_149 ?_
                exact ih _ _ _ _ _ rfl (by simp only [rnC]; (repeat' split) <;> omega) (by simp only [rnM, rnL]; (repeat' split) <;> omega) (by simp only [rnD]; (repeat' split) <;> omega) (by simp only [rnL]; (repeat' split) <;> omega)
end
