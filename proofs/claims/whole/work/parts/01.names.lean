-- ===== PART A: goes FIRST, ahead of the names: the tables' words, and 'selects' of the private methods out of them =====
/-- a private method of a class that the tables say can be made, by its rows of tables_1 -/
def lw_okq (q : MethodName × Nat) : Prop := (q.1.cls ≠ "java/lang/invoke/MethodHandle" ∧ q.1.cls ≠ "java/lang/invoke/VarHandle") ∧ Cond.instantiable q.1.cls q.2 ∈ tables_1 ∧ Cond.privateMethod q.1 ∈ tables_1 ∧ Cond.instanceMethod q.1 ∈ tables_1
theorem lw_p0 : lw_okq (⟨"ShoesAtLaw", "beginAnew", "()V"⟩, 15) := ⟨⟨by decide +kernel, by decide +kernel⟩, List.mem_of_getElem? (i := 17) (by decide +kernel), List.mem_of_getElem? (i := 193) (by decide +kernel), List.mem_of_getElem? (i := 194) (by decide +kernel)⟩
theorem lw_p1 : lw_okq (⟨"ShoesAtLaw$Reader", "nextToken", "()V"⟩, 8) := ⟨⟨by decide +kernel, by decide +kernel⟩, List.mem_of_getElem? (i := 25) (by decide +kernel), List.mem_of_getElem? (i := 281) (by decide +kernel), List.mem_of_getElem? (i := 282) (by decide +kernel)⟩
theorem lw_p2 : lw_okq (⟨"ShoesAtLaw$Reader", "letterAt", "(I)I"⟩, 8) := ⟨⟨by decide +kernel, by decide +kernel⟩, List.mem_of_getElem? (i := 25) (by decide +kernel), List.mem_of_getElem? (i := 285) (by decide +kernel), List.mem_of_getElem? (i := 286) (by decide +kernel)⟩
theorem lw_p3 : lw_okq (⟨"ShoesAtLaw$Reader", "takeNumber", "()V"⟩, 8) := ⟨⟨by decide +kernel, by decide +kernel⟩, List.mem_of_getElem? (i := 25) (by decide +kernel), List.mem_of_getElem? (i := 292) (by decide +kernel), List.mem_of_getElem? (i := 293) (by decide +kernel)⟩
theorem lw_p4 : lw_okq (⟨"ShoesAtLaw$Reader", "readGood", "(LShoesAtLaw$Suit;)Z"⟩, 8) := ⟨⟨by decide +kernel, by decide +kernel⟩, List.mem_of_getElem? (i := 25) (by decide +kernel), List.mem_of_getElem? (i := 299) (by decide +kernel), List.mem_of_getElem? (i := 300) (by decide +kernel)⟩
theorem lw_p5 : lw_okq (⟨"ShoesAtLaw$Reader", "nextNumber", "(II)Z"⟩, 8) := ⟨⟨by decide +kernel, by decide +kernel⟩, List.mem_of_getElem? (i := 25) (by decide +kernel), List.mem_of_getElem? (i := 303) (by decide +kernel), List.mem_of_getElem? (i := 304) (by decide +kernel)⟩
theorem lw_p6 : lw_okq (⟨"ShoesAtLaw$Reader", "nextEnds", "()Z"⟩, 8) := ⟨⟨by decide +kernel, by decide +kernel⟩, List.mem_of_getElem? (i := 25) (by decide +kernel), List.mem_of_getElem? (i := 311) (by decide +kernel), List.mem_of_getElem? (i := 312) (by decide +kernel)⟩
theorem lw_p7 : lw_okq (⟨"ShoesAtLaw$Reader", "readPair", "(LShoesAtLaw$Suit;)Z"⟩, 8) := ⟨⟨by decide +kernel, by decide +kernel⟩, List.mem_of_getElem? (i := 25) (by decide +kernel), List.mem_of_getElem? (i := 315) (by decide +kernel), List.mem_of_getElem? (i := 316) (by decide +kernel)⟩
theorem lw_p8 : lw_okq (⟨"ShoesAtLaw$Reader", "readHops", "(LShoesAtLaw$Suit;)Z"⟩, 8) := ⟨⟨by decide +kernel, by decide +kernel⟩, List.mem_of_getElem? (i := 25) (by decide +kernel), List.mem_of_getElem? (i := 323) (by decide +kernel), List.mem_of_getElem? (i := 324) (by decide +kernel)⟩
theorem lw_p9 : lw_okq (⟨"ShoesAtLaw$Reader", "readCells", "(LShoesAtLaw$Suit;)Z"⟩, 8) := ⟨⟨by decide +kernel, by decide +kernel⟩, List.mem_of_getElem? (i := 25) (by decide +kernel), List.mem_of_getElem? (i := 327) (by decide +kernel), List.mem_of_getElem? (i := 328) (by decide +kernel)⟩
theorem lw_p10 : lw_okq (⟨"ShoesAtLaw$Suit", "moreOf", "(II)I"⟩, 8) := ⟨⟨by decide +kernel, by decide +kernel⟩, List.mem_of_getElem? (i := 58) (by decide +kernel), List.mem_of_getElem? (i := 350) (by decide +kernel), List.mem_of_getElem? (i := 351) (by decide +kernel)⟩
theorem lw_p11 : lw_okq (⟨"ShoesAtLaw", "isGood", "(I)Z"⟩, 15) := ⟨⟨by decide +kernel, by decide +kernel⟩, List.mem_of_getElem? (i := 17) (by decide +kernel), List.mem_of_getElem? (i := 358) (by decide +kernel), List.mem_of_getElem? (i := 359) (by decide +kernel)⟩
theorem lw_p12 : lw_okq (⟨"ShoesAtLaw", "remember", "(I)V"⟩, 15) := ⟨⟨by decide +kernel, by decide +kernel⟩, List.mem_of_getElem? (i := 17) (by decide +kernel), List.mem_of_getElem? (i := 393) (by decide +kernel), List.mem_of_getElem? (i := 394) (by decide +kernel)⟩
theorem lw_p13 : lw_okq (⟨"ShoesAtLaw", "envyOf", "(I)I"⟩, 15) := ⟨⟨by decide +kernel, by decide +kernel⟩, List.mem_of_getElem? (i := 17) (by decide +kernel), List.mem_of_getElem? (i := 436) (by decide +kernel), List.mem_of_getElem? (i := 437) (by decide +kernel)⟩
theorem lw_p14 : lw_okq (⟨"ShoesAtLaw", "ownValue", "(I)I"⟩, 15) := ⟨⟨by decide +kernel, by decide +kernel⟩, List.mem_of_getElem? (i := 17) (by decide +kernel), List.mem_of_getElem? (i := 440) (by decide +kernel), List.mem_of_getElem? (i := 441) (by decide +kernel)⟩
theorem lw_p15 : lw_okq (⟨"ShoesAtLaw$Partings", "isFair", "(LShoesAtLaw$Suit;I)Z"⟩, 6) := ⟨⟨by decide +kernel, by decide +kernel⟩, List.mem_of_getElem? (i := 123) (by decide +kernel), List.mem_of_getElem? (i := 456) (by decide +kernel), List.mem_of_getElem? (i := 457) (by decide +kernel)⟩
def lw_privs_1 : List (MethodName × Nat) := [(⟨"ShoesAtLaw", "beginAnew", "()V"⟩, 15), (⟨"ShoesAtLaw$Reader", "nextToken", "()V"⟩, 8), (⟨"ShoesAtLaw$Reader", "letterAt", "(I)I"⟩, 8), (⟨"ShoesAtLaw$Reader", "takeNumber", "()V"⟩, 8), (⟨"ShoesAtLaw$Reader", "readGood", "(LShoesAtLaw$Suit;)Z"⟩, 8), (⟨"ShoesAtLaw$Reader", "nextNumber", "(II)Z"⟩, 8), (⟨"ShoesAtLaw$Reader", "nextEnds", "()Z"⟩, 8), (⟨"ShoesAtLaw$Reader", "readPair", "(LShoesAtLaw$Suit;)Z"⟩, 8), (⟨"ShoesAtLaw$Reader", "readHops", "(LShoesAtLaw$Suit;)Z"⟩, 8), (⟨"ShoesAtLaw$Reader", "readCells", "(LShoesAtLaw$Suit;)Z"⟩, 8), (⟨"ShoesAtLaw$Suit", "moreOf", "(II)I"⟩, 8), (⟨"ShoesAtLaw", "isGood", "(I)Z"⟩, 15), (⟨"ShoesAtLaw", "remember", "(I)V"⟩, 15), (⟨"ShoesAtLaw", "envyOf", "(I)I"⟩, 15), (⟨"ShoesAtLaw", "ownValue", "(I)I"⟩, 15), (⟨"ShoesAtLaw$Partings", "isFair", "(LShoesAtLaw$Suit;I)Z"⟩, 6)]
theorem lw_r1 : ∀ q ∈ lw_privs_1, lw_okq q := List.forall_mem_cons.mpr ⟨lw_p0, List.forall_mem_cons.mpr ⟨lw_p1, List.forall_mem_cons.mpr ⟨lw_p2, List.forall_mem_cons.mpr ⟨lw_p3, List.forall_mem_cons.mpr ⟨lw_p4, List.forall_mem_cons.mpr ⟨lw_p5, List.forall_mem_cons.mpr ⟨lw_p6, List.forall_mem_cons.mpr ⟨lw_p7, List.forall_mem_cons.mpr ⟨lw_p8, List.forall_mem_cons.mpr ⟨lw_p9, List.forall_mem_cons.mpr ⟨lw_p10, List.forall_mem_cons.mpr ⟨lw_p11, List.forall_mem_cons.mpr ⟨lw_p12, List.forall_mem_cons.mpr ⟨lw_p13, List.forall_mem_cons.mpr ⟨lw_p14, List.forall_mem_cons.mpr ⟨lw_p15, fun _ h => absurd h List.not_mem_nil⟩⟩⟩⟩⟩⟩⟩⟩⟩⟩⟩⟩⟩⟩⟩⟩
theorem lw_p16 : lw_okq (⟨"ShoesAtLaw$Partings", "lead", "(LShoesAtLaw$Suit;II)I"⟩, 6) := ⟨⟨by decide +kernel, by decide +kernel⟩, List.mem_of_getElem? (i := 123) (by decide +kernel), List.mem_of_getElem? (i := 460) (by decide +kernel), List.mem_of_getElem? (i := 461) (by decide +kernel)⟩
theorem lw_p17 : lw_okq (⟨"ShoesAtLaw$Partings", "listOthersFair", "(LShoesAtLaw$Suit;I)V"⟩, 6) := ⟨⟨by decide +kernel, by decide +kernel⟩, List.mem_of_getElem? (i := 123) (by decide +kernel), List.mem_of_getElem? (i := 513) (by decide +kernel), List.mem_of_getElem? (i := 514) (by decide +kernel)⟩
theorem lw_p18 : lw_okq (⟨"ShoesAtLaw$Partings", "ownInBestTold", "(II)I"⟩, 6) := ⟨⟨by decide +kernel, by decide +kernel⟩, List.mem_of_getElem? (i := 123) (by decide +kernel), List.mem_of_getElem? (i := 517) (by decide +kernel), List.mem_of_getElem? (i := 518) (by decide +kernel)⟩
theorem lw_p19 : lw_okq (⟨"ShoesAtLaw", "isCell", "(I)Z"⟩, 15) := ⟨⟨by decide +kernel, by decide +kernel⟩, List.mem_of_getElem? (i := 17) (by decide +kernel), List.mem_of_getElem? (i := 566) (by decide +kernel), List.mem_of_getElem? (i := 567) (by decide +kernel)⟩
theorem lw_p20 : lw_okq (⟨"ShoesAtLaw$Now", "changesAt", "(I)Z"⟩, 4) := ⟨⟨by decide +kernel, by decide +kernel⟩, List.mem_of_getElem? (i := 103) (by decide +kernel), List.mem_of_getElem? (i := 578) (by decide +kernel), List.mem_of_getElem? (i := 579) (by decide +kernel)⟩
theorem lw_p21 : lw_okq (⟨"ShoesAtLaw", "agrees", "(II)Z"⟩, 15) := ⟨⟨by decide +kernel, by decide +kernel⟩, List.mem_of_getElem? (i := 17) (by decide +kernel), List.mem_of_getElem? (i := 603) (by decide +kernel), List.mem_of_getElem? (i := 604) (by decide +kernel)⟩
theorem lw_p22 : lw_okq (⟨"ShoesAtLaw", "canBeWalked", "(II)Z"⟩, 15) := ⟨⟨by decide +kernel, by decide +kernel⟩, List.mem_of_getElem? (i := 17) (by decide +kernel), List.mem_of_getElem? (i := 615) (by decide +kernel), List.mem_of_getElem? (i := 616) (by decide +kernel)⟩
theorem lw_p23 : lw_okq (⟨"ShoesAtLaw", "imageOf", "(I)LShoesAtLaw$Now;"⟩, 15) := ⟨⟨by decide +kernel, by decide +kernel⟩, List.mem_of_getElem? (i := 17) (by decide +kernel), List.mem_of_getElem? (i := 663) (by decide +kernel), List.mem_of_getElem? (i := 664) (by decide +kernel)⟩
theorem lw_p24 : lw_okq (⟨"ShoesAtLawModel", "begins", "()V"⟩, 20) := ⟨⟨by decide +kernel, by decide +kernel⟩, List.mem_of_getElem? (i := 684) (by decide +kernel), List.mem_of_getElem? (i := 693) (by decide +kernel), List.mem_of_getElem? (i := 694) (by decide +kernel)⟩
theorem lw_p25 : lw_okq (⟨"ShoesAtLawModel", "first", "()I"⟩, 20) := ⟨⟨by decide +kernel, by decide +kernel⟩, List.mem_of_getElem? (i := 684) (by decide +kernel), List.mem_of_getElem? (i := 775) (by decide +kernel), List.mem_of_getElem? (i := 776) (by decide +kernel)⟩
theorem lw_p26 : lw_okq (⟨"ShoesAtLawModel", "takesItem", "(I)Z"⟩, 20) := ⟨⟨by decide +kernel, by decide +kernel⟩, List.mem_of_getElem? (i := 684) (by decide +kernel), List.mem_of_getElem? (i := 779) (by decide +kernel), List.mem_of_getElem? (i := 780) (by decide +kernel)⟩
theorem lw_p27 : lw_okq (⟨"ShoesAtLawModel", "takesGood", "()Z"⟩, 20) := ⟨⟨by decide +kernel, by decide +kernel⟩, List.mem_of_getElem? (i := 684) (by decide +kernel), List.mem_of_getElem? (i := 783) (by decide +kernel), List.mem_of_getElem? (i := 784) (by decide +kernel)⟩
theorem lw_p28 : lw_okq (⟨"ShoesAtLawModel", "number", "(III)Z"⟩, 20) := ⟨⟨by decide +kernel, by decide +kernel⟩, List.mem_of_getElem? (i := 684) (by decide +kernel), List.mem_of_getElem? (i := 787) (by decide +kernel), List.mem_of_getElem? (i := 788) (by decide +kernel)⟩
theorem lw_p29 : lw_okq (⟨"ShoesAtLawModel", "ends", "()Z"⟩, 20) := ⟨⟨by decide +kernel, by decide +kernel⟩, List.mem_of_getElem? (i := 684) (by decide +kernel), List.mem_of_getElem? (i := 793) (by decide +kernel), List.mem_of_getElem? (i := 794) (by decide +kernel)⟩
theorem lw_p30 : lw_okq (⟨"ShoesAtLawModel", "takesPair", "()Z"⟩, 20) := ⟨⟨by decide +kernel, by decide +kernel⟩, List.mem_of_getElem? (i := 684) (by decide +kernel), List.mem_of_getElem? (i := 797) (by decide +kernel), List.mem_of_getElem? (i := 798) (by decide +kernel)⟩
theorem lw_p31 : lw_okq (⟨"ShoesAtLawModel", "takesOne", "(III)Z"⟩, 20) := ⟨⟨by decide +kernel, by decide +kernel⟩, List.mem_of_getElem? (i := 684) (by decide +kernel), List.mem_of_getElem? (i := 801) (by decide +kernel), List.mem_of_getElem? (i := 802) (by decide +kernel)⟩
def lw_privs_2 : List (MethodName × Nat) := [(⟨"ShoesAtLaw$Partings", "lead", "(LShoesAtLaw$Suit;II)I"⟩, 6), (⟨"ShoesAtLaw$Partings", "listOthersFair", "(LShoesAtLaw$Suit;I)V"⟩, 6), (⟨"ShoesAtLaw$Partings", "ownInBestTold", "(II)I"⟩, 6), (⟨"ShoesAtLaw", "isCell", "(I)Z"⟩, 15), (⟨"ShoesAtLaw$Now", "changesAt", "(I)Z"⟩, 4), (⟨"ShoesAtLaw", "agrees", "(II)Z"⟩, 15), (⟨"ShoesAtLaw", "canBeWalked", "(II)Z"⟩, 15), (⟨"ShoesAtLaw", "imageOf", "(I)LShoesAtLaw$Now;"⟩, 15), (⟨"ShoesAtLawModel", "begins", "()V"⟩, 20), (⟨"ShoesAtLawModel", "first", "()I"⟩, 20), (⟨"ShoesAtLawModel", "takesItem", "(I)Z"⟩, 20), (⟨"ShoesAtLawModel", "takesGood", "()Z"⟩, 20), (⟨"ShoesAtLawModel", "number", "(III)Z"⟩, 20), (⟨"ShoesAtLawModel", "ends", "()Z"⟩, 20), (⟨"ShoesAtLawModel", "takesPair", "()Z"⟩, 20), (⟨"ShoesAtLawModel", "takesOne", "(III)Z"⟩, 20)]
theorem lw_r2 : ∀ q ∈ lw_privs_2, lw_okq q := List.forall_mem_cons.mpr ⟨lw_p16, List.forall_mem_cons.mpr ⟨lw_p17, List.forall_mem_cons.mpr ⟨lw_p18, List.forall_mem_cons.mpr ⟨lw_p19, List.forall_mem_cons.mpr ⟨lw_p20, List.forall_mem_cons.mpr ⟨lw_p21, List.forall_mem_cons.mpr ⟨lw_p22, List.forall_mem_cons.mpr ⟨lw_p23, List.forall_mem_cons.mpr ⟨lw_p24, List.forall_mem_cons.mpr ⟨lw_p25, List.forall_mem_cons.mpr ⟨lw_p26, List.forall_mem_cons.mpr ⟨lw_p27, List.forall_mem_cons.mpr ⟨lw_p28, List.forall_mem_cons.mpr ⟨lw_p29, List.forall_mem_cons.mpr ⟨lw_p30, List.forall_mem_cons.mpr ⟨lw_p31, fun _ h => absurd h List.not_mem_nil⟩⟩⟩⟩⟩⟩⟩⟩⟩⟩⟩⟩⟩⟩⟩⟩
theorem lw_p32 : lw_okq (⟨"ShoesAtLawModel", "isGood", "(I)Z"⟩, 20) := ⟨⟨by decide +kernel, by decide +kernel⟩, List.mem_of_getElem? (i := 684) (by decide +kernel), List.mem_of_getElem? (i := 812) (by decide +kernel), List.mem_of_getElem? (i := 813) (by decide +kernel)⟩
theorem lw_p33 : lw_okq (⟨"ShoesAtLawModel", "all", "()I"⟩, 20) := ⟨⟨by decide +kernel, by decide +kernel⟩, List.mem_of_getElem? (i := 684) (by decide +kernel), List.mem_of_getElem? (i := 824) (by decide +kernel), List.mem_of_getElem? (i := 825) (by decide +kernel)⟩
theorem lw_p34 : lw_okq (⟨"ShoesAtLawModel", "valued", "(II)I"⟩, 20) := ⟨⟨by decide +kernel, by decide +kernel⟩, List.mem_of_getElem? (i := 684) (by decide +kernel), List.mem_of_getElem? (i := 828) (by decide +kernel), List.mem_of_getElem? (i := 829) (by decide +kernel)⟩
theorem lw_p35 : lw_okq (⟨"ShoesAtLawModel", "goodsOf", "(I)I"⟩, 20) := ⟨⟨by decide +kernel, by decide +kernel⟩, List.mem_of_getElem? (i := 684) (by decide +kernel), List.mem_of_getElem? (i := 836) (by decide +kernel), List.mem_of_getElem? (i := 837) (by decide +kernel)⟩
theorem lw_p36 : lw_okq (⟨"ShoesAtLawModel", "remember", "()V"⟩, 20) := ⟨⟨by decide +kernel, by decide +kernel⟩, List.mem_of_getElem? (i := 684) (by decide +kernel), List.mem_of_getElem? (i := 844) (by decide +kernel), List.mem_of_getElem? (i := 845) (by decide +kernel)⟩
theorem lw_p37 : lw_okq (⟨"ShoesAtLawModel", "stepsOf", "(I)I"⟩, 20) := ⟨⟨by decide +kernel, by decide +kernel⟩, List.mem_of_getElem? (i := 684) (by decide +kernel), List.mem_of_getElem? (i := 855) (by decide +kernel), List.mem_of_getElem? (i := 856) (by decide +kernel)⟩
theorem lw_p38 : lw_okq (⟨"ShoesAtLawModel", "footOf", "(I)I"⟩, 20) := ⟨⟨by decide +kernel, by decide +kernel⟩, List.mem_of_getElem? (i := 684) (by decide +kernel), List.mem_of_getElem? (i := 859) (by decide +kernel), List.mem_of_getElem? (i := 860) (by decide +kernel)⟩
theorem lw_p39 : lw_okq (⟨"ShoesAtLawModel", "wornBy", "(III)I"⟩, 20) := ⟨⟨by decide +kernel, by decide +kernel⟩, List.mem_of_getElem? (i := 684) (by decide +kernel), List.mem_of_getElem? (i := 863) (by decide +kernel), List.mem_of_getElem? (i := 864) (by decide +kernel)⟩
theorem lw_p40 : lw_okq (⟨"ShoesAtLawModel", "envyBy", "(III)I"⟩, 20) := ⟨⟨by decide +kernel, by decide +kernel⟩, List.mem_of_getElem? (i := 684) (by decide +kernel), List.mem_of_getElem? (i := 875) (by decide +kernel), List.mem_of_getElem? (i := 876) (by decide +kernel)⟩
theorem lw_p41 : lw_okq (⟨"ShoesAtLawModel", "isFair", "(I)Z"⟩, 20) := ⟨⟨by decide +kernel, by decide +kernel⟩, List.mem_of_getElem? (i := 684) (by decide +kernel), List.mem_of_getElem? (i := 884) (by decide +kernel), List.mem_of_getElem? (i := 885) (by decide +kernel)⟩
theorem lw_p42 : lw_okq (⟨"ShoesAtLawModel", "best", "(Z)I"⟩, 20) := ⟨⟨by decide +kernel, by decide +kernel⟩, List.mem_of_getElem? (i := 684) (by decide +kernel), List.mem_of_getElem? (i := 888) (by decide +kernel), List.mem_of_getElem? (i := 889) (by decide +kernel)⟩
theorem lw_p43 : lw_okq (⟨"ShoesAtLawModel", "together", "(I)I"⟩, 20) := ⟨⟨by decide +kernel, by decide +kernel⟩, List.mem_of_getElem? (i := 684) (by decide +kernel), List.mem_of_getElem? (i := 892) (by decide +kernel), List.mem_of_getElem? (i := 893) (by decide +kernel)⟩
theorem lw_p44 : lw_okq (⟨"ShoesAtLawModel", "layTurns", "(I)V"⟩, 20) := ⟨⟨by decide +kernel, by decide +kernel⟩, List.mem_of_getElem? (i := 684) (by decide +kernel), List.mem_of_getElem? (i := 904) (by decide +kernel), List.mem_of_getElem? (i := 905) (by decide +kernel)⟩
theorem lw_p45 : lw_okq (⟨"ShoesAtLawModel", "layTake", "(III)V"⟩, 20) := ⟨⟨by decide +kernel, by decide +kernel⟩, List.mem_of_getElem? (i := 684) (by decide +kernel), List.mem_of_getElem? (i := 911) (by decide +kernel), List.mem_of_getElem? (i := 912) (by decide +kernel)⟩
theorem lw_p46 : lw_okq (⟨"ShoesAtLawModel", "gains", "(III)I"⟩, 20) := ⟨⟨by decide +kernel, by decide +kernel⟩, List.mem_of_getElem? (i := 684) (by decide +kernel), List.mem_of_getElem? (i := 919) (by decide +kernel), List.mem_of_getElem? (i := 920) (by decide +kernel)⟩
theorem lw_p47 : lw_okq (⟨"ShoesAtLawModel", "isCell", "(I)Z"⟩, 20) := ⟨⟨by decide +kernel, by decide +kernel⟩, List.mem_of_getElem? (i := 684) (by decide +kernel), List.mem_of_getElem? (i := 945) (by decide +kernel), List.mem_of_getElem? (i := 946) (by decide +kernel)⟩
def lw_privs_3 : List (MethodName × Nat) := [(⟨"ShoesAtLawModel", "isGood", "(I)Z"⟩, 20), (⟨"ShoesAtLawModel", "all", "()I"⟩, 20), (⟨"ShoesAtLawModel", "valued", "(II)I"⟩, 20), (⟨"ShoesAtLawModel", "goodsOf", "(I)I"⟩, 20), (⟨"ShoesAtLawModel", "remember", "()V"⟩, 20), (⟨"ShoesAtLawModel", "stepsOf", "(I)I"⟩, 20), (⟨"ShoesAtLawModel", "footOf", "(I)I"⟩, 20), (⟨"ShoesAtLawModel", "wornBy", "(III)I"⟩, 20), (⟨"ShoesAtLawModel", "envyBy", "(III)I"⟩, 20), (⟨"ShoesAtLawModel", "isFair", "(I)Z"⟩, 20), (⟨"ShoesAtLawModel", "best", "(Z)I"⟩, 20), (⟨"ShoesAtLawModel", "together", "(I)I"⟩, 20), (⟨"ShoesAtLawModel", "layTurns", "(I)V"⟩, 20), (⟨"ShoesAtLawModel", "layTake", "(III)V"⟩, 20), (⟨"ShoesAtLawModel", "gains", "(III)I"⟩, 20), (⟨"ShoesAtLawModel", "isCell", "(I)Z"⟩, 20)]
theorem lw_r3 : ∀ q ∈ lw_privs_3, lw_okq q := List.forall_mem_cons.mpr ⟨lw_p32, List.forall_mem_cons.mpr ⟨lw_p33, List.forall_mem_cons.mpr ⟨lw_p34, List.forall_mem_cons.mpr ⟨lw_p35, List.forall_mem_cons.mpr ⟨lw_p36, List.forall_mem_cons.mpr ⟨lw_p37, List.forall_mem_cons.mpr ⟨lw_p38, List.forall_mem_cons.mpr ⟨lw_p39, List.forall_mem_cons.mpr ⟨lw_p40, List.forall_mem_cons.mpr ⟨lw_p41, List.forall_mem_cons.mpr ⟨lw_p42, List.forall_mem_cons.mpr ⟨lw_p43, List.forall_mem_cons.mpr ⟨lw_p44, List.forall_mem_cons.mpr ⟨lw_p45, List.forall_mem_cons.mpr ⟨lw_p46, List.forall_mem_cons.mpr ⟨lw_p47, fun _ h => absurd h List.not_mem_nil⟩⟩⟩⟩⟩⟩⟩⟩⟩⟩⟩⟩⟩⟩⟩⟩
theorem lw_p48 : lw_okq (⟨"ShoesAtLawModel", "isSo", "(I)Z"⟩, 20) := ⟨⟨by decide +kernel, by decide +kernel⟩, List.mem_of_getElem? (i := 684) (by decide +kernel), List.mem_of_getElem? (i := 966) (by decide +kernel), List.mem_of_getElem? (i := 967) (by decide +kernel)⟩
theorem lw_p49 : lw_okq (⟨"ShoesAtLawModel", "goes", "(II)V"⟩, 20) := ⟨⟨by decide +kernel, by decide +kernel⟩, List.mem_of_getElem? (i := 684) (by decide +kernel), List.mem_of_getElem? (i := 982) (by decide +kernel), List.mem_of_getElem? (i := 983) (by decide +kernel)⟩
theorem lw_p50 : lw_okq (⟨"ShoesAtLawModel", "anyOf", "(II)Z"⟩, 20) := ⟨⟨by decide +kernel, by decide +kernel⟩, List.mem_of_getElem? (i := 684) (by decide +kernel), List.mem_of_getElem? (i := 986) (by decide +kernel), List.mem_of_getElem? (i := 987) (by decide +kernel)⟩
def lw_privs_4 : List (MethodName × Nat) := [(⟨"ShoesAtLawModel", "isSo", "(I)Z"⟩, 20), (⟨"ShoesAtLawModel", "goes", "(II)V"⟩, 20), (⟨"ShoesAtLawModel", "anyOf", "(II)Z"⟩, 20)]
theorem lw_r4 : ∀ q ∈ lw_privs_4, lw_okq q := List.forall_mem_cons.mpr ⟨lw_p48, List.forall_mem_cons.mpr ⟨lw_p49, List.forall_mem_cons.mpr ⟨lw_p50, fun _ h => absurd h List.not_mem_nil⟩⟩⟩
def lw_privs : List (MethodName × Nat) := lw_privs_1 ++ (lw_privs_2 ++ (lw_privs_3 ++ (lw_privs_4)))
def lw_tbl : List Cond := k2_sels lw_privs ++ tables_1
theorem lw_privs_ok : ∀ q ∈ lw_privs, lw_okq q := by
  show ∀ q ∈ lw_privs_1 ++ (lw_privs_2 ++ (lw_privs_3 ++ (lw_privs_4))), lw_okq q
  exact List.forall_mem_append.mpr ⟨lw_r1, List.forall_mem_append.mpr ⟨lw_r2, List.forall_mem_append.mpr ⟨lw_r3, lw_r4⟩⟩⟩

def RX0 : String := "ShoesAtLaw$Cobbler"
def TX0 : u_T := fun k => match k with
  | _ => ("", "", "", false)
def tyX0 : Nat → FieldType := fun k => match k with
  | _ => .int
abbrev wsX00 : List Cond := u_ws RX0 TX0 0
theorem nmX0 : ∀ a, a < 0 → ∀ b, b < 0 → a ≠ b → (TX0 a).2.1 ≠ (TX0 b).2.1 := by decide +kernel
theorem tyX0_ok : ∀ k, k < 0 → parseFieldDescriptor (TX0 k).2.2.1 = some (tyX0 k) := by decide +kernel
abbrev cX0_init : ByteArray := prog_2_method_1_code
def yX0_init : MethodName := ⟨RX0, "<init>", "()V"⟩
abbrev cX0_verdict : ByteArray := prog_2_method_2_code
def yX0_verdict : MethodName := ⟨RX0, "verdict", "(LShoesAtLaw;I)I"⟩
def RX1 : String := "ShoesAtLaw$Judge"
def TX1 : u_T := fun k => match k with
  | _ => ("", "", "", false)
def tyX1 : Nat → FieldType := fun k => match k with
  | _ => .int
abbrev wsX10 : List Cond := u_ws RX1 TX1 0
theorem nmX1 : ∀ a, a < 0 → ∀ b, b < 0 → a ≠ b → (TX1 a).2.1 ≠ (TX1 b).2.1 := by decide +kernel
theorem tyX1_ok : ∀ k, k < 0 → parseFieldDescriptor (TX1 k).2.2.1 = some (tyX1 k) := by decide +kernel
abbrev cX1_init : ByteArray := prog_3_method_1_code
def yX1_init : MethodName := ⟨RX1, "<init>", "()V"⟩
abbrev cX1_verdict : ByteArray := prog_3_method_2_code
def yX1_verdict : MethodName := ⟨RX1, "verdict", "(LShoesAtLaw;I)I"⟩
def RX2 : String := "ShoesAtLaw$Master"
def TX2 : u_T := fun k => match k with
  | _ => ("", "", "", false)
def tyX2 : Nat → FieldType := fun k => match k with
  | _ => .int
abbrev wsX20 : List Cond := u_ws RX2 TX2 0
theorem nmX2 : ∀ a, a < 0 → ∀ b, b < 0 → a ≠ b → (TX2 a).2.1 ≠ (TX2 b).2.1 := by decide +kernel
theorem tyX2_ok : ∀ k, k < 0 → parseFieldDescriptor (TX2 k).2.2.1 = some (tyX2 k) := by decide +kernel
abbrev cX2_init : ByteArray := prog_4_method_1_code
def yX2_init : MethodName := ⟨RX2, "<init>", "()V"⟩
abbrev cX2_verdict : ByteArray := prog_4_method_2_code
def yX2_verdict : MethodName := ⟨RX2, "verdict", "(LShoesAtLaw;I)I"⟩
def RX3 : String := "ShoesAtLaw$Now"
def TX3 : u_T := fun k => match k with
  | 0 => ("ShoesAtLaw$Now", "owner", "[I", true)
  | 1 => ("ShoesAtLaw$Now", "feet", "[I", true)
  | 2 => ("ShoesAtLaw$Now", "stepCount", "I", false)
  | _ => ("ShoesAtLaw$Now", "filled", "Z", false)
def tyX3 : Nat → FieldType := fun k => match k with
  | 0 => .array .int
  | 1 => .array .int
  | 2 => .int
  | _ => .boolean
abbrev wsX30 : List Cond := u_ws RX3 TX3 4
theorem nmX3 : ∀ a, a < 4 → ∀ b, b < 4 → a ≠ b → (TX3 a).2.1 ≠ (TX3 b).2.1 := by decide +kernel
theorem tyX3_ok : ∀ k, k < 4 → parseFieldDescriptor (TX3 k).2.2.1 = some (tyX3 k) := by decide +kernel
abbrev cX3_init : ByteArray := prog_5_method_1_code
def yX3_init : MethodName := ⟨RX3, "<init>", "()V"⟩
abbrev cX3_begin : ByteArray := prog_5_method_2_code
def yX3_begin : MethodName := ⟨RX3, "begin", "()V"⟩
abbrev cX3_become : ByteArray := prog_5_method_3_code
def yX3_become : MethodName := ⟨RX3, "become", "(LShoesAtLaw$Now;)V"⟩
abbrev cX3_whose : ByteArray := prog_5_method_4_code
def yX3_whose : MethodName := ⟨RX3, "whose", "(I)I"⟩
abbrev cX3_put : ByteArray := prog_5_method_5_code
def yX3_put : MethodName := ⟨RX3, "put", "(II)V"⟩
abbrev cX3_setOf : ByteArray := prog_5_method_6_code
def yX3_setOf : MethodName := ⟨RX3, "setOf", "(II)I"⟩
abbrev cX3_walk : ByteArray := prog_5_method_7_code
def yX3_walk : MethodName := ⟨RX3, "walk", "(I)Z"⟩
abbrev cX3_unwalk : ByteArray := prog_5_method_8_code
def yX3_unwalk : MethodName := ⟨RX3, "unwalk", "()V"⟩
abbrev cX3_footOf : ByteArray := prog_5_method_9_code
def yX3_footOf : MethodName := ⟨RX3, "footOf", "(I)I"⟩
abbrev cX3_stepsOf : ByteArray := prog_5_method_10_code
def yX3_stepsOf : MethodName := ⟨RX3, "stepsOf", "(I)I"⟩
abbrev cX3_firstRunOver : ByteArray := prog_5_method_11_code
def yX3_firstRunOver : MethodName := ⟨RX3, "firstRunOver", "(I)I"⟩
abbrev cX3_longestRun : ByteArray := prog_5_method_12_code
def yX3_longestRun : MethodName := ⟨RX3, "longestRun", "()I"⟩
abbrev cX3_changes : ByteArray := prog_5_method_13_code
def yX3_changes : MethodName := ⟨RX3, "changes", "()I"⟩
abbrev cX3_changesAt : ByteArray := prog_5_method_14_code
def yX3_changesAt : MethodName := ⟨RX3, "changesAt", "(I)Z"⟩
def RX4 : String := "ShoesAtLaw$Partings"
def TX4 : u_T := fun k => match k with
  | 0 => ("ShoesAtLaw$Partings", "own", "[I", true)
  | 1 => ("ShoesAtLaw$Partings", "ahead", "[I", true)
  | 2 => ("ShoesAtLaw$Partings", "sum", "[I", true)
  | 3 => ("ShoesAtLaw$Partings", "found", "I", false)
  | 4 => ("ShoesAtLaw$Partings", "gain", "I", false)
  | _ => ("ShoesAtLaw$Partings", "lie", "I", false)
def tyX4 : Nat → FieldType := fun k => match k with
  | 0 => .array .int
  | 1 => .array .int
  | 2 => .array .int
  | 3 => .int
  | 4 => .int
  | _ => .int
abbrev wsX40 : List Cond := u_ws RX4 TX4 6
theorem nmX4 : ∀ a, a < 6 → ∀ b, b < 6 → a ≠ b → (TX4 a).2.1 ≠ (TX4 b).2.1 := by decide +kernel
theorem tyX4_ok : ∀ k, k < 6 → parseFieldDescriptor (TX4 k).2.2.1 = some (tyX4 k) := by decide +kernel
abbrev cX4_init : ByteArray := prog_6_method_1_code
def yX4_init : MethodName := ⟨RX4, "<init>", "()V"⟩
abbrev cX4_total : ByteArray := prog_6_method_2_code
def yX4_total : MethodName := ⟨RX4, "total", "(LShoesAtLaw$Suit;I)I"⟩
abbrev cX4_lead : ByteArray := prog_6_method_3_code
def yX4_lead : MethodName := ⟨RX4, "lead", "(LShoesAtLaw$Suit;II)I"⟩
abbrev cX4_isFair : ByteArray := prog_6_method_4_code
def yX4_isFair : MethodName := ⟨RX4, "isFair", "(LShoesAtLaw$Suit;I)Z"⟩
abbrev cX4_fairCount : ByteArray := prog_6_method_5_code
def yX4_fairCount : MethodName := ⟨RX4, "fairCount", "(LShoesAtLaw$Suit;)I"⟩
abbrev cX4_best : ByteArray := prog_6_method_6_code
def yX4_best : MethodName := ⟨RX4, "best", "(LShoesAtLaw$Suit;)I"⟩
abbrev cX4_mostTotal : ByteArray := prog_6_method_7_code
def yX4_mostTotal : MethodName := ⟨RX4, "mostTotal", "(LShoesAtLaw$Suit;)I"⟩
abbrev cX4_leftToCutter : ByteArray := prog_6_method_8_code
def yX4_leftToCutter : MethodName := ⟨RX4, "leftToCutter", "(LShoesAtLaw$Suit;II)I"⟩
abbrev cX4_bestCut : ByteArray := prog_6_method_9_code
def yX4_bestCut : MethodName := ⟨RX4, "bestCut", "(LShoesAtLaw$Suit;I)I"⟩
abbrev cX4_outcome : ByteArray := prog_6_method_10_code
def yX4_outcome : MethodName := ⟨RX4, "outcome", "(LShoesAtLaw$Suit;IIII)I"⟩
abbrev cX4_seekLie : ByteArray := prog_6_method_11_code
def yX4_seekLie : MethodName := ⟨RX4, "seekLie", "(LShoesAtLaw$Suit;I)V"⟩
abbrev cX4_listOthersFair : ByteArray := prog_6_method_12_code
def yX4_listOthersFair : MethodName := ⟨RX4, "listOthersFair", "(LShoesAtLaw$Suit;I)V"⟩
abbrev cX4_ownInBestTold : ByteArray := prog_6_method_13_code
def yX4_ownInBestTold : MethodName := ⟨RX4, "ownInBestTold", "(II)I"⟩
abbrev cX4_greatestSale : ByteArray := prog_6_method_14_code
def yX4_greatestSale : MethodName := ⟨RX4, "greatestSale", "(LShoesAtLaw$Suit;I)I"⟩
abbrev cX4_fairLots : ByteArray := prog_6_method_15_code
def yX4_fairLots : MethodName := ⟨RX4, "fairLots", "(LShoesAtLaw$Suit;I)I"⟩
def RX5 : String := "ShoesAtLaw$Reader"
def TX5 : u_T := fun k => match k with
  | 0 => ("ShoesAtLaw$Reader", "letters", "[I", true)
  | 1 => ("ShoesAtLaw$Reader", "length", "I", false)
  | 2 => ("ShoesAtLaw$Reader", "place", "I", false)
  | 3 => ("ShoesAtLaw$Reader", "tokenStart", "I", false)
  | 4 => ("ShoesAtLaw$Reader", "token", "I", false)
  | 5 => ("ShoesAtLaw$Reader", "number", "I", false)
  | 6 => ("ShoesAtLaw$Reader", "hopsTold", "Z", false)
  | _ => ("ShoesAtLaw$Reader", "cellsTold", "Z", false)
def tyX5 : Nat → FieldType := fun k => match k with
  | 0 => .array .int
  | 1 => .int
  | 2 => .int
  | 3 => .int
  | 4 => .int
  | 5 => .int
  | 6 => .boolean
  | _ => .boolean
abbrev wsX50 : List Cond := u_ws RX5 TX5 8
theorem nmX5 : ∀ a, a < 8 → ∀ b, b < 8 → a ≠ b → (TX5 a).2.1 ≠ (TX5 b).2.1 := by decide +kernel
theorem tyX5_ok : ∀ k, k < 8 → parseFieldDescriptor (TX5 k).2.2.1 = some (tyX5 k) := by decide +kernel
abbrev cX5_init : ByteArray := prog_7_method_1_code
def yX5_init : MethodName := ⟨RX5, "<init>", "()V"⟩
abbrev cX5_add : ByteArray := prog_7_method_2_code
def yX5_add : MethodName := ⟨RX5, "add", "(I)Z"⟩
abbrev cX5_empty : ByteArray := prog_7_method_3_code
def yX5_empty : MethodName := ⟨RX5, "empty", "()V"⟩
abbrev cX5_read : ByteArray := prog_7_method_4_code
def yX5_read : MethodName := ⟨RX5, "read", "(LShoesAtLaw$Suit;)I"⟩
abbrev cX5_readGood : ByteArray := prog_7_method_5_code
def yX5_readGood : MethodName := ⟨RX5, "readGood", "(LShoesAtLaw$Suit;)Z"⟩
abbrev cX5_readPair : ByteArray := prog_7_method_6_code
def yX5_readPair : MethodName := ⟨RX5, "readPair", "(LShoesAtLaw$Suit;)Z"⟩
abbrev cX5_readHops : ByteArray := prog_7_method_7_code
def yX5_readHops : MethodName := ⟨RX5, "readHops", "(LShoesAtLaw$Suit;)Z"⟩
abbrev cX5_readCells : ByteArray := prog_7_method_8_code
def yX5_readCells : MethodName := ⟨RX5, "readCells", "(LShoesAtLaw$Suit;)Z"⟩
abbrev cX5_nextNumber : ByteArray := prog_7_method_9_code
def yX5_nextNumber : MethodName := ⟨RX5, "nextNumber", "(II)Z"⟩
abbrev cX5_nextEnds : ByteArray := prog_7_method_10_code
def yX5_nextEnds : MethodName := ⟨RX5, "nextEnds", "()Z"⟩
abbrev cX5_letterAt : ByteArray := prog_7_method_11_code
def yX5_letterAt : MethodName := ⟨RX5, "letterAt", "(I)I"⟩
abbrev cX5_nextToken : ByteArray := prog_7_method_12_code
def yX5_nextToken : MethodName := ⟨RX5, "nextToken", "()V"⟩
abbrev cX5_takeNumber : ByteArray := prog_7_method_13_code
def yX5_takeNumber : MethodName := ⟨RX5, "takeNumber", "()V"⟩
abbrev cX5_isDigit : ByteArray := prog_7_method_14_code
def yX5_isDigit : MethodName := ⟨RX5, "isDigit", "(I)Z"⟩
def RX6 : String := "ShoesAtLaw$Suit"
def TX6 : u_T := fun k => match k with
  | 0 => ("ShoesAtLaw$Suit", "goods", "I", false)
  | 1 => ("ShoesAtLaw$Suit", "pairs", "I", false)
  | 2 => ("ShoesAtLaw$Suit", "hops", "I", false)
  | 3 => ("ShoesAtLaw$Suit", "cells", "I", false)
  | 4 => ("ShoesAtLaw$Suit", "worth", "[I", true)
  | 5 => ("ShoesAtLaw$Suit", "pairSet", "[I", true)
  | 6 => ("ShoesAtLaw$Suit", "more", "[I", true)
  | _ => ("ShoesAtLaw$Suit", "value", "[I", true)
def tyX6 : Nat → FieldType := fun k => match k with
  | 0 => .int
  | 1 => .int
  | 2 => .int
  | 3 => .int
  | 4 => .array .int
  | 5 => .array .int
  | 6 => .array .int
  | _ => .array .int
abbrev wsX60 : List Cond := u_ws RX6 TX6 8
theorem nmX6 : ∀ a, a < 8 → ∀ b, b < 8 → a ≠ b → (TX6 a).2.1 ≠ (TX6 b).2.1 := by decide +kernel
theorem tyX6_ok : ∀ k, k < 8 → parseFieldDescriptor (TX6 k).2.2.1 = some (tyX6 k) := by decide +kernel
abbrev cX6_init : ByteArray := prog_8_method_1_code
def yX6_init : MethodName := ⟨RX6, "<init>", "()V"⟩
abbrev cX6_begin : ByteArray := prog_8_method_2_code
def yX6_begin : MethodName := ⟨RX6, "begin", "()V"⟩
abbrev cX6_addGood : ByteArray := prog_8_method_3_code
def yX6_addGood : MethodName := ⟨RX6, "addGood", "(II)V"⟩
abbrev cX6_addPair : ByteArray := prog_8_method_4_code
def yX6_addPair : MethodName := ⟨RX6, "addPair", "(III)V"⟩
abbrev cX6_weigh : ByteArray := prog_8_method_5_code
def yX6_weigh : MethodName := ⟨RX6, "weigh", "()V"⟩
abbrev cX6_all : ByteArray := prog_8_method_6_code
def yX6_all : MethodName := ⟨RX6, "all", "()I"⟩
abbrev cX6_worthOf : ByteArray := prog_8_method_7_code
def yX6_worthOf : MethodName := ⟨RX6, "worthOf", "(II)I"⟩
abbrev cX6_worthAlone : ByteArray := prog_8_method_8_code
def yX6_worthAlone : MethodName := ⟨RX6, "worthAlone", "(II)I"⟩
abbrev cX6_moreOf : ByteArray := prog_8_method_9_code
def yX6_moreOf : MethodName := ⟨RX6, "moreOf", "(II)I"⟩
abbrev cX6_valueOf : ByteArray := prog_8_method_10_code
def yX6_valueOf : MethodName := ⟨RX6, "valueOf", "(II)I"⟩
abbrev cX6_ownIn : ByteArray := prog_8_method_11_code
def yX6_ownIn : MethodName := ⟨RX6, "ownIn", "(II)I"⟩
abbrev cX6_cellBehind : ByteArray := prog_8_method_12_code
def yX6_cellBehind : MethodName := ⟨RX6, "cellBehind", "(I)I"⟩
abbrev cX6_wear : ByteArray := prog_8_method_13_code
def yX6_wear : MethodName := ⟨RX6, "wear", "(II)I"⟩
def RX7 : String := "ShoesAtLaw$Third"
def TX7 : u_T := fun k => match k with
  | _ => ("", "", "", false)
def tyX7 : Nat → FieldType := fun k => match k with
  | _ => .int
abbrev wsX70 : List Cond := u_ws RX7 TX7 0
theorem nmX7 : ∀ a, a < 0 → ∀ b, b < 0 → a ≠ b → (TX7 a).2.1 ≠ (TX7 b).2.1 := by decide +kernel
theorem tyX7_ok : ∀ k, k < 0 → parseFieldDescriptor (TX7 k).2.2.1 = some (tyX7 k) := by decide +kernel
abbrev cX7_init : ByteArray := prog_9_method_1_code
def yX7_init : MethodName := ⟨RX7, "<init>", "()V"⟩
abbrev cX7_verdict : ByteArray := prog_9_method_2_code
def yX7_verdict : MethodName := ⟨RX7, "verdict", "(LShoesAtLaw;I)I"⟩
def RX8 : String := "ShoesAtLaw$Torn"
def TX8 : u_T := fun k => match k with
  | _ => ("", "", "", false)
def tyX8 : Nat → FieldType := fun k => match k with
  | _ => .int
abbrev wsX80 : List Cond := u_ws RX8 TX8 0
theorem nmX8 : ∀ a, a < 0 → ∀ b, b < 0 → a ≠ b → (TX8 a).2.1 ≠ (TX8 b).2.1 := by decide +kernel
theorem tyX8_ok : ∀ k, k < 0 → parseFieldDescriptor (TX8 k).2.2.1 = some (tyX8 k) := by decide +kernel
abbrev cX8_init : ByteArray := prog_10_method_1_code
def yX8_init : MethodName := ⟨RX8, "<init>", "()V"⟩
abbrev cX8_verdict : ByteArray := prog_10_method_2_code
def yX8_verdict : MethodName := ⟨RX8, "verdict", "(LShoesAtLaw;I)I"⟩
def RX9 : String := "ShoesAtLaw$Umbrella"
def TX9 : u_T := fun k => match k with
  | _ => ("", "", "", false)
def tyX9 : Nat → FieldType := fun k => match k with
  | _ => .int
abbrev wsX90 : List Cond := u_ws RX9 TX9 0
theorem nmX9 : ∀ a, a < 0 → ∀ b, b < 0 → a ≠ b → (TX9 a).2.1 ≠ (TX9 b).2.1 := by decide +kernel
theorem tyX9_ok : ∀ k, k < 0 → parseFieldDescriptor (TX9 k).2.2.1 = some (tyX9 k) := by decide +kernel
abbrev cX9_init : ByteArray := prog_11_method_1_code
def yX9_init : MethodName := ⟨RX9, "<init>", "()V"⟩
abbrev cX9_verdict : ByteArray := prog_11_method_2_code
def yX9_verdict : MethodName := ⟨RX9, "verdict", "(LShoesAtLaw;I)I"⟩
def RX10 : String := "ShoesAtLaw"
def TX10 : u_T := fun k => match k with
  | 0 => ("ShoesAtLaw", "text", "LShoesAtLaw$Reader;", true)
  | 1 => ("ShoesAtLaw", "told", "LShoesAtLaw$Suit;", false)
  | 2 => ("ShoesAtLaw", "draft", "LShoesAtLaw$Suit;", false)
  | 3 => ("ShoesAtLaw", "present", "LShoesAtLaw$Now;", true)
  | 4 => ("ShoesAtLaw", "firstImage", "LShoesAtLaw$Now;", true)
  | 5 => ("ShoesAtLaw", "secondImage", "LShoesAtLaw$Now;", true)
  | 6 => ("ShoesAtLaw", "partings", "LShoesAtLaw$Partings;", true)
  | 7 => ("ShoesAtLaw", "kinds", "[LShoesAtLaw$Judge;", true)
  | 8 => ("ShoesAtLaw", "deeds", "[I", true)
  | 9 => ("ShoesAtLaw", "deedCount", "I", false)
  | 10 => ("ShoesAtLaw", "seenFoot", "[I", true)
  | 11 => ("ShoesAtLaw", "seenCell", "[I", true)
  | 12 => ("ShoesAtLaw", "seenWear", "[I", true)
  | 13 => ("ShoesAtLaw", "seenCount", "I", false)
  | _ => ("ShoesAtLaw", "theTrace", "J", false)
def tyX10 : Nat → FieldType := fun k => match k with
  | 0 => .object "ShoesAtLaw$Reader"
  | 1 => .object "ShoesAtLaw$Suit"
  | 2 => .object "ShoesAtLaw$Suit"
  | 3 => .object "ShoesAtLaw$Now"
  | 4 => .object "ShoesAtLaw$Now"
  | 5 => .object "ShoesAtLaw$Now"
  | 6 => .object "ShoesAtLaw$Partings"
  | 7 => .array (.object "ShoesAtLaw$Judge")
  | 8 => .array .int
  | 9 => .int
  | 10 => .array .int
  | 11 => .array .int
  | 12 => .array .int
  | 13 => .int
  | _ => .long
abbrev wsX100 : List Cond := u_ws RX10 TX10 15
theorem nmX10 : ∀ a, a < 15 → ∀ b, b < 15 → a ≠ b → (TX10 a).2.1 ≠ (TX10 b).2.1 := by decide +kernel
theorem tyX10_ok : ∀ k, k < 15 → parseFieldDescriptor (TX10 k).2.2.1 = some (tyX10 k) := by decide +kernel
abbrev cX10_init : ByteArray := prog_1_method_1_code
def yX10_init : MethodName := ⟨RX10, "<init>", "()V"⟩
abbrev cX10_type : ByteArray := prog_1_method_2_code
def yX10_type : MethodName := ⟨RX10, "type", "(I)I"⟩
abbrev cX10_clear : ByteArray := prog_1_method_3_code
def yX10_clear : MethodName := ⟨RX10, "clear", "()I"⟩
abbrev cX10_suit : ByteArray := prog_1_method_4_code
def yX10_suit : MethodName := ⟨RX10, "suit", "()I"⟩
abbrev cX10_good : ByteArray := prog_1_method_5_code
def yX10_good : MethodName := ⟨RX10, "good", "(II)I"⟩
abbrev cX10_values : ByteArray := prog_1_method_6_code
def yX10_values : MethodName := ⟨RX10, "values", "(II)I"⟩
abbrev cX10_now : ByteArray := prog_1_method_7_code
def yX10_now : MethodName := ⟨RX10, "now", "(I)I"⟩
abbrev cX10_gives : ByteArray := prog_1_method_8_code
def yX10_gives : MethodName := ⟨RX10, "gives", "(II)I"⟩
abbrev cX10_steps : ByteArray := prog_1_method_9_code
def yX10_steps : MethodName := ⟨RX10, "steps", "(I)I"⟩
abbrev cX10_undo : ByteArray := prog_1_method_10_code
def yX10_undo : MethodName := ⟨RX10, "undo", "()I"⟩
abbrev cX10_envy : ByteArray := prog_1_method_11_code
def yX10_envy : MethodName := ⟨RX10, "envy", "(I)I"⟩
abbrev cX10_fair : ByteArray := prog_1_method_12_code
def yX10_fair : MethodName := ⟨RX10, "fair", "(I)I"⟩
abbrev cX10_cut : ByteArray := prog_1_method_13_code
def yX10_cut : MethodName := ⟨RX10, "cut", "(II)I"⟩
abbrev cX10_byTurns : ByteArray := prog_1_method_14_code
def yX10_byTurns : MethodName := ⟨RX10, "byTurns", "(II)I"⟩
abbrev cX10_lies : ByteArray := prog_1_method_15_code
def yX10_lies : MethodName := ⟨RX10, "lies", "(II)I"⟩
abbrev cX10_sell : ByteArray := prog_1_method_16_code
def yX10_sell : MethodName := ⟨RX10, "sell", "(I)I"⟩
abbrev cX10_adds : ByteArray := prog_1_method_17_code
def yX10_adds : MethodName := ⟨RX10, "adds", "(I)I"⟩
abbrev cX10_odds : ByteArray := prog_1_method_18_code
def yX10_odds : MethodName := ⟨RX10, "odds", "(II)I"⟩
abbrev cX10_foot : ByteArray := prog_1_method_19_code
def yX10_foot : MethodName := ⟨RX10, "foot", "(I)I"⟩
abbrev cX10_worn : ByteArray := prog_1_method_20_code
def yX10_worn : MethodName := ⟨RX10, "worn", "(II)I"⟩
abbrev cX10_judge : ByteArray := prog_1_method_21_code
def yX10_judge : MethodName := ⟨RX10, "judge", "(I)I"⟩
abbrev cX10_saw : ByteArray := prog_1_method_22_code
def yX10_saw : MethodName := ⟨RX10, "saw", "(III)I"⟩
abbrev cX10_forget : ByteArray := prog_1_method_23_code
def yX10_forget : MethodName := ⟨RX10, "forget", "()I"⟩
abbrev cX10_wrong : ByteArray := prog_1_method_24_code
def yX10_wrong : MethodName := ⟨RX10, "wrong", "(I)I"⟩
abbrev cX10_asTold : ByteArray := prog_1_method_25_code
def yX10_asTold : MethodName := ⟨RX10, "asTold", "()I"⟩
abbrev cX10_soonest : ByteArray := prog_1_method_26_code
def yX10_soonest : MethodName := ⟨RX10, "soonest", "(III)I"⟩
abbrev cX10_rate : ByteArray := prog_1_method_27_code
def yX10_rate : MethodName := ⟨RX10, "rate", "(II)I"⟩
abbrev cX10_keep : ByteArray := prog_1_method_28_code
def yX10_keep : MethodName := ⟨RX10, "keep", "(I)I"⟩
abbrev cX10_back : ByteArray := prog_1_method_29_code
def yX10_back : MethodName := ⟨RX10, "back", "(I)I"⟩
abbrev cX10_count : ByteArray := prog_1_method_30_code
def yX10_count : MethodName := ⟨RX10, "count", "(I)I"⟩
abbrev cX10_trace : ByteArray := prog_1_method_31_code
def yX10_trace : MethodName := ⟨RX10, "trace", "()J"⟩
abbrev cX10_beginAnew : ByteArray := prog_1_method_32_code
def yX10_beginAnew : MethodName := ⟨RX10, "beginAnew", "()V"⟩
abbrev cX10_isGood : ByteArray := prog_1_method_33_code
def yX10_isGood : MethodName := ⟨RX10, "isGood", "(I)Z"⟩
abbrev cX10_isCell : ByteArray := prog_1_method_34_code
def yX10_isCell : MethodName := ⟨RX10, "isCell", "(I)Z"⟩
abbrev cX10_isSide : ByteArray := prog_1_method_35_code
def yX10_isSide : MethodName := ⟨RX10, "isSide", "(I)Z"⟩
abbrev cX10_imageOf : ByteArray := prog_1_method_36_code
def yX10_imageOf : MethodName := ⟨RX10, "imageOf", "(I)LShoesAtLaw$Now;"⟩
abbrev cX10_remember : ByteArray := prog_1_method_37_code
def yX10_remember : MethodName := ⟨RX10, "remember", "(I)V"⟩
abbrev cX10_ownValue : ByteArray := prog_1_method_38_code
def yX10_ownValue : MethodName := ⟨RX10, "ownValue", "(I)I"⟩
abbrev cX10_envyOf : ByteArray := prog_1_method_39_code
def yX10_envyOf : MethodName := ⟨RX10, "envyOf", "(I)I"⟩
abbrev cX10_agrees : ByteArray := prog_1_method_40_code
def yX10_agrees : MethodName := ⟨RX10, "agrees", "(II)Z"⟩
abbrev cX10_canBeWalked : ByteArray := prog_1_method_41_code
def yX10_canBeWalked : MethodName := ⟨RX10, "canBeWalked", "(II)Z"⟩
abbrev cX10_power : ByteArray := prog_1_method_42_code
def yX10_power : MethodName := ⟨RX10, "power", "(II)I"⟩
abbrev cX10_greatestDivisor : ByteArray := prog_1_method_43_code
def yX10_greatestDivisor : MethodName := ⟨RX10, "greatestDivisor", "(II)I"⟩
def RX11 : String := "ShoesAtLawModel"
def TX11 : u_T := fun k => match k with
  | 0 => ("ShoesAtLawModel", "suit", "[I", true)
  | 1 => ("ShoesAtLawModel", "read", "[I", true)
  | 2 => ("ShoesAtLawModel", "now", "[I", true)
  | 3 => ("ShoesAtLawModel", "past", "[I", true)
  | 4 => ("ShoesAtLawModel", "undos", "I", false)
  | 5 => ("ShoesAtLawModel", "images", "[I", true)
  | 6 => ("ShoesAtLawModel", "kept", "[Z", true)
  | 7 => ("ShoesAtLawModel", "text", "[I", true)
  | 8 => ("ShoesAtLawModel", "size", "I", false)
  | 9 => ("ShoesAtLawModel", "seen", "[I", true)
  | 10 => ("ShoesAtLawModel", "seenMany", "I", false)
  | 11 => ("ShoesAtLawModel", "trace", "J", false)
  | 12 => ("ShoesAtLawModel", "at", "I", false)
  | 13 => ("ShoesAtLawModel", "begin", "I", false)
  | 14 => ("ShoesAtLawModel", "met", "I", false)
  | 15 => ("ShoesAtLawModel", "ends", "[I", true)
  | 16 => ("ShoesAtLawModel", "endsRight", "[I", true)
  | 17 => ("ShoesAtLawModel", "takes", "[I", true)
  | 18 => ("ShoesAtLawModel", "can", "[Z", true)
  | _ => ("ShoesAtLawModel", "then", "[Z", true)
def tyX11 : Nat → FieldType := fun k => match k with
  | 0 => .array .int
  | 1 => .array .int
  | 2 => .array .int
  | 3 => .array .int
  | 4 => .int
  | 5 => .array .int
  | 6 => .array .boolean
  | 7 => .array .int
  | 8 => .int
  | 9 => .array .int
  | 10 => .int
  | 11 => .long
  | 12 => .int
  | 13 => .int
  | 14 => .int
  | 15 => .array .int
  | 16 => .array .int
  | 17 => .array .int
  | 18 => .array .boolean
  | _ => .array .boolean
abbrev wsX110 : List Cond := u_ws RX11 TX11 20
theorem nmX11 : ∀ a, a < 20 → ∀ b, b < 20 → a ≠ b → (TX11 a).2.1 ≠ (TX11 b).2.1 := by decide +kernel
theorem tyX11_ok : ∀ k, k < 20 → parseFieldDescriptor (TX11 k).2.2.1 = some (tyX11 k) := by decide +kernel
abbrev cX11_init : ByteArray := prog_13_method_1_code
def yX11_init : MethodName := ⟨RX11, "<init>", "()V"⟩
abbrev cX11_in : ByteArray := prog_13_method_3_code
def yX11_in : MethodName := ⟨RX11, "in", "(JJJ)Z"⟩
abbrev cX11_isTwo : ByteArray := prog_13_method_4_code
def yX11_isTwo : MethodName := ⟨RX11, "isTwo", "(I)Z"⟩
abbrev cX11_has : ByteArray := prog_13_method_5_code
def yX11_has : MethodName := ⟨RX11, "has", "(II)Z"⟩
abbrev cX11_bits : ByteArray := prog_13_method_6_code
def yX11_bits : MethodName := ⟨RX11, "bits", "(I)I"⟩
abbrev cX11_clean : ByteArray := prog_13_method_7_code
def yX11_clean : MethodName := ⟨RX11, "clean", "([I)V"⟩
abbrev cX11_begins : ByteArray := prog_13_method_8_code
def yX11_begins : MethodName := ⟨RX11, "begins", "()V"⟩
abbrev cX11_type : ByteArray := prog_13_method_9_code
def yX11_type : MethodName := ⟨RX11, "type", "(I)I"⟩
abbrev cX11_clear : ByteArray := prog_13_method_10_code
def yX11_clear : MethodName := ⟨RX11, "clear", "()I"⟩
abbrev cX11_first : ByteArray := prog_13_method_11_code
def yX11_first : MethodName := ⟨RX11, "first", "()I"⟩
abbrev cX11_number : ByteArray := prog_13_method_12_code
def yX11_number : MethodName := ⟨RX11, "number", "(III)Z"⟩
abbrev cX11_ends : ByteArray := prog_13_method_13_code
def yX11_ends : MethodName := ⟨RX11, "ends", "()Z"⟩
abbrev cX11_takesGood : ByteArray := prog_13_method_14_code
def yX11_takesGood : MethodName := ⟨RX11, "takesGood", "()Z"⟩
abbrev cX11_takesPair : ByteArray := prog_13_method_15_code
def yX11_takesPair : MethodName := ⟨RX11, "takesPair", "()Z"⟩
abbrev cX11_takesOne : ByteArray := prog_13_method_16_code
def yX11_takesOne : MethodName := ⟨RX11, "takesOne", "(III)Z"⟩
abbrev cX11_takesItem : ByteArray := prog_13_method_17_code
def yX11_takesItem : MethodName := ⟨RX11, "takesItem", "(I)Z"⟩
abbrev cX11_suit : ByteArray := prog_13_method_18_code
def yX11_suit : MethodName := ⟨RX11, "suit", "()I"⟩
abbrev cX11_isGood : ByteArray := prog_13_method_19_code
def yX11_isGood : MethodName := ⟨RX11, "isGood", "(I)Z"⟩
abbrev cX11_all : ByteArray := prog_13_method_20_code
def yX11_all : MethodName := ⟨RX11, "all", "()I"⟩
abbrev cX11_valued : ByteArray := prog_13_method_21_code
def yX11_valued : MethodName := ⟨RX11, "valued", "(II)I"⟩
abbrev cX11_goodsOf : ByteArray := prog_13_method_22_code
def yX11_goodsOf : MethodName := ⟨RX11, "goodsOf", "(I)I"⟩
abbrev cX11_good : ByteArray := prog_13_method_23_code
def yX11_good : MethodName := ⟨RX11, "good", "(II)I"⟩
abbrev cX11_values : ByteArray := prog_13_method_24_code
def yX11_values : MethodName := ⟨RX11, "values", "(II)I"⟩
abbrev cX11_now : ByteArray := prog_13_method_25_code
def yX11_now : MethodName := ⟨RX11, "now", "(I)I"⟩
abbrev cX11_copies : ByteArray := prog_13_method_26_code
def yX11_copies : MethodName := ⟨RX11, "copies", "([II[II)V"⟩
abbrev cX11_remember : ByteArray := prog_13_method_27_code
def yX11_remember : MethodName := ⟨RX11, "remember", "()V"⟩
abbrev cX11_gives : ByteArray := prog_13_method_28_code
def yX11_gives : MethodName := ⟨RX11, "gives", "(II)I"⟩
abbrev cX11_footOf : ByteArray := prog_13_method_29_code
def yX11_footOf : MethodName := ⟨RX11, "footOf", "(I)I"⟩
abbrev cX11_wornBy : ByteArray := prog_13_method_30_code
def yX11_wornBy : MethodName := ⟨RX11, "wornBy", "(III)I"⟩
abbrev cX11_stepsOf : ByteArray := prog_13_method_31_code
def yX11_stepsOf : MethodName := ⟨RX11, "stepsOf", "(I)I"⟩
abbrev cX11_steps : ByteArray := prog_13_method_32_code
def yX11_steps : MethodName := ⟨RX11, "steps", "(I)I"⟩
abbrev cX11_undo : ByteArray := prog_13_method_33_code
def yX11_undo : MethodName := ⟨RX11, "undo", "()I"⟩
abbrev cX11_envyBy : ByteArray := prog_13_method_34_code
def yX11_envyBy : MethodName := ⟨RX11, "envyBy", "(III)I"⟩
abbrev cX11_envy : ByteArray := prog_13_method_35_code
def yX11_envy : MethodName := ⟨RX11, "envy", "(I)I"⟩
abbrev cX11_isFair : ByteArray := prog_13_method_36_code
def yX11_isFair : MethodName := ⟨RX11, "isFair", "(I)Z"⟩
abbrev cX11_together : ByteArray := prog_13_method_37_code
def yX11_together : MethodName := ⟨RX11, "together", "(I)I"⟩
abbrev cX11_best : ByteArray := prog_13_method_38_code
def yX11_best : MethodName := ⟨RX11, "best", "(Z)I"⟩
abbrev cX11_fair : ByteArray := prog_13_method_39_code
def yX11_fair : MethodName := ⟨RX11, "fair", "(I)I"⟩
abbrev cX11_cut : ByteArray := prog_13_method_40_code
def yX11_cut : MethodName := ⟨RX11, "cut", "(II)I"⟩
abbrev cX11_layTurns : ByteArray := prog_13_method_41_code
def yX11_layTurns : MethodName := ⟨RX11, "layTurns", "(I)V"⟩
abbrev cX11_layTake : ByteArray := prog_13_method_42_code
def yX11_layTake : MethodName := ⟨RX11, "layTake", "(III)V"⟩
abbrev cX11_byTurns : ByteArray := prog_13_method_43_code
def yX11_byTurns : MethodName := ⟨RX11, "byTurns", "(II)I"⟩
abbrev cX11_gains : ByteArray := prog_13_method_44_code
def yX11_gains : MethodName := ⟨RX11, "gains", "(III)I"⟩
abbrev cX11_lies : ByteArray := prog_13_method_45_code
def yX11_lies : MethodName := ⟨RX11, "lies", "(II)I"⟩
abbrev cX11_sell : ByteArray := prog_13_method_46_code
def yX11_sell : MethodName := ⟨RX11, "sell", "(I)I"⟩
abbrev cX11_adds : ByteArray := prog_13_method_47_code
def yX11_adds : MethodName := ⟨RX11, "adds", "(I)I"⟩
abbrev cX11_odds : ByteArray := prog_13_method_48_code
def yX11_odds : MethodName := ⟨RX11, "odds", "(II)I"⟩
abbrev cX11_foot : ByteArray := prog_13_method_49_code
def yX11_foot : MethodName := ⟨RX11, "foot", "(I)I"⟩
abbrev cX11_isCell : ByteArray := prog_13_method_50_code
def yX11_isCell : MethodName := ⟨RX11, "isCell", "(I)Z"⟩
abbrev cX11_worn : ByteArray := prog_13_method_51_code
def yX11_worn : MethodName := ⟨RX11, "worn", "(II)I"⟩
abbrev cX11_judge : ByteArray := prog_13_method_52_code
def yX11_judge : MethodName := ⟨RX11, "judge", "(I)I"⟩
abbrev cX11_saw : ByteArray := prog_13_method_53_code
def yX11_saw : MethodName := ⟨RX11, "saw", "(III)I"⟩
abbrev cX11_forget : ByteArray := prog_13_method_54_code
def yX11_forget : MethodName := ⟨RX11, "forget", "()I"⟩
abbrev cX11_isSo : ByteArray := prog_13_method_55_code
def yX11_isSo : MethodName := ⟨RX11, "isSo", "(I)Z"⟩
abbrev cX11_wrong : ByteArray := prog_13_method_56_code
def yX11_wrong : MethodName := ⟨RX11, "wrong", "(I)I"⟩
abbrev cX11_asTold : ByteArray := prog_13_method_57_code
def yX11_asTold : MethodName := ⟨RX11, "asTold", "()I"⟩
abbrev cX11_place : ByteArray := prog_13_method_58_code
def yX11_place : MethodName := ⟨RX11, "place", "(III)I"⟩
abbrev cX11_goes : ByteArray := prog_13_method_59_code
def yX11_goes : MethodName := ⟨RX11, "goes", "(II)V"⟩
abbrev cX11_anyOf : ByteArray := prog_13_method_60_code
def yX11_anyOf : MethodName := ⟨RX11, "anyOf", "(II)Z"⟩
abbrev cX11_soonest : ByteArray := prog_13_method_61_code
def yX11_soonest : MethodName := ⟨RX11, "soonest", "(III)I"⟩
abbrev cX11_rate : ByteArray := prog_13_method_62_code
def yX11_rate : MethodName := ⟨RX11, "rate", "(II)I"⟩
abbrev cX11_keep : ByteArray := prog_13_method_63_code
def yX11_keep : MethodName := ⟨RX11, "keep", "(I)I"⟩
abbrev cX11_back : ByteArray := prog_13_method_64_code
def yX11_back : MethodName := ⟨RX11, "back", "(I)I"⟩
abbrev cX11_count : ByteArray := prog_13_method_65_code
def yX11_count : MethodName := ⟨RX11, "count", "(I)I"⟩
abbrev cX11_trace : ByteArray := prog_13_method_66_code
def yX11_trace : MethodName := ⟨RX11, "trace", "()J"⟩
def RJ6 : String := "java/lang/Integer"
def TJ6 : u_T := fun k => match k with
  | _ => ("", "", "", false)
def tyJ6 : Nat → FieldType := fun k => match k with
  | _ => .int
abbrev wsJ60 : List Cond := u_ws RJ6 TJ6 0
theorem nmJ6 : ∀ a, a < 0 → ∀ b, b < 0 → a ≠ b → (TJ6 a).2.1 ≠ (TJ6 b).2.1 := by decide +kernel
theorem tyJ6_ok : ∀ k, k < 0 → parseFieldDescriptor (TJ6 k).2.2.1 = some (tyJ6 k) := by decide +kernel
abbrev cJ6_bitCount_0f7a4 : ByteArray := prog_14_method_49_code
def yJ6_bitCount_0f7a4 : MethodName := ⟨RJ6, "bitCount", "(I)I"⟩
def RJ9 : String := "java/lang/Math"
def TJ9 : u_T := fun k => match k with
  | _ => ("", "", "", false)
def tyJ9 : Nat → FieldType := fun k => match k with
  | _ => .int
abbrev wsJ90 : List Cond := u_ws RJ9 TJ9 0
theorem nmJ9 : ∀ a, a < 0 → ∀ b, b < 0 → a ≠ b → (TJ9 a).2.1 ≠ (TJ9 b).2.1 := by decide +kernel
theorem tyJ9_ok : ∀ k, k < 0 → parseFieldDescriptor (TJ9 k).2.2.1 = some (tyJ9 k) := by decide +kernel
abbrev cJ9_max_7cf53 : ByteArray := prog_15_method_65_code
def yJ9_max_7cf53 : MethodName := ⟨RJ9, "max", "(II)I"⟩
abbrev cJ9_min_7cf53 : ByteArray := prog_15_method_69_code
def yJ9_min_7cf53 : MethodName := ⟨RJ9, "min", "(II)I"⟩
def RJ10 : String := "java/lang/System"
def TJ10 : u_T := fun k => match k with
  | _ => ("", "", "", false)
def tyJ10 : Nat → FieldType := fun k => match k with
  | _ => .int
abbrev wsJ100 : List Cond := u_ws RJ10 TJ10 0
theorem nmJ10 : ∀ a, a < 0 → ∀ b, b < 0 → a ≠ b → (TJ10 a).2.1 ≠ (TJ10 b).2.1 := by decide +kernel
theorem tyJ10_ok : ∀ k, k < 0 → parseFieldDescriptor (TJ10 k).2.2.1 = some (tyJ10 k) := by decide +kernel
def RL : String := "ShoesAtLawLaw"
abbrev cL_law : ByteArray := code
def yL_law : MethodName := ⟨RL, "law", "([I)Z"⟩
abbrev vwCl : List vw_C := [(RX0, TX0, 0), (RX1, TX1, 0), (RX2, TX2, 0), (RX3, TX3, 4), (RX4, TX4, 6), (RX5, TX5, 8), (RX6, TX6, 8), (RX7, TX7, 0), (RX8, TX8, 0), (RX9, TX9, 0), (RX10, TX10, 15), (RX11, TX11, 20)]
/-- a method's card: name, code, locals, answer -/
abbrev aM : Type := MethodName × ByteArray × Nat × Option FieldType
abbrev kX0_init : aM := (yX0_init, cX0_init, 1, none)
abbrev kX0_verdict : aM := (yX0_verdict, cX0_verdict, 3, (some .int))
abbrev kX1_init : aM := (yX1_init, cX1_init, 1, none)
abbrev kX1_verdict : aM := (yX1_verdict, cX1_verdict, 3, (some .int))
abbrev kX2_init : aM := (yX2_init, cX2_init, 1, none)
abbrev kX2_verdict : aM := (yX2_verdict, cX2_verdict, 3, (some .int))
abbrev kX3_init : aM := (yX3_init, cX3_init, 1, none)
abbrev kX3_begin : aM := (yX3_begin, cX3_begin, 2, none)
abbrev kX3_become : aM := (yX3_become, cX3_become, 2, none)
abbrev kX3_whose : aM := (yX3_whose, cX3_whose, 2, (some .int))
abbrev kX3_put : aM := (yX3_put, cX3_put, 3, none)
abbrev kX3_setOf : aM := (yX3_setOf, cX3_setOf, 5, (some .int))
abbrev kX3_walk : aM := (yX3_walk, cX3_walk, 2, (some .boolean))
abbrev kX3_unwalk : aM := (yX3_unwalk, cX3_unwalk, 1, none)
abbrev kX3_footOf : aM := (yX3_footOf, cX3_footOf, 2, (some .int))
abbrev kX3_stepsOf : aM := (yX3_stepsOf, cX3_stepsOf, 4, (some .int))
abbrev kX3_firstRunOver : aM := (yX3_firstRunOver, cX3_firstRunOver, 4, (some .int))
abbrev kX3_longestRun : aM := (yX3_longestRun, cX3_longestRun, 4, (some .int))
abbrev kX3_changes : aM := (yX3_changes, cX3_changes, 3, (some .int))
abbrev kX3_changesAt : aM := (yX3_changesAt, cX3_changesAt, 2, (some .boolean))
abbrev kX4_init : aM := (yX4_init, cX4_init, 1, none)
abbrev kX4_total : aM := (yX4_total, cX4_total, 3, (some .int))
abbrev kX4_lead : aM := (yX4_lead, cX4_lead, 5, (some .int))
abbrev kX4_isFair : aM := (yX4_isFair, cX4_isFair, 3, (some .boolean))
abbrev kX4_fairCount : aM := (yX4_fairCount, cX4_fairCount, 4, (some .int))
abbrev kX4_best : aM := (yX4_best, cX4_best, 6, (some .int))
abbrev kX4_mostTotal : aM := (yX4_mostTotal, cX4_mostTotal, 4, (some .int))
abbrev kX4_leftToCutter : aM := (yX4_leftToCutter, cX4_leftToCutter, 6, (some .int))
abbrev kX4_bestCut : aM := (yX4_bestCut, cX4_bestCut, 7, (some .int))
abbrev kX4_outcome : aM := (yX4_outcome, cX4_outcome, 12, (some .int))
abbrev kX4_seekLie : aM := (yX4_seekLie, cX4_seekLie, 8, none)
abbrev kX4_listOthersFair : aM := (yX4_listOthersFair, cX4_listOthersFair, 4, none)
abbrev kX4_ownInBestTold : aM := (yX4_ownInBestTold, cX4_ownInBestTold, 9, (some .int))
abbrev kX4_greatestSale : aM := (yX4_greatestSale, cX4_greatestSale, 7, (some .int))
abbrev kX4_fairLots : aM := (yX4_fairLots, cX4_fairLots, 6, (some .int))
abbrev kX5_init : aM := (yX5_init, cX5_init, 1, none)
abbrev kX5_add : aM := (yX5_add, cX5_add, 2, (some .boolean))
abbrev kX5_empty : aM := (yX5_empty, cX5_empty, 1, none)
abbrev kX5_read : aM := (yX5_read, cX5_read, 4, (some .int))
abbrev kX5_readGood : aM := (yX5_readGood, cX5_readGood, 3, (some .boolean))
abbrev kX5_readPair : aM := (yX5_readPair, cX5_readPair, 5, (some .boolean))
abbrev kX5_readHops : aM := (yX5_readHops, cX5_readHops, 2, (some .boolean))
abbrev kX5_readCells : aM := (yX5_readCells, cX5_readCells, 2, (some .boolean))
abbrev kX5_nextNumber : aM := (yX5_nextNumber, cX5_nextNumber, 3, (some .boolean))
abbrev kX5_nextEnds : aM := (yX5_nextEnds, cX5_nextEnds, 1, (some .boolean))
abbrev kX5_letterAt : aM := (yX5_letterAt, cX5_letterAt, 2, (some .int))
abbrev kX5_nextToken : aM := (yX5_nextToken, cX5_nextToken, 1, none)
abbrev kX5_takeNumber : aM := (yX5_takeNumber, cX5_takeNumber, 2, none)
abbrev kX5_isDigit : aM := (yX5_isDigit, cX5_isDigit, 1, (some .boolean))
abbrev kX6_init : aM := (yX6_init, cX6_init, 1, none)
abbrev kX6_begin : aM := (yX6_begin, cX6_begin, 1, none)
abbrev kX6_addGood : aM := (yX6_addGood, cX6_addGood, 3, none)
abbrev kX6_addPair : aM := (yX6_addPair, cX6_addPair, 4, none)
abbrev kX6_weigh : aM := (yX6_weigh, cX6_weigh, 3, none)
abbrev kX6_all : aM := (yX6_all, cX6_all, 1, (some .int))
abbrev kX6_worthOf : aM := (yX6_worthOf, cX6_worthOf, 3, (some .int))
abbrev kX6_worthAlone : aM := (yX6_worthAlone, cX6_worthAlone, 5, (some .int))
abbrev kX6_moreOf : aM := (yX6_moreOf, cX6_moreOf, 5, (some .int))
abbrev kX6_valueOf : aM := (yX6_valueOf, cX6_valueOf, 3, (some .int))
abbrev kX6_ownIn : aM := (yX6_ownIn, cX6_ownIn, 3, (some .int))
abbrev kX6_cellBehind : aM := (yX6_cellBehind, cX6_cellBehind, 2, (some .int))
abbrev kX6_wear : aM := (yX6_wear, cX6_wear, 3, (some .int))
abbrev kX7_init : aM := (yX7_init, cX7_init, 1, none)
abbrev kX7_verdict : aM := (yX7_verdict, cX7_verdict, 3, (some .int))
abbrev kX8_init : aM := (yX8_init, cX8_init, 1, none)
abbrev kX8_verdict : aM := (yX8_verdict, cX8_verdict, 3, (some .int))
abbrev kX9_init : aM := (yX9_init, cX9_init, 1, none)
abbrev kX9_verdict : aM := (yX9_verdict, cX9_verdict, 3, (some .int))
abbrev kX10_init : aM := (yX10_init, cX10_init, 1, none)
abbrev kX10_type : aM := (yX10_type, cX10_type, 2, (some .int))
abbrev kX10_clear : aM := (yX10_clear, cX10_clear, 2, (some .int))
abbrev kX10_suit : aM := (yX10_suit, cX10_suit, 3, (some .int))
abbrev kX10_good : aM := (yX10_good, cX10_good, 3, (some .int))
abbrev kX10_values : aM := (yX10_values, cX10_values, 3, (some .int))
abbrev kX10_now : aM := (yX10_now, cX10_now, 2, (some .int))
abbrev kX10_gives : aM := (yX10_gives, cX10_gives, 4, (some .int))
abbrev kX10_steps : aM := (yX10_steps, cX10_steps, 3, (some .int))
abbrev kX10_undo : aM := (yX10_undo, cX10_undo, 2, (some .int))
abbrev kX10_envy : aM := (yX10_envy, cX10_envy, 2, (some .int))
abbrev kX10_fair : aM := (yX10_fair, cX10_fair, 4, (some .int))
abbrev kX10_cut : aM := (yX10_cut, cX10_cut, 4, (some .int))
abbrev kX10_byTurns : aM := (yX10_byTurns, cX10_byTurns, 5, (some .int))
abbrev kX10_lies : aM := (yX10_lies, cX10_lies, 3, (some .int))
abbrev kX10_sell : aM := (yX10_sell, cX10_sell, 2, (some .int))
abbrev kX10_adds : aM := (yX10_adds, cX10_adds, 2, (some .int))
abbrev kX10_odds : aM := (yX10_odds, cX10_odds, 6, (some .int))
abbrev kX10_foot : aM := (yX10_foot, cX10_foot, 2, (some .int))
abbrev kX10_worn : aM := (yX10_worn, cX10_worn, 3, (some .int))
abbrev kX10_judge : aM := (yX10_judge, cX10_judge, 2, (some .int))
abbrev kX10_saw : aM := (yX10_saw, cX10_saw, 4, (some .int))
abbrev kX10_forget : aM := (yX10_forget, cX10_forget, 2, (some .int))
abbrev kX10_wrong : aM := (yX10_wrong, cX10_wrong, 9, (some .int))
abbrev kX10_asTold : aM := (yX10_asTold, cX10_asTold, 1, (some .int))
abbrev kX10_soonest : aM := (yX10_soonest, cX10_soonest, 9, (some .int))
abbrev kX10_rate : aM := (yX10_rate, cX10_rate, 4, (some .int))
abbrev kX10_keep : aM := (yX10_keep, cX10_keep, 3, (some .int))
abbrev kX10_back : aM := (yX10_back, cX10_back, 3, (some .int))
abbrev kX10_count : aM := (yX10_count, cX10_count, 2, (some .int))
abbrev kX10_trace : aM := (yX10_trace, cX10_trace, 1, (some .long))
abbrev kX10_beginAnew : aM := (yX10_beginAnew, cX10_beginAnew, 1, none)
abbrev kX10_isGood : aM := (yX10_isGood, cX10_isGood, 2, (some .boolean))
abbrev kX10_isCell : aM := (yX10_isCell, cX10_isCell, 2, (some .boolean))
abbrev kX10_isSide : aM := (yX10_isSide, cX10_isSide, 1, (some .boolean))
abbrev kX10_imageOf : aM := (yX10_imageOf, cX10_imageOf, 2, (some (.object "ShoesAtLaw$Now")))
abbrev kX10_remember : aM := (yX10_remember, cX10_remember, 2, none)
abbrev kX10_ownValue : aM := (yX10_ownValue, cX10_ownValue, 2, (some .int))
abbrev kX10_envyOf : aM := (yX10_envyOf, cX10_envyOf, 3, (some .int))
abbrev kX10_agrees : aM := (yX10_agrees, cX10_agrees, 5, (some .boolean))
abbrev kX10_canBeWalked : aM := (yX10_canBeWalked, cX10_canBeWalked, 4, (some .boolean))
abbrev kX10_power : aM := (yX10_power, cX10_power, 4, (some .int))
abbrev kX10_greatestDivisor : aM := (yX10_greatestDivisor, cX10_greatestDivisor, 6, (some .int))
abbrev kX11_init : aM := (yX11_init, cX11_init, 1, none)
abbrev kX11_in : aM := (yX11_in, cX11_in, 6, (some .boolean))
abbrev kX11_isTwo : aM := (yX11_isTwo, cX11_isTwo, 1, (some .boolean))
abbrev kX11_has : aM := (yX11_has, cX11_has, 2, (some .boolean))
abbrev kX11_bits : aM := (yX11_bits, cX11_bits, 3, (some .int))
abbrev kX11_clean : aM := (yX11_clean, cX11_clean, 2, none)
abbrev kX11_begins : aM := (yX11_begins, cX11_begins, 2, none)
abbrev kX11_type : aM := (yX11_type, cX11_type, 2, (some .int))
abbrev kX11_clear : aM := (yX11_clear, cX11_clear, 2, (some .int))
abbrev kX11_first : aM := (yX11_first, cX11_first, 1, (some .int))
abbrev kX11_number : aM := (yX11_number, cX11_number, 6, (some .boolean))
abbrev kX11_ends : aM := (yX11_ends, cX11_ends, 1, (some .boolean))
abbrev kX11_takesGood : aM := (yX11_takesGood, cX11_takesGood, 2, (some .boolean))
abbrev kX11_takesPair : aM := (yX11_takesPair, cX11_takesPair, 3, (some .boolean))
abbrev kX11_takesOne : aM := (yX11_takesOne, cX11_takesOne, 4, (some .boolean))
abbrev kX11_takesItem : aM := (yX11_takesItem, cX11_takesItem, 2, (some .boolean))
abbrev kX11_suit : aM := (yX11_suit, cX11_suit, 4, (some .int))
abbrev kX11_isGood : aM := (yX11_isGood, cX11_isGood, 2, (some .boolean))
abbrev kX11_all : aM := (yX11_all, cX11_all, 1, (some .int))
abbrev kX11_valued : aM := (yX11_valued, cX11_valued, 5, (some .int))
abbrev kX11_goodsOf : aM := (yX11_goodsOf, cX11_goodsOf, 4, (some .int))
abbrev kX11_good : aM := (yX11_good, cX11_good, 3, (some .int))
abbrev kX11_values : aM := (yX11_values, cX11_values, 3, (some .int))
abbrev kX11_now : aM := (yX11_now, cX11_now, 2, (some .int))
abbrev kX11_copies : aM := (yX11_copies, cX11_copies, 5, none)
abbrev kX11_remember : aM := (yX11_remember, cX11_remember, 2, none)
abbrev kX11_gives : aM := (yX11_gives, cX11_gives, 4, (some .int))
abbrev kX11_footOf : aM := (yX11_footOf, cX11_footOf, 2, (some .int))
abbrev kX11_wornBy : aM := (yX11_wornBy, cX11_wornBy, 8, (some .int))
abbrev kX11_stepsOf : aM := (yX11_stepsOf, cX11_stepsOf, 4, (some .int))
abbrev kX11_steps : aM := (yX11_steps, cX11_steps, 4, (some .int))
abbrev kX11_undo : aM := (yX11_undo, cX11_undo, 1, (some .int))
abbrev kX11_envyBy : aM := (yX11_envyBy, cX11_envyBy, 5, (some .int))
abbrev kX11_envy : aM := (yX11_envy, cX11_envy, 2, (some .int))
abbrev kX11_isFair : aM := (yX11_isFair, cX11_isFair, 3, (some .boolean))
abbrev kX11_together : aM := (yX11_together, cX11_together, 2, (some .int))
abbrev kX11_best : aM := (yX11_best, cX11_best, 5, (some .int))
abbrev kX11_fair : aM := (yX11_fair, cX11_fair, 4, (some .int))
abbrev kX11_cut : aM := (yX11_cut, cX11_cut, 9, (some .int))
abbrev kX11_layTurns : aM := (yX11_layTurns, cX11_layTurns, 10, none)
abbrev kX11_layTake : aM := (yX11_layTake, cX11_layTake, 7, none)
abbrev kX11_byTurns : aM := (yX11_byTurns, cX11_byTurns, 3, (some .int))
abbrev kX11_gains : aM := (yX11_gains, cX11_gains, 7, (some .int))
abbrev kX11_lies : aM := (yX11_lies, cX11_lies, 9, (some .int))
abbrev kX11_sell : aM := (yX11_sell, cX11_sell, 6, (some .int))
abbrev kX11_adds : aM := (yX11_adds, cX11_adds, 4, (some .int))
abbrev kX11_odds : aM := (yX11_odds, cX11_odds, 8, (some .int))
abbrev kX11_foot : aM := (yX11_foot, cX11_foot, 2, (some .int))
abbrev kX11_isCell : aM := (yX11_isCell, cX11_isCell, 2, (some .boolean))
abbrev kX11_worn : aM := (yX11_worn, cX11_worn, 3, (some .int))
abbrev kX11_judge : aM := (yX11_judge, cX11_judge, 8, (some .int))
abbrev kX11_saw : aM := (yX11_saw, cX11_saw, 4, (some .int))
abbrev kX11_forget : aM := (yX11_forget, cX11_forget, 2, (some .int))
abbrev kX11_isSo : aM := (yX11_isSo, cX11_isSo, 4, (some .boolean))
abbrev kX11_wrong : aM := (yX11_wrong, cX11_wrong, 5, (some .int))
abbrev kX11_asTold : aM := (yX11_asTold, cX11_asTold, 1, (some .int))
abbrev kX11_place : aM := (yX11_place, cX11_place, 3, (some .int))
abbrev kX11_goes : aM := (yX11_goes, cX11_goes, 7, none)
abbrev kX11_anyOf : aM := (yX11_anyOf, cX11_anyOf, 5, (some .boolean))
abbrev kX11_soonest : aM := (yX11_soonest, cX11_soonest, 6, (some .int))
abbrev kX11_rate : aM := (yX11_rate, cX11_rate, 4, (some .int))
abbrev kX11_keep : aM := (yX11_keep, cX11_keep, 2, (some .int))
abbrev kX11_back : aM := (yX11_back, cX11_back, 2, (some .int))
abbrev kX11_count : aM := (yX11_count, cX11_count, 2, (some .int))
abbrev kX11_trace : aM := (yX11_trace, cX11_trace, 1, (some .long))
abbrev kJ6_bitCount_0f7a4 : aM := (yJ6_bitCount_0f7a4, cJ6_bitCount_0f7a4, 1, (some .int))
abbrev kJ9_max_7cf53 : aM := (yJ9_max_7cf53, cJ9_max_7cf53, 2, (some .int))
abbrev kJ9_min_7cf53 : aM := (yJ9_min_7cf53, cJ9_min_7cf53, 2, (some .int))
