/-- words that hold on in a callee: those of the tables, and the links of nest mates, casts, arrays of ours -/
def aNk (w : Cond) : Bool := match w with
  | .fieldLinkNest .. => true
  | .methodLinkNest .. => true
  | .castable .. => true
  | .arrayOver (.object _) => true
  | _ => false
def aGW (w : Cond) : Bool := goodWord w || aNk w
def lw_gn : List Cond := lw_tbl.filter aGW
def lw_gt : List Cond := lw_tbl.filter goodWord
theorem gn_of {w : Cond} (h : w ∈ lw_tbl) (hg : aGW w = true) : w ∈ lw_gn := List.mem_filter.mpr ⟨h, hg⟩
def aKc (k : aM) (n : Nat) : Prop := Cond.code k.1 k.2.1 k.2.2.1 k.2.2.2 ∈ lw_tbl ∧ Cond.initialized k.1.cls ∈ lw_tbl ∧ (k.1.cls ≠ "java/lang/invoke/MethodHandle" ∧ k.1.cls ≠ "java/lang/invoke/VarHandle" ∧ (parseMethodDescriptor k.1.desc).map (fun d => d.parameters.length) = some n) ∧ k.2.2.1 ≤ 21 ∧ plainName k.1.cls = true
def aKV (k : aM) (n : Nat) : Prop := aKc k n ∧ Cond.instanceMethod k.1 ∈ lw_tbl ∧ Cond.selects k.1.cls k.1 k.1 ∈ lw_tbl
def aKS (k : aM) (n : Nat) : Prop := aKc k n ∧ Cond.static k.1 ∈ lw_tbl
def aKI (k : aM) (n : Nat) : Prop := aKc k n ∧ Cond.instanceMethod k.1 ∈ lw_tbl ∧ k.1.name = "<init>"
theorem knX0_init : aKI kX0_init 0 := ⟨⟨List.mem_of_getElem? (i := 212) (by decide +kernel), List.mem_of_getElem? (i := 58) (by decide +kernel), by decide +kernel, by decide, by decide +kernel⟩, List.mem_of_getElem? (i := 211) (by decide +kernel), rfl⟩
theorem knX1_init : aKI kX1_init 0 := ⟨⟨List.mem_of_getElem? (i := 205) (by decide +kernel), List.mem_of_getElem? (i := 57) (by decide +kernel), by decide +kernel, by decide, by decide +kernel⟩, List.mem_of_getElem? (i := 204) (by decide +kernel), rfl⟩
theorem knX1_verdict : aKV kX1_verdict 2 := ⟨⟨List.mem_of_getElem? (i := 707) (by decide +kernel), List.mem_of_getElem? (i := 57) (by decide +kernel), by decide +kernel, by decide, by decide +kernel⟩, List.mem_of_getElem? (i := 675) (by decide +kernel), List.mem_of_getElem? (i := 676) (by decide +kernel)⟩
theorem knX2_init : aKI kX2_init 0 := ⟨⟨List.mem_of_getElem? (i := 226) (by decide +kernel), List.mem_of_getElem? (i := 60) (by decide +kernel), by decide +kernel, by decide, by decide +kernel⟩, List.mem_of_getElem? (i := 225) (by decide +kernel), rfl⟩
theorem knX3_init : aKI kX3_init 0 := ⟨⟨List.mem_of_getElem? (i := 157) (by decide +kernel), List.mem_of_getElem? (i := 55) (by decide +kernel), by decide +kernel, by decide, by decide +kernel⟩, List.mem_of_getElem? (i := 156) (by decide +kernel), rfl⟩
theorem knX3_begin : aKV kX3_begin 0 := ⟨⟨List.mem_of_getElem? (i := 250) (by decide +kernel), List.mem_of_getElem? (i := 55) (by decide +kernel), by decide +kernel, by decide, by decide +kernel⟩, List.mem_of_getElem? (i := 248) (by decide +kernel), List.mem_of_getElem? (i := 249) (by decide +kernel)⟩
theorem knX3_become : aKV kX3_become 1 := ⟨⟨List.mem_of_getElem? (i := 720) (by decide +kernel), List.mem_of_getElem? (i := 55) (by decide +kernel), by decide +kernel, by decide, by decide +kernel⟩, List.mem_of_getElem? (i := 718) (by decide +kernel), List.mem_of_getElem? (i := 719) (by decide +kernel)⟩
theorem knX3_whose : aKV kX3_whose 1 := ⟨⟨List.mem_of_getElem? (i := 415) (by decide +kernel), List.mem_of_getElem? (i := 55) (by decide +kernel), by decide +kernel, by decide, by decide +kernel⟩, List.mem_of_getElem? (i := 413) (by decide +kernel), List.mem_of_getElem? (i := 414) (by decide +kernel)⟩
theorem knX3_put : aKV kX3_put 2 := ⟨⟨List.mem_of_getElem? (i := 442) (by decide +kernel), List.mem_of_getElem? (i := 55) (by decide +kernel), by decide +kernel, by decide, by decide +kernel⟩, List.mem_of_getElem? (i := 440) (by decide +kernel), List.mem_of_getElem? (i := 441) (by decide +kernel)⟩
theorem knX3_setOf : aKV kX3_setOf 2 := ⟨⟨List.mem_of_getElem? (i := 434) (by decide +kernel), List.mem_of_getElem? (i := 55) (by decide +kernel), by decide +kernel, by decide, by decide +kernel⟩, List.mem_of_getElem? (i := 432) (by decide +kernel), List.mem_of_getElem? (i := 433) (by decide +kernel)⟩
theorem knX3_walk : aKV kX3_walk 1 := ⟨⟨List.mem_of_getElem? (i := 465) (by decide +kernel), List.mem_of_getElem? (i := 55) (by decide +kernel), by decide +kernel, by decide, by decide +kernel⟩, List.mem_of_getElem? (i := 463) (by decide +kernel), List.mem_of_getElem? (i := 464) (by decide +kernel)⟩
theorem knX3_unwalk : aKV kX3_unwalk 0 := ⟨⟨List.mem_of_getElem? (i := 481) (by decide +kernel), List.mem_of_getElem? (i := 55) (by decide +kernel), by decide +kernel, by decide, by decide +kernel⟩, List.mem_of_getElem? (i := 479) (by decide +kernel), List.mem_of_getElem? (i := 480) (by decide +kernel)⟩
theorem knX3_footOf : aKV kX3_footOf 1 := ⟨⟨List.mem_of_getElem? (i := 461) (by decide +kernel), List.mem_of_getElem? (i := 55) (by decide +kernel), by decide +kernel, by decide, by decide +kernel⟩, List.mem_of_getElem? (i := 459) (by decide +kernel), List.mem_of_getElem? (i := 460) (by decide +kernel)⟩
theorem knX3_stepsOf : aKV kX3_stepsOf 1 := ⟨⟨List.mem_of_getElem? (i := 457) (by decide +kernel), List.mem_of_getElem? (i := 55) (by decide +kernel), by decide +kernel, by decide, by decide +kernel⟩, List.mem_of_getElem? (i := 455) (by decide +kernel), List.mem_of_getElem? (i := 456) (by decide +kernel)⟩
theorem knX3_firstRunOver : aKV kX3_firstRunOver 1 := ⟨⟨List.mem_of_getElem? (i := 627) (by decide +kernel), List.mem_of_getElem? (i := 55) (by decide +kernel), by decide +kernel, by decide, by decide +kernel⟩, List.mem_of_getElem? (i := 625) (by decide +kernel), List.mem_of_getElem? (i := 626) (by decide +kernel)⟩
theorem knX3_longestRun : aKV kX3_longestRun 0 := ⟨⟨List.mem_of_getElem? (i := 635) (by decide +kernel), List.mem_of_getElem? (i := 55) (by decide +kernel), by decide +kernel, by decide, by decide +kernel⟩, List.mem_of_getElem? (i := 633) (by decide +kernel), List.mem_of_getElem? (i := 634) (by decide +kernel)⟩
theorem knX3_changes : aKV kX3_changes 0 := ⟨⟨List.mem_of_getElem? (i := 640) (by decide +kernel), List.mem_of_getElem? (i := 55) (by decide +kernel), by decide +kernel, by decide, by decide +kernel⟩, List.mem_of_getElem? (i := 638) (by decide +kernel), List.mem_of_getElem? (i := 639) (by decide +kernel)⟩
theorem knX3_changesAt : aKV kX3_changesAt 1 := ⟨⟨List.mem_of_getElem? (i := 631) (by decide +kernel), List.mem_of_getElem? (i := 55) (by decide +kernel), by decide +kernel, by decide, by decide +kernel⟩, List.mem_of_getElem? (i := 630) (by decide +kernel), List.mem_of_getElem? (i := 20) (by decide +kernel)⟩
theorem knX4_init : aKI kX4_init 0 := ⟨⟨List.mem_of_getElem? (i := 177) (by decide +kernel), List.mem_of_getElem? (i := 56) (by decide +kernel), by decide +kernel, by decide, by decide +kernel⟩, List.mem_of_getElem? (i := 176) (by decide +kernel), rfl⟩
theorem knX4_total : aKV kX4_total 2 := ⟨⟨List.mem_of_getElem? (i := 526) (by decide +kernel), List.mem_of_getElem? (i := 56) (by decide +kernel), by decide +kernel, by decide, by decide +kernel⟩, List.mem_of_getElem? (i := 524) (by decide +kernel), List.mem_of_getElem? (i := 525) (by decide +kernel)⟩
theorem knX4_lead : aKV kX4_lead 3 := ⟨⟨List.mem_of_getElem? (i := 513) (by decide +kernel), List.mem_of_getElem? (i := 56) (by decide +kernel), by decide +kernel, by decide, by decide +kernel⟩, List.mem_of_getElem? (i := 512) (by decide +kernel), List.mem_of_getElem? (i := 16) (by decide +kernel)⟩
theorem knX4_isFair : aKV kX4_isFair 2 := ⟨⟨List.mem_of_getElem? (i := 509) (by decide +kernel), List.mem_of_getElem? (i := 56) (by decide +kernel), by decide +kernel, by decide, by decide +kernel⟩, List.mem_of_getElem? (i := 508) (by decide +kernel), List.mem_of_getElem? (i := 15) (by decide +kernel)⟩
theorem knX4_fairCount : aKV kX4_fairCount 1 := ⟨⟨List.mem_of_getElem? (i := 504) (by decide +kernel), List.mem_of_getElem? (i := 56) (by decide +kernel), by decide +kernel, by decide, by decide +kernel⟩, List.mem_of_getElem? (i := 502) (by decide +kernel), List.mem_of_getElem? (i := 503) (by decide +kernel)⟩
theorem knX4_best : aKV kX4_best 1 := ⟨⟨List.mem_of_getElem? (i := 522) (by decide +kernel), List.mem_of_getElem? (i := 56) (by decide +kernel), by decide +kernel, by decide, by decide +kernel⟩, List.mem_of_getElem? (i := 520) (by decide +kernel), List.mem_of_getElem? (i := 521) (by decide +kernel)⟩
theorem knX4_mostTotal : aKV kX4_mostTotal 1 := ⟨⟨List.mem_of_getElem? (i := 531) (by decide +kernel), List.mem_of_getElem? (i := 56) (by decide +kernel), by decide +kernel, by decide, by decide +kernel⟩, List.mem_of_getElem? (i := 529) (by decide +kernel), List.mem_of_getElem? (i := 530) (by decide +kernel)⟩
theorem knX4_leftToCutter : aKV kX4_leftToCutter 3 := ⟨⟨List.mem_of_getElem? (i := 544) (by decide +kernel), List.mem_of_getElem? (i := 56) (by decide +kernel), by decide +kernel, by decide, by decide +kernel⟩, List.mem_of_getElem? (i := 542) (by decide +kernel), List.mem_of_getElem? (i := 543) (by decide +kernel)⟩
theorem knX4_bestCut : aKV kX4_bestCut 2 := ⟨⟨List.mem_of_getElem? (i := 540) (by decide +kernel), List.mem_of_getElem? (i := 56) (by decide +kernel), by decide +kernel, by decide, by decide +kernel⟩, List.mem_of_getElem? (i := 538) (by decide +kernel), List.mem_of_getElem? (i := 539) (by decide +kernel)⟩
theorem knX4_outcome : aKS kX4_outcome 5 := ⟨⟨List.mem_of_getElem? (i := 552) (by decide +kernel), List.mem_of_getElem? (i := 56) (by decide +kernel), by decide +kernel, by decide, by decide +kernel⟩, List.mem_of_getElem? (i := 551) (by decide +kernel)⟩
theorem knX4_seekLie : aKV kX4_seekLie 2 := ⟨⟨List.mem_of_getElem? (i := 562) (by decide +kernel), List.mem_of_getElem? (i := 56) (by decide +kernel), by decide +kernel, by decide, by decide +kernel⟩, List.mem_of_getElem? (i := 560) (by decide +kernel), List.mem_of_getElem? (i := 561) (by decide +kernel)⟩
theorem knX4_listOthersFair : aKV kX4_listOthersFair 2 := ⟨⟨List.mem_of_getElem? (i := 566) (by decide +kernel), List.mem_of_getElem? (i := 56) (by decide +kernel), by decide +kernel, by decide, by decide +kernel⟩, List.mem_of_getElem? (i := 565) (by decide +kernel), List.mem_of_getElem? (i := 17) (by decide +kernel)⟩
theorem knX4_ownInBestTold : aKV kX4_ownInBestTold 2 := ⟨⟨List.mem_of_getElem? (i := 570) (by decide +kernel), List.mem_of_getElem? (i := 56) (by decide +kernel), by decide +kernel, by decide, by decide +kernel⟩, List.mem_of_getElem? (i := 569) (by decide +kernel), List.mem_of_getElem? (i := 18) (by decide +kernel)⟩
theorem knX4_greatestSale : aKV kX4_greatestSale 2 := ⟨⟨List.mem_of_getElem? (i := 579) (by decide +kernel), List.mem_of_getElem? (i := 56) (by decide +kernel), by decide +kernel, by decide, by decide +kernel⟩, List.mem_of_getElem? (i := 577) (by decide +kernel), List.mem_of_getElem? (i := 578) (by decide +kernel)⟩
theorem knX4_fairLots : aKV kX4_fairLots 2 := ⟨⟨List.mem_of_getElem? (i := 598) (by decide +kernel), List.mem_of_getElem? (i := 56) (by decide +kernel), by decide +kernel, by decide, by decide +kernel⟩, List.mem_of_getElem? (i := 596) (by decide +kernel), List.mem_of_getElem? (i := 597) (by decide +kernel)⟩
theorem knX5_init : aKI kX5_init 0 := ⟨⟨List.mem_of_getElem? (i := 79) (by decide +kernel), List.mem_of_getElem? (i := 53) (by decide +kernel), by decide +kernel, by decide, by decide +kernel⟩, List.mem_of_getElem? (i := 78) (by decide +kernel), rfl⟩
theorem knX5_add : aKV kX5_add 1 := ⟨⟨List.mem_of_getElem? (i := 313) (by decide +kernel), List.mem_of_getElem? (i := 53) (by decide +kernel), by decide +kernel, by decide, by decide +kernel⟩, List.mem_of_getElem? (i := 311) (by decide +kernel), List.mem_of_getElem? (i := 312) (by decide +kernel)⟩
theorem knX5_empty : aKV kX5_empty 0 := ⟨⟨List.mem_of_getElem? (i := 321) (by decide +kernel), List.mem_of_getElem? (i := 53) (by decide +kernel), by decide +kernel, by decide, by decide +kernel⟩, List.mem_of_getElem? (i := 319) (by decide +kernel), List.mem_of_getElem? (i := 320) (by decide +kernel)⟩
theorem knX5_read : aKV kX5_read 1 := ⟨⟨List.mem_of_getElem? (i := 329) (by decide +kernel), List.mem_of_getElem? (i := 53) (by decide +kernel), by decide +kernel, by decide, by decide +kernel⟩, List.mem_of_getElem? (i := 327) (by decide +kernel), List.mem_of_getElem? (i := 328) (by decide +kernel)⟩
theorem knX5_readGood : aKV kX5_readGood 1 := ⟨⟨List.mem_of_getElem? (i := 352) (by decide +kernel), List.mem_of_getElem? (i := 53) (by decide +kernel), by decide +kernel, by decide, by decide +kernel⟩, List.mem_of_getElem? (i := 351) (by decide +kernel), List.mem_of_getElem? (i := 4) (by decide +kernel)⟩
theorem knX5_readPair : aKV kX5_readPair 1 := ⟨⟨List.mem_of_getElem? (i := 368) (by decide +kernel), List.mem_of_getElem? (i := 53) (by decide +kernel), by decide +kernel, by decide, by decide +kernel⟩, List.mem_of_getElem? (i := 367) (by decide +kernel), List.mem_of_getElem? (i := 7) (by decide +kernel)⟩
theorem knX5_readHops : aKV kX5_readHops 1 := ⟨⟨List.mem_of_getElem? (i := 376) (by decide +kernel), List.mem_of_getElem? (i := 53) (by decide +kernel), by decide +kernel, by decide, by decide +kernel⟩, List.mem_of_getElem? (i := 375) (by decide +kernel), List.mem_of_getElem? (i := 8) (by decide +kernel)⟩
theorem knX5_readCells : aKV kX5_readCells 1 := ⟨⟨List.mem_of_getElem? (i := 380) (by decide +kernel), List.mem_of_getElem? (i := 53) (by decide +kernel), by decide +kernel, by decide, by decide +kernel⟩, List.mem_of_getElem? (i := 379) (by decide +kernel), List.mem_of_getElem? (i := 9) (by decide +kernel)⟩
theorem knX5_nextNumber : aKV kX5_nextNumber 2 := ⟨⟨List.mem_of_getElem? (i := 356) (by decide +kernel), List.mem_of_getElem? (i := 53) (by decide +kernel), by decide +kernel, by decide, by decide +kernel⟩, List.mem_of_getElem? (i := 355) (by decide +kernel), List.mem_of_getElem? (i := 5) (by decide +kernel)⟩
theorem knX5_nextEnds : aKV kX5_nextEnds 0 := ⟨⟨List.mem_of_getElem? (i := 364) (by decide +kernel), List.mem_of_getElem? (i := 53) (by decide +kernel), by decide +kernel, by decide, by decide +kernel⟩, List.mem_of_getElem? (i := 363) (by decide +kernel), List.mem_of_getElem? (i := 6) (by decide +kernel)⟩
theorem knX5_letterAt : aKV kX5_letterAt 1 := ⟨⟨List.mem_of_getElem? (i := 338) (by decide +kernel), List.mem_of_getElem? (i := 53) (by decide +kernel), by decide +kernel, by decide, by decide +kernel⟩, List.mem_of_getElem? (i := 337) (by decide +kernel), List.mem_of_getElem? (i := 2) (by decide +kernel)⟩
theorem knX5_nextToken : aKV kX5_nextToken 0 := ⟨⟨List.mem_of_getElem? (i := 334) (by decide +kernel), List.mem_of_getElem? (i := 53) (by decide +kernel), by decide +kernel, by decide, by decide +kernel⟩, List.mem_of_getElem? (i := 333) (by decide +kernel), List.mem_of_getElem? (i := 1) (by decide +kernel)⟩
theorem knX5_takeNumber : aKV kX5_takeNumber 0 := ⟨⟨List.mem_of_getElem? (i := 345) (by decide +kernel), List.mem_of_getElem? (i := 53) (by decide +kernel), by decide +kernel, by decide, by decide +kernel⟩, List.mem_of_getElem? (i := 344) (by decide +kernel), List.mem_of_getElem? (i := 3) (by decide +kernel)⟩
theorem knX5_isDigit : aKS kX5_isDigit 1 := ⟨⟨List.mem_of_getElem? (i := 341) (by decide +kernel), List.mem_of_getElem? (i := 53) (by decide +kernel), by decide +kernel, by decide, by decide +kernel⟩, List.mem_of_getElem? (i := 340) (by decide +kernel)⟩
theorem knX6_init : aKI kX6_init 0 := ⟨⟨List.mem_of_getElem? (i := 112) (by decide +kernel), List.mem_of_getElem? (i := 54) (by decide +kernel), by decide +kernel, by decide, by decide +kernel⟩, List.mem_of_getElem? (i := 111) (by decide +kernel), rfl⟩
theorem knX6_begin : aKV kX6_begin 0 := ⟨⟨List.mem_of_getElem? (i := 117) (by decide +kernel), List.mem_of_getElem? (i := 54) (by decide +kernel), by decide +kernel, by decide, by decide +kernel⟩, List.mem_of_getElem? (i := 115) (by decide +kernel), List.mem_of_getElem? (i := 116) (by decide +kernel)⟩
theorem knX6_addGood : aKV kX6_addGood 2 := ⟨⟨List.mem_of_getElem? (i := 360) (by decide +kernel), List.mem_of_getElem? (i := 54) (by decide +kernel), by decide +kernel, by decide, by decide +kernel⟩, List.mem_of_getElem? (i := 358) (by decide +kernel), List.mem_of_getElem? (i := 359) (by decide +kernel)⟩
theorem knX6_addPair : aKV kX6_addPair 3 := ⟨⟨List.mem_of_getElem? (i := 372) (by decide +kernel), List.mem_of_getElem? (i := 54) (by decide +kernel), by decide +kernel, by decide, by decide +kernel⟩, List.mem_of_getElem? (i := 370) (by decide +kernel), List.mem_of_getElem? (i := 371) (by decide +kernel)⟩
theorem knX6_weigh : aKV kX6_weigh 0 := ⟨⟨List.mem_of_getElem? (i := 384) (by decide +kernel), List.mem_of_getElem? (i := 54) (by decide +kernel), by decide +kernel, by decide, by decide +kernel⟩, List.mem_of_getElem? (i := 382) (by decide +kernel), List.mem_of_getElem? (i := 383) (by decide +kernel)⟩
theorem knX6_all : aKV kX6_all 0 := ⟨⟨List.mem_of_getElem? (i := 388) (by decide +kernel), List.mem_of_getElem? (i := 54) (by decide +kernel), by decide +kernel, by decide, by decide +kernel⟩, List.mem_of_getElem? (i := 386) (by decide +kernel), List.mem_of_getElem? (i := 387) (by decide +kernel)⟩
theorem knX6_worthOf : aKV kX6_worthOf 2 := ⟨⟨List.mem_of_getElem? (i := 396) (by decide +kernel), List.mem_of_getElem? (i := 54) (by decide +kernel), by decide +kernel, by decide, by decide +kernel⟩, List.mem_of_getElem? (i := 394) (by decide +kernel), List.mem_of_getElem? (i := 395) (by decide +kernel)⟩
theorem knX6_worthAlone : aKV kX6_worthAlone 2 := ⟨⟨List.mem_of_getElem? (i := 392) (by decide +kernel), List.mem_of_getElem? (i := 54) (by decide +kernel), by decide +kernel, by decide, by decide +kernel⟩, List.mem_of_getElem? (i := 390) (by decide +kernel), List.mem_of_getElem? (i := 391) (by decide +kernel)⟩
theorem knX6_moreOf : aKV kX6_moreOf 2 := ⟨⟨List.mem_of_getElem? (i := 403) (by decide +kernel), List.mem_of_getElem? (i := 54) (by decide +kernel), by decide +kernel, by decide, by decide +kernel⟩, List.mem_of_getElem? (i := 402) (by decide +kernel), List.mem_of_getElem? (i := 10) (by decide +kernel)⟩
theorem knX6_valueOf : aKV kX6_valueOf 2 := ⟨⟨List.mem_of_getElem? (i := 426) (by decide +kernel), List.mem_of_getElem? (i := 54) (by decide +kernel), by decide +kernel, by decide, by decide +kernel⟩, List.mem_of_getElem? (i := 424) (by decide +kernel), List.mem_of_getElem? (i := 425) (by decide +kernel)⟩
theorem knX6_ownIn : aKV kX6_ownIn 2 := ⟨⟨List.mem_of_getElem? (i := 517) (by decide +kernel), List.mem_of_getElem? (i := 54) (by decide +kernel), by decide +kernel, by decide, by decide +kernel⟩, List.mem_of_getElem? (i := 515) (by decide +kernel), List.mem_of_getElem? (i := 516) (by decide +kernel)⟩
theorem knX6_cellBehind : aKV kX6_cellBehind 1 := ⟨⟨List.mem_of_getElem? (i := 469) (by decide +kernel), List.mem_of_getElem? (i := 54) (by decide +kernel), by decide +kernel, by decide, by decide +kernel⟩, List.mem_of_getElem? (i := 467) (by decide +kernel), List.mem_of_getElem? (i := 468) (by decide +kernel)⟩
theorem knX6_wear : aKV kX6_wear 2 := ⟨⟨List.mem_of_getElem? (i := 473) (by decide +kernel), List.mem_of_getElem? (i := 54) (by decide +kernel), by decide +kernel, by decide, by decide +kernel⟩, List.mem_of_getElem? (i := 471) (by decide +kernel), List.mem_of_getElem? (i := 472) (by decide +kernel)⟩
theorem knX7_init : aKI kX7_init 0 := ⟨⟨List.mem_of_getElem? (i := 240) (by decide +kernel), List.mem_of_getElem? (i := 62) (by decide +kernel), by decide +kernel, by decide, by decide +kernel⟩, List.mem_of_getElem? (i := 239) (by decide +kernel), rfl⟩
theorem knX8_init : aKI kX8_init 0 := ⟨⟨List.mem_of_getElem? (i := 233) (by decide +kernel), List.mem_of_getElem? (i := 61) (by decide +kernel), by decide +kernel, by decide, by decide +kernel⟩, List.mem_of_getElem? (i := 232) (by decide +kernel), rfl⟩
theorem knX9_init : aKI kX9_init 0 := ⟨⟨List.mem_of_getElem? (i := 219) (by decide +kernel), List.mem_of_getElem? (i := 59) (by decide +kernel), by decide +kernel, by decide, by decide +kernel⟩, List.mem_of_getElem? (i := 218) (by decide +kernel), rfl⟩
theorem knX10_init : aKI kX10_init 0 := ⟨⟨List.mem_of_getElem? (i := 71) (by decide +kernel), List.mem_of_getElem? (i := 52) (by decide +kernel), by decide +kernel, by decide, by decide +kernel⟩, List.mem_of_getElem? (i := 70) (by decide +kernel), rfl⟩
theorem knX10_type : aKV kX10_type 1 := ⟨⟨List.mem_of_getElem? (i := 309) (by decide +kernel), List.mem_of_getElem? (i := 52) (by decide +kernel), by decide +kernel, by decide, by decide +kernel⟩, List.mem_of_getElem? (i := 307) (by decide +kernel), List.mem_of_getElem? (i := 308) (by decide +kernel)⟩
theorem knX10_clear : aKV kX10_clear 0 := ⟨⟨List.mem_of_getElem? (i := 317) (by decide +kernel), List.mem_of_getElem? (i := 52) (by decide +kernel), by decide +kernel, by decide, by decide +kernel⟩, List.mem_of_getElem? (i := 315) (by decide +kernel), List.mem_of_getElem? (i := 316) (by decide +kernel)⟩
theorem knX10_suit : aKV kX10_suit 0 := ⟨⟨List.mem_of_getElem? (i := 325) (by decide +kernel), List.mem_of_getElem? (i := 52) (by decide +kernel), by decide +kernel, by decide, by decide +kernel⟩, List.mem_of_getElem? (i := 323) (by decide +kernel), List.mem_of_getElem? (i := 324) (by decide +kernel)⟩
theorem knX10_good : aKV kX10_good 2 := ⟨⟨List.mem_of_getElem? (i := 407) (by decide +kernel), List.mem_of_getElem? (i := 52) (by decide +kernel), by decide +kernel, by decide, by decide +kernel⟩, List.mem_of_getElem? (i := 405) (by decide +kernel), List.mem_of_getElem? (i := 406) (by decide +kernel)⟩
theorem knX10_values : aKV kX10_values 2 := ⟨⟨List.mem_of_getElem? (i := 420) (by decide +kernel), List.mem_of_getElem? (i := 52) (by decide +kernel), by decide +kernel, by decide, by decide +kernel⟩, List.mem_of_getElem? (i := 418) (by decide +kernel), List.mem_of_getElem? (i := 419) (by decide +kernel)⟩
theorem knX10_now : aKV kX10_now 1 := ⟨⟨List.mem_of_getElem? (i := 430) (by decide +kernel), List.mem_of_getElem? (i := 52) (by decide +kernel), by decide +kernel, by decide, by decide +kernel⟩, List.mem_of_getElem? (i := 428) (by decide +kernel), List.mem_of_getElem? (i := 429) (by decide +kernel)⟩
theorem knX10_gives : aKV kX10_gives 2 := ⟨⟨List.mem_of_getElem? (i := 438) (by decide +kernel), List.mem_of_getElem? (i := 52) (by decide +kernel), by decide +kernel, by decide, by decide +kernel⟩, List.mem_of_getElem? (i := 436) (by decide +kernel), List.mem_of_getElem? (i := 437) (by decide +kernel)⟩
theorem knX10_steps : aKV kX10_steps 1 := ⟨⟨List.mem_of_getElem? (i := 453) (by decide +kernel), List.mem_of_getElem? (i := 52) (by decide +kernel), by decide +kernel, by decide, by decide +kernel⟩, List.mem_of_getElem? (i := 451) (by decide +kernel), List.mem_of_getElem? (i := 452) (by decide +kernel)⟩
theorem knX10_undo : aKV kX10_undo 0 := ⟨⟨List.mem_of_getElem? (i := 477) (by decide +kernel), List.mem_of_getElem? (i := 52) (by decide +kernel), by decide +kernel, by decide, by decide +kernel⟩, List.mem_of_getElem? (i := 475) (by decide +kernel), List.mem_of_getElem? (i := 476) (by decide +kernel)⟩
theorem knX10_envy : aKV kX10_envy 1 := ⟨⟨List.mem_of_getElem? (i := 485) (by decide +kernel), List.mem_of_getElem? (i := 52) (by decide +kernel), by decide +kernel, by decide, by decide +kernel⟩, List.mem_of_getElem? (i := 483) (by decide +kernel), List.mem_of_getElem? (i := 484) (by decide +kernel)⟩
theorem knX10_fair : aKV kX10_fair 1 := ⟨⟨List.mem_of_getElem? (i := 500) (by decide +kernel), List.mem_of_getElem? (i := 52) (by decide +kernel), by decide +kernel, by decide, by decide +kernel⟩, List.mem_of_getElem? (i := 498) (by decide +kernel), List.mem_of_getElem? (i := 499) (by decide +kernel)⟩
theorem knX10_cut : aKV kX10_cut 2 := ⟨⟨List.mem_of_getElem? (i := 536) (by decide +kernel), List.mem_of_getElem? (i := 52) (by decide +kernel), by decide +kernel, by decide, by decide +kernel⟩, List.mem_of_getElem? (i := 534) (by decide +kernel), List.mem_of_getElem? (i := 535) (by decide +kernel)⟩
theorem knX10_byTurns : aKV kX10_byTurns 2 := ⟨⟨List.mem_of_getElem? (i := 549) (by decide +kernel), List.mem_of_getElem? (i := 52) (by decide +kernel), by decide +kernel, by decide, by decide +kernel⟩, List.mem_of_getElem? (i := 547) (by decide +kernel), List.mem_of_getElem? (i := 548) (by decide +kernel)⟩
theorem knX10_lies : aKV kX10_lies 2 := ⟨⟨List.mem_of_getElem? (i := 558) (by decide +kernel), List.mem_of_getElem? (i := 52) (by decide +kernel), by decide +kernel, by decide, by decide +kernel⟩, List.mem_of_getElem? (i := 556) (by decide +kernel), List.mem_of_getElem? (i := 557) (by decide +kernel)⟩
theorem knX10_sell : aKV kX10_sell 1 := ⟨⟨List.mem_of_getElem? (i := 575) (by decide +kernel), List.mem_of_getElem? (i := 52) (by decide +kernel), by decide +kernel, by decide, by decide +kernel⟩, List.mem_of_getElem? (i := 573) (by decide +kernel), List.mem_of_getElem? (i := 574) (by decide +kernel)⟩
theorem knX10_adds : aKV kX10_adds 1 := ⟨⟨List.mem_of_getElem? (i := 589) (by decide +kernel), List.mem_of_getElem? (i := 52) (by decide +kernel), by decide +kernel, by decide, by decide +kernel⟩, List.mem_of_getElem? (i := 587) (by decide +kernel), List.mem_of_getElem? (i := 588) (by decide +kernel)⟩
theorem knX10_odds : aKV kX10_odds 2 := ⟨⟨List.mem_of_getElem? (i := 594) (by decide +kernel), List.mem_of_getElem? (i := 52) (by decide +kernel), by decide +kernel, by decide, by decide +kernel⟩, List.mem_of_getElem? (i := 592) (by decide +kernel), List.mem_of_getElem? (i := 593) (by decide +kernel)⟩
theorem knX10_foot : aKV kX10_foot 1 := ⟨⟨List.mem_of_getElem? (i := 610) (by decide +kernel), List.mem_of_getElem? (i := 52) (by decide +kernel), by decide +kernel, by decide, by decide +kernel⟩, List.mem_of_getElem? (i := 608) (by decide +kernel), List.mem_of_getElem? (i := 609) (by decide +kernel)⟩
theorem knX10_worn : aKV kX10_worn 2 := ⟨⟨List.mem_of_getElem? (i := 615) (by decide +kernel), List.mem_of_getElem? (i := 52) (by decide +kernel), by decide +kernel, by decide, by decide +kernel⟩, List.mem_of_getElem? (i := 613) (by decide +kernel), List.mem_of_getElem? (i := 614) (by decide +kernel)⟩
theorem knX10_judge : aKV kX10_judge 1 := ⟨⟨List.mem_of_getElem? (i := 623) (by decide +kernel), List.mem_of_getElem? (i := 52) (by decide +kernel), by decide +kernel, by decide, by decide +kernel⟩, List.mem_of_getElem? (i := 621) (by decide +kernel), List.mem_of_getElem? (i := 622) (by decide +kernel)⟩
theorem knX10_saw : aKV kX10_saw 3 := ⟨⟨List.mem_of_getElem? (i := 644) (by decide +kernel), List.mem_of_getElem? (i := 52) (by decide +kernel), by decide +kernel, by decide, by decide +kernel⟩, List.mem_of_getElem? (i := 642) (by decide +kernel), List.mem_of_getElem? (i := 643) (by decide +kernel)⟩
theorem knX10_forget : aKV kX10_forget 0 := ⟨⟨List.mem_of_getElem? (i := 648) (by decide +kernel), List.mem_of_getElem? (i := 52) (by decide +kernel), by decide +kernel, by decide, by decide +kernel⟩, List.mem_of_getElem? (i := 646) (by decide +kernel), List.mem_of_getElem? (i := 647) (by decide +kernel)⟩
theorem knX10_wrong : aKV kX10_wrong 1 := ⟨⟨List.mem_of_getElem? (i := 652) (by decide +kernel), List.mem_of_getElem? (i := 52) (by decide +kernel), by decide +kernel, by decide, by decide +kernel⟩, List.mem_of_getElem? (i := 650) (by decide +kernel), List.mem_of_getElem? (i := 651) (by decide +kernel)⟩
theorem knX10_asTold : aKV kX10_asTold 0 := ⟨⟨List.mem_of_getElem? (i := 660) (by decide +kernel), List.mem_of_getElem? (i := 52) (by decide +kernel), by decide +kernel, by decide, by decide +kernel⟩, List.mem_of_getElem? (i := 658) (by decide +kernel), List.mem_of_getElem? (i := 659) (by decide +kernel)⟩
theorem knX10_soonest : aKV kX10_soonest 3 := ⟨⟨List.mem_of_getElem? (i := 664) (by decide +kernel), List.mem_of_getElem? (i := 52) (by decide +kernel), by decide +kernel, by decide, by decide +kernel⟩, List.mem_of_getElem? (i := 662) (by decide +kernel), List.mem_of_getElem? (i := 663) (by decide +kernel)⟩
theorem knX10_rate : aKV kX10_rate 2 := ⟨⟨List.mem_of_getElem? (i := 672) (by decide +kernel), List.mem_of_getElem? (i := 52) (by decide +kernel), by decide +kernel, by decide, by decide +kernel⟩, List.mem_of_getElem? (i := 670) (by decide +kernel), List.mem_of_getElem? (i := 671) (by decide +kernel)⟩
theorem knX10_keep : aKV kX10_keep 1 := ⟨⟨List.mem_of_getElem? (i := 712) (by decide +kernel), List.mem_of_getElem? (i := 52) (by decide +kernel), by decide +kernel, by decide, by decide +kernel⟩, List.mem_of_getElem? (i := 710) (by decide +kernel), List.mem_of_getElem? (i := 711) (by decide +kernel)⟩
theorem knX10_back : aKV kX10_back 1 := ⟨⟨List.mem_of_getElem? (i := 725) (by decide +kernel), List.mem_of_getElem? (i := 52) (by decide +kernel), by decide +kernel, by decide, by decide +kernel⟩, List.mem_of_getElem? (i := 723) (by decide +kernel), List.mem_of_getElem? (i := 724) (by decide +kernel)⟩
theorem knX10_count : aKV kX10_count 1 := ⟨⟨List.mem_of_getElem? (i := 729) (by decide +kernel), List.mem_of_getElem? (i := 52) (by decide +kernel), by decide +kernel, by decide, by decide +kernel⟩, List.mem_of_getElem? (i := 727) (by decide +kernel), List.mem_of_getElem? (i := 728) (by decide +kernel)⟩
theorem knX10_trace : aKV kX10_trace 0 := ⟨⟨List.mem_of_getElem? (i := 733) (by decide +kernel), List.mem_of_getElem? (i := 52) (by decide +kernel), by decide +kernel, by decide, by decide +kernel⟩, List.mem_of_getElem? (i := 731) (by decide +kernel), List.mem_of_getElem? (i := 732) (by decide +kernel)⟩
theorem knX10_beginAnew : aKV kX10_beginAnew 0 := ⟨⟨List.mem_of_getElem? (i := 246) (by decide +kernel), List.mem_of_getElem? (i := 52) (by decide +kernel), by decide +kernel, by decide, by decide +kernel⟩, List.mem_of_getElem? (i := 245) (by decide +kernel), List.mem_of_getElem? (i := 0) (by decide +kernel)⟩
theorem knX10_isGood : aKV kX10_isGood 1 := ⟨⟨List.mem_of_getElem? (i := 411) (by decide +kernel), List.mem_of_getElem? (i := 52) (by decide +kernel), by decide +kernel, by decide, by decide +kernel⟩, List.mem_of_getElem? (i := 410) (by decide +kernel), List.mem_of_getElem? (i := 11) (by decide +kernel)⟩
theorem knX10_isCell : aKV kX10_isCell 1 := ⟨⟨List.mem_of_getElem? (i := 619) (by decide +kernel), List.mem_of_getElem? (i := 52) (by decide +kernel), by decide +kernel, by decide, by decide +kernel⟩, List.mem_of_getElem? (i := 618) (by decide +kernel), List.mem_of_getElem? (i := 19) (by decide +kernel)⟩
theorem knX10_isSide : aKS kX10_isSide 1 := ⟨⟨List.mem_of_getElem? (i := 399) (by decide +kernel), List.mem_of_getElem? (i := 52) (by decide +kernel), by decide +kernel, by decide, by decide +kernel⟩, List.mem_of_getElem? (i := 398) (by decide +kernel)⟩
theorem knX10_imageOf : aKV kX10_imageOf 1 := ⟨⟨List.mem_of_getElem? (i := 716) (by decide +kernel), List.mem_of_getElem? (i := 52) (by decide +kernel), by decide +kernel, by decide, by decide +kernel⟩, List.mem_of_getElem? (i := 715) (by decide +kernel), List.mem_of_getElem? (i := 23) (by decide +kernel)⟩
theorem knX10_remember : aKV kX10_remember 1 := ⟨⟨List.mem_of_getElem? (i := 446) (by decide +kernel), List.mem_of_getElem? (i := 52) (by decide +kernel), by decide +kernel, by decide, by decide +kernel⟩, List.mem_of_getElem? (i := 445) (by decide +kernel), List.mem_of_getElem? (i := 12) (by decide +kernel)⟩
theorem knX10_ownValue : aKV kX10_ownValue 1 := ⟨⟨List.mem_of_getElem? (i := 493) (by decide +kernel), List.mem_of_getElem? (i := 52) (by decide +kernel), by decide +kernel, by decide, by decide +kernel⟩, List.mem_of_getElem? (i := 492) (by decide +kernel), List.mem_of_getElem? (i := 14) (by decide +kernel)⟩
theorem knX10_envyOf : aKV kX10_envyOf 1 := ⟨⟨List.mem_of_getElem? (i := 489) (by decide +kernel), List.mem_of_getElem? (i := 52) (by decide +kernel), by decide +kernel, by decide, by decide +kernel⟩, List.mem_of_getElem? (i := 488) (by decide +kernel), List.mem_of_getElem? (i := 13) (by decide +kernel)⟩
theorem knX10_agrees : aKV kX10_agrees 2 := ⟨⟨List.mem_of_getElem? (i := 656) (by decide +kernel), List.mem_of_getElem? (i := 52) (by decide +kernel), by decide +kernel, by decide, by decide +kernel⟩, List.mem_of_getElem? (i := 655) (by decide +kernel), List.mem_of_getElem? (i := 21) (by decide +kernel)⟩
theorem knX10_canBeWalked : aKV kX10_canBeWalked 2 := ⟨⟨List.mem_of_getElem? (i := 668) (by decide +kernel), List.mem_of_getElem? (i := 52) (by decide +kernel), by decide +kernel, by decide, by decide +kernel⟩, List.mem_of_getElem? (i := 667) (by decide +kernel), List.mem_of_getElem? (i := 22) (by decide +kernel)⟩
theorem knX10_power : aKS kX10_power 2 := ⟨⟨List.mem_of_getElem? (i := 601) (by decide +kernel), List.mem_of_getElem? (i := 52) (by decide +kernel), by decide +kernel, by decide, by decide +kernel⟩, List.mem_of_getElem? (i := 600) (by decide +kernel)⟩
theorem knX10_greatestDivisor : aKS kX10_greatestDivisor 2 := ⟨⟨List.mem_of_getElem? (i := 605) (by decide +kernel), List.mem_of_getElem? (i := 52) (by decide +kernel), by decide +kernel, by decide, by decide +kernel⟩, List.mem_of_getElem? (i := 604) (by decide +kernel)⟩
theorem knX11_init : aKI kX11_init 0 := ⟨⟨List.mem_of_getElem? (i := 738) (by decide +kernel), List.mem_of_getElem? (i := 63) (by decide +kernel), by decide +kernel, by decide, by decide +kernel⟩, List.mem_of_getElem? (i := 737) (by decide +kernel), rfl⟩
theorem knX11_in : aKS kX11_in 3 := ⟨⟨List.mem_of_getElem? (i := 816) (by decide +kernel), List.mem_of_getElem? (i := 63) (by decide +kernel), by decide +kernel, by decide, by decide +kernel⟩, List.mem_of_getElem? (i := 815) (by decide +kernel)⟩
theorem knX11_isTwo : aKS kX11_isTwo 1 := ⟨⟨List.mem_of_getElem? (i := 873) (by decide +kernel), List.mem_of_getElem? (i := 63) (by decide +kernel), by decide +kernel, by decide, by decide +kernel⟩, List.mem_of_getElem? (i := 872) (by decide +kernel)⟩
theorem knX11_has : aKS kX11_has 2 := ⟨⟨List.mem_of_getElem? (i := 857) (by decide +kernel), List.mem_of_getElem? (i := 63) (by decide +kernel), by decide +kernel, by decide, by decide +kernel⟩, List.mem_of_getElem? (i := 856) (by decide +kernel)⟩
theorem knX11_bits : aKS kX11_bits 1 := ⟨⟨List.mem_of_getElem? (i := 960) (by decide +kernel), List.mem_of_getElem? (i := 63) (by decide +kernel), by decide +kernel, by decide, by decide +kernel⟩, List.mem_of_getElem? (i := 959) (by decide +kernel)⟩
theorem knX11_clean : aKS kX11_clean 1 := ⟨⟨List.mem_of_getElem? (i := 742) (by decide +kernel), List.mem_of_getElem? (i := 63) (by decide +kernel), by decide +kernel, by decide, by decide +kernel⟩, List.mem_of_getElem? (i := 741) (by decide +kernel)⟩
theorem knX11_begins : aKV kX11_begins 0 := ⟨⟨List.mem_of_getElem? (i := 746) (by decide +kernel), List.mem_of_getElem? (i := 63) (by decide +kernel), by decide +kernel, by decide, by decide +kernel⟩, List.mem_of_getElem? (i := 745) (by decide +kernel), List.mem_of_getElem? (i := 24) (by decide +kernel)⟩
theorem knX11_type : aKV kX11_type 1 := ⟨⟨List.mem_of_getElem? (i := 812) (by decide +kernel), List.mem_of_getElem? (i := 63) (by decide +kernel), by decide +kernel, by decide, by decide +kernel⟩, List.mem_of_getElem? (i := 810) (by decide +kernel), List.mem_of_getElem? (i := 811) (by decide +kernel)⟩
theorem knX11_clear : aKV kX11_clear 0 := ⟨⟨List.mem_of_getElem? (i := 820) (by decide +kernel), List.mem_of_getElem? (i := 63) (by decide +kernel), by decide +kernel, by decide, by decide +kernel⟩, List.mem_of_getElem? (i := 818) (by decide +kernel), List.mem_of_getElem? (i := 819) (by decide +kernel)⟩
theorem knX11_first : aKV kX11_first 0 := ⟨⟨List.mem_of_getElem? (i := 828) (by decide +kernel), List.mem_of_getElem? (i := 63) (by decide +kernel), by decide +kernel, by decide, by decide +kernel⟩, List.mem_of_getElem? (i := 827) (by decide +kernel), List.mem_of_getElem? (i := 25) (by decide +kernel)⟩
theorem knX11_number : aKV kX11_number 3 := ⟨⟨List.mem_of_getElem? (i := 840) (by decide +kernel), List.mem_of_getElem? (i := 63) (by decide +kernel), by decide +kernel, by decide, by decide +kernel⟩, List.mem_of_getElem? (i := 839) (by decide +kernel), List.mem_of_getElem? (i := 28) (by decide +kernel)⟩
theorem knX11_ends : aKV kX11_ends 0 := ⟨⟨List.mem_of_getElem? (i := 846) (by decide +kernel), List.mem_of_getElem? (i := 63) (by decide +kernel), by decide +kernel, by decide, by decide +kernel⟩, List.mem_of_getElem? (i := 845) (by decide +kernel), List.mem_of_getElem? (i := 29) (by decide +kernel)⟩
theorem knX11_takesGood : aKV kX11_takesGood 0 := ⟨⟨List.mem_of_getElem? (i := 836) (by decide +kernel), List.mem_of_getElem? (i := 63) (by decide +kernel), by decide +kernel, by decide, by decide +kernel⟩, List.mem_of_getElem? (i := 835) (by decide +kernel), List.mem_of_getElem? (i := 27) (by decide +kernel)⟩
theorem knX11_takesPair : aKV kX11_takesPair 0 := ⟨⟨List.mem_of_getElem? (i := 850) (by decide +kernel), List.mem_of_getElem? (i := 63) (by decide +kernel), by decide +kernel, by decide, by decide +kernel⟩, List.mem_of_getElem? (i := 849) (by decide +kernel), List.mem_of_getElem? (i := 30) (by decide +kernel)⟩
theorem knX11_takesOne : aKV kX11_takesOne 3 := ⟨⟨List.mem_of_getElem? (i := 854) (by decide +kernel), List.mem_of_getElem? (i := 63) (by decide +kernel), by decide +kernel, by decide, by decide +kernel⟩, List.mem_of_getElem? (i := 853) (by decide +kernel), List.mem_of_getElem? (i := 31) (by decide +kernel)⟩
theorem knX11_takesItem : aKV kX11_takesItem 1 := ⟨⟨List.mem_of_getElem? (i := 832) (by decide +kernel), List.mem_of_getElem? (i := 63) (by decide +kernel), by decide +kernel, by decide, by decide +kernel⟩, List.mem_of_getElem? (i := 831) (by decide +kernel), List.mem_of_getElem? (i := 26) (by decide +kernel)⟩
theorem knX11_suit : aKV kX11_suit 0 := ⟨⟨List.mem_of_getElem? (i := 824) (by decide +kernel), List.mem_of_getElem? (i := 63) (by decide +kernel), by decide +kernel, by decide, by decide +kernel⟩, List.mem_of_getElem? (i := 822) (by decide +kernel), List.mem_of_getElem? (i := 823) (by decide +kernel)⟩
theorem knX11_isGood : aKV kX11_isGood 1 := ⟨⟨List.mem_of_getElem? (i := 865) (by decide +kernel), List.mem_of_getElem? (i := 63) (by decide +kernel), by decide +kernel, by decide, by decide +kernel⟩, List.mem_of_getElem? (i := 864) (by decide +kernel), List.mem_of_getElem? (i := 32) (by decide +kernel)⟩
theorem knX11_all : aKV kX11_all 0 := ⟨⟨List.mem_of_getElem? (i := 877) (by decide +kernel), List.mem_of_getElem? (i := 63) (by decide +kernel), by decide +kernel, by decide, by decide +kernel⟩, List.mem_of_getElem? (i := 876) (by decide +kernel), List.mem_of_getElem? (i := 33) (by decide +kernel)⟩
theorem knX11_valued : aKV kX11_valued 2 := ⟨⟨List.mem_of_getElem? (i := 881) (by decide +kernel), List.mem_of_getElem? (i := 63) (by decide +kernel), by decide +kernel, by decide, by decide +kernel⟩, List.mem_of_getElem? (i := 880) (by decide +kernel), List.mem_of_getElem? (i := 34) (by decide +kernel)⟩
theorem knX11_goodsOf : aKV kX11_goodsOf 1 := ⟨⟨List.mem_of_getElem? (i := 889) (by decide +kernel), List.mem_of_getElem? (i := 63) (by decide +kernel), by decide +kernel, by decide, by decide +kernel⟩, List.mem_of_getElem? (i := 888) (by decide +kernel), List.mem_of_getElem? (i := 35) (by decide +kernel)⟩
theorem knX11_good : aKV kX11_good 2 := ⟨⟨List.mem_of_getElem? (i := 861) (by decide +kernel), List.mem_of_getElem? (i := 63) (by decide +kernel), by decide +kernel, by decide, by decide +kernel⟩, List.mem_of_getElem? (i := 859) (by decide +kernel), List.mem_of_getElem? (i := 860) (by decide +kernel)⟩
theorem knX11_values : aKV kX11_values 2 := ⟨⟨List.mem_of_getElem? (i := 870) (by decide +kernel), List.mem_of_getElem? (i := 63) (by decide +kernel), by decide +kernel, by decide, by decide +kernel⟩, List.mem_of_getElem? (i := 868) (by decide +kernel), List.mem_of_getElem? (i := 869) (by decide +kernel)⟩
theorem knX11_now : aKV kX11_now 1 := ⟨⟨List.mem_of_getElem? (i := 885) (by decide +kernel), List.mem_of_getElem? (i := 63) (by decide +kernel), by decide +kernel, by decide, by decide +kernel⟩, List.mem_of_getElem? (i := 883) (by decide +kernel), List.mem_of_getElem? (i := 884) (by decide +kernel)⟩
theorem knX11_copies : aKS kX11_copies 4 := ⟨⟨List.mem_of_getElem? (i := 900) (by decide +kernel), List.mem_of_getElem? (i := 63) (by decide +kernel), by decide +kernel, by decide, by decide +kernel⟩, List.mem_of_getElem? (i := 899) (by decide +kernel)⟩
theorem knX11_remember : aKV kX11_remember 0 := ⟨⟨List.mem_of_getElem? (i := 897) (by decide +kernel), List.mem_of_getElem? (i := 63) (by decide +kernel), by decide +kernel, by decide, by decide +kernel⟩, List.mem_of_getElem? (i := 896) (by decide +kernel), List.mem_of_getElem? (i := 36) (by decide +kernel)⟩
theorem knX11_gives : aKV kX11_gives 2 := ⟨⟨List.mem_of_getElem? (i := 893) (by decide +kernel), List.mem_of_getElem? (i := 63) (by decide +kernel), by decide +kernel, by decide, by decide +kernel⟩, List.mem_of_getElem? (i := 891) (by decide +kernel), List.mem_of_getElem? (i := 892) (by decide +kernel)⟩
theorem knX11_footOf : aKV kX11_footOf 1 := ⟨⟨List.mem_of_getElem? (i := 912) (by decide +kernel), List.mem_of_getElem? (i := 63) (by decide +kernel), by decide +kernel, by decide, by decide +kernel⟩, List.mem_of_getElem? (i := 911) (by decide +kernel), List.mem_of_getElem? (i := 38) (by decide +kernel)⟩
theorem knX11_wornBy : aKV kX11_wornBy 3 := ⟨⟨List.mem_of_getElem? (i := 916) (by decide +kernel), List.mem_of_getElem? (i := 63) (by decide +kernel), by decide +kernel, by decide, by decide +kernel⟩, List.mem_of_getElem? (i := 915) (by decide +kernel), List.mem_of_getElem? (i := 39) (by decide +kernel)⟩
theorem knX11_stepsOf : aKV kX11_stepsOf 1 := ⟨⟨List.mem_of_getElem? (i := 908) (by decide +kernel), List.mem_of_getElem? (i := 63) (by decide +kernel), by decide +kernel, by decide, by decide +kernel⟩, List.mem_of_getElem? (i := 907) (by decide +kernel), List.mem_of_getElem? (i := 37) (by decide +kernel)⟩
theorem knX11_steps : aKV kX11_steps 1 := ⟨⟨List.mem_of_getElem? (i := 904) (by decide +kernel), List.mem_of_getElem? (i := 63) (by decide +kernel), by decide +kernel, by decide, by decide +kernel⟩, List.mem_of_getElem? (i := 902) (by decide +kernel), List.mem_of_getElem? (i := 903) (by decide +kernel)⟩
theorem knX11_undo : aKV kX11_undo 0 := ⟨⟨List.mem_of_getElem? (i := 920) (by decide +kernel), List.mem_of_getElem? (i := 63) (by decide +kernel), by decide +kernel, by decide, by decide +kernel⟩, List.mem_of_getElem? (i := 918) (by decide +kernel), List.mem_of_getElem? (i := 919) (by decide +kernel)⟩
theorem knX11_envyBy : aKV kX11_envyBy 3 := ⟨⟨List.mem_of_getElem? (i := 928) (by decide +kernel), List.mem_of_getElem? (i := 63) (by decide +kernel), by decide +kernel, by decide, by decide +kernel⟩, List.mem_of_getElem? (i := 927) (by decide +kernel), List.mem_of_getElem? (i := 40) (by decide +kernel)⟩
theorem knX11_envy : aKV kX11_envy 1 := ⟨⟨List.mem_of_getElem? (i := 924) (by decide +kernel), List.mem_of_getElem? (i := 63) (by decide +kernel), by decide +kernel, by decide, by decide +kernel⟩, List.mem_of_getElem? (i := 922) (by decide +kernel), List.mem_of_getElem? (i := 923) (by decide +kernel)⟩
theorem knX11_isFair : aKV kX11_isFair 1 := ⟨⟨List.mem_of_getElem? (i := 937) (by decide +kernel), List.mem_of_getElem? (i := 63) (by decide +kernel), by decide +kernel, by decide, by decide +kernel⟩, List.mem_of_getElem? (i := 936) (by decide +kernel), List.mem_of_getElem? (i := 41) (by decide +kernel)⟩
theorem knX11_together : aKV kX11_together 1 := ⟨⟨List.mem_of_getElem? (i := 945) (by decide +kernel), List.mem_of_getElem? (i := 63) (by decide +kernel), by decide +kernel, by decide, by decide +kernel⟩, List.mem_of_getElem? (i := 944) (by decide +kernel), List.mem_of_getElem? (i := 43) (by decide +kernel)⟩
theorem knX11_best : aKV kX11_best 1 := ⟨⟨List.mem_of_getElem? (i := 941) (by decide +kernel), List.mem_of_getElem? (i := 63) (by decide +kernel), by decide +kernel, by decide, by decide +kernel⟩, List.mem_of_getElem? (i := 940) (by decide +kernel), List.mem_of_getElem? (i := 42) (by decide +kernel)⟩
theorem knX11_fair : aKV kX11_fair 1 := ⟨⟨List.mem_of_getElem? (i := 932) (by decide +kernel), List.mem_of_getElem? (i := 63) (by decide +kernel), by decide +kernel, by decide, by decide +kernel⟩, List.mem_of_getElem? (i := 930) (by decide +kernel), List.mem_of_getElem? (i := 931) (by decide +kernel)⟩
theorem knX11_cut : aKV kX11_cut 2 := ⟨⟨List.mem_of_getElem? (i := 949) (by decide +kernel), List.mem_of_getElem? (i := 63) (by decide +kernel), by decide +kernel, by decide, by decide +kernel⟩, List.mem_of_getElem? (i := 947) (by decide +kernel), List.mem_of_getElem? (i := 948) (by decide +kernel)⟩
theorem knX11_layTurns : aKV kX11_layTurns 1 := ⟨⟨List.mem_of_getElem? (i := 957) (by decide +kernel), List.mem_of_getElem? (i := 63) (by decide +kernel), by decide +kernel, by decide, by decide +kernel⟩, List.mem_of_getElem? (i := 956) (by decide +kernel), List.mem_of_getElem? (i := 44) (by decide +kernel)⟩
theorem knX11_layTake : aKV kX11_layTake 3 := ⟨⟨List.mem_of_getElem? (i := 964) (by decide +kernel), List.mem_of_getElem? (i := 63) (by decide +kernel), by decide +kernel, by decide, by decide +kernel⟩, List.mem_of_getElem? (i := 963) (by decide +kernel), List.mem_of_getElem? (i := 45) (by decide +kernel)⟩
theorem knX11_byTurns : aKV kX11_byTurns 2 := ⟨⟨List.mem_of_getElem? (i := 953) (by decide +kernel), List.mem_of_getElem? (i := 63) (by decide +kernel), by decide +kernel, by decide, by decide +kernel⟩, List.mem_of_getElem? (i := 951) (by decide +kernel), List.mem_of_getElem? (i := 952) (by decide +kernel)⟩
theorem knX11_gains : aKV kX11_gains 3 := ⟨⟨List.mem_of_getElem? (i := 972) (by decide +kernel), List.mem_of_getElem? (i := 63) (by decide +kernel), by decide +kernel, by decide, by decide +kernel⟩, List.mem_of_getElem? (i := 971) (by decide +kernel), List.mem_of_getElem? (i := 46) (by decide +kernel)⟩
theorem knX11_lies : aKV kX11_lies 2 := ⟨⟨List.mem_of_getElem? (i := 968) (by decide +kernel), List.mem_of_getElem? (i := 63) (by decide +kernel), by decide +kernel, by decide, by decide +kernel⟩, List.mem_of_getElem? (i := 966) (by decide +kernel), List.mem_of_getElem? (i := 967) (by decide +kernel)⟩
theorem knX11_sell : aKV kX11_sell 1 := ⟨⟨List.mem_of_getElem? (i := 976) (by decide +kernel), List.mem_of_getElem? (i := 63) (by decide +kernel), by decide +kernel, by decide, by decide +kernel⟩, List.mem_of_getElem? (i := 974) (by decide +kernel), List.mem_of_getElem? (i := 975) (by decide +kernel)⟩
theorem knX11_adds : aKV kX11_adds 1 := ⟨⟨List.mem_of_getElem? (i := 981) (by decide +kernel), List.mem_of_getElem? (i := 63) (by decide +kernel), by decide +kernel, by decide, by decide +kernel⟩, List.mem_of_getElem? (i := 979) (by decide +kernel), List.mem_of_getElem? (i := 980) (by decide +kernel)⟩
theorem knX11_odds : aKV kX11_odds 2 := ⟨⟨List.mem_of_getElem? (i := 985) (by decide +kernel), List.mem_of_getElem? (i := 63) (by decide +kernel), by decide +kernel, by decide, by decide +kernel⟩, List.mem_of_getElem? (i := 983) (by decide +kernel), List.mem_of_getElem? (i := 984) (by decide +kernel)⟩
theorem knX11_foot : aKV kX11_foot 1 := ⟨⟨List.mem_of_getElem? (i := 990) (by decide +kernel), List.mem_of_getElem? (i := 63) (by decide +kernel), by decide +kernel, by decide, by decide +kernel⟩, List.mem_of_getElem? (i := 988) (by decide +kernel), List.mem_of_getElem? (i := 989) (by decide +kernel)⟩
theorem knX11_isCell : aKV kX11_isCell 1 := ⟨⟨List.mem_of_getElem? (i := 998) (by decide +kernel), List.mem_of_getElem? (i := 63) (by decide +kernel), by decide +kernel, by decide, by decide +kernel⟩, List.mem_of_getElem? (i := 997) (by decide +kernel), List.mem_of_getElem? (i := 47) (by decide +kernel)⟩
theorem knX11_worn : aKV kX11_worn 2 := ⟨⟨List.mem_of_getElem? (i := 994) (by decide +kernel), List.mem_of_getElem? (i := 63) (by decide +kernel), by decide +kernel, by decide, by decide +kernel⟩, List.mem_of_getElem? (i := 992) (by decide +kernel), List.mem_of_getElem? (i := 993) (by decide +kernel)⟩
theorem knX11_judge : aKV kX11_judge 1 := ⟨⟨List.mem_of_getElem? (i := 1002) (by decide +kernel), List.mem_of_getElem? (i := 63) (by decide +kernel), by decide +kernel, by decide, by decide +kernel⟩, List.mem_of_getElem? (i := 1000) (by decide +kernel), List.mem_of_getElem? (i := 1001) (by decide +kernel)⟩
theorem knX11_saw : aKV kX11_saw 3 := ⟨⟨List.mem_of_getElem? (i := 1006) (by decide +kernel), List.mem_of_getElem? (i := 63) (by decide +kernel), by decide +kernel, by decide, by decide +kernel⟩, List.mem_of_getElem? (i := 1004) (by decide +kernel), List.mem_of_getElem? (i := 1005) (by decide +kernel)⟩
theorem knX11_forget : aKV kX11_forget 0 := ⟨⟨List.mem_of_getElem? (i := 1011) (by decide +kernel), List.mem_of_getElem? (i := 63) (by decide +kernel), by decide +kernel, by decide, by decide +kernel⟩, List.mem_of_getElem? (i := 1009) (by decide +kernel), List.mem_of_getElem? (i := 1010) (by decide +kernel)⟩
theorem knX11_isSo : aKV kX11_isSo 1 := ⟨⟨List.mem_of_getElem? (i := 1019) (by decide +kernel), List.mem_of_getElem? (i := 63) (by decide +kernel), by decide +kernel, by decide, by decide +kernel⟩, List.mem_of_getElem? (i := 1018) (by decide +kernel), List.mem_of_getElem? (i := 48) (by decide +kernel)⟩
theorem knX11_wrong : aKV kX11_wrong 1 := ⟨⟨List.mem_of_getElem? (i := 1015) (by decide +kernel), List.mem_of_getElem? (i := 63) (by decide +kernel), by decide +kernel, by decide, by decide +kernel⟩, List.mem_of_getElem? (i := 1013) (by decide +kernel), List.mem_of_getElem? (i := 1014) (by decide +kernel)⟩
theorem knX11_asTold : aKV kX11_asTold 0 := ⟨⟨List.mem_of_getElem? (i := 1023) (by decide +kernel), List.mem_of_getElem? (i := 63) (by decide +kernel), by decide +kernel, by decide, by decide +kernel⟩, List.mem_of_getElem? (i := 1021) (by decide +kernel), List.mem_of_getElem? (i := 1022) (by decide +kernel)⟩
theorem knX11_place : aKS kX11_place 3 := ⟨⟨List.mem_of_getElem? (i := 1031) (by decide +kernel), List.mem_of_getElem? (i := 63) (by decide +kernel), by decide +kernel, by decide, by decide +kernel⟩, List.mem_of_getElem? (i := 1030) (by decide +kernel)⟩
theorem knX11_goes : aKV kX11_goes 2 := ⟨⟨List.mem_of_getElem? (i := 1035) (by decide +kernel), List.mem_of_getElem? (i := 63) (by decide +kernel), by decide +kernel, by decide, by decide +kernel⟩, List.mem_of_getElem? (i := 1034) (by decide +kernel), List.mem_of_getElem? (i := 49) (by decide +kernel)⟩
theorem knX11_anyOf : aKV kX11_anyOf 2 := ⟨⟨List.mem_of_getElem? (i := 1039) (by decide +kernel), List.mem_of_getElem? (i := 63) (by decide +kernel), by decide +kernel, by decide, by decide +kernel⟩, List.mem_of_getElem? (i := 1038) (by decide +kernel), List.mem_of_getElem? (i := 50) (by decide +kernel)⟩
theorem knX11_soonest : aKV kX11_soonest 3 := ⟨⟨List.mem_of_getElem? (i := 1027) (by decide +kernel), List.mem_of_getElem? (i := 63) (by decide +kernel), by decide +kernel, by decide, by decide +kernel⟩, List.mem_of_getElem? (i := 1025) (by decide +kernel), List.mem_of_getElem? (i := 1026) (by decide +kernel)⟩
theorem knX11_rate : aKV kX11_rate 2 := ⟨⟨List.mem_of_getElem? (i := 1043) (by decide +kernel), List.mem_of_getElem? (i := 63) (by decide +kernel), by decide +kernel, by decide, by decide +kernel⟩, List.mem_of_getElem? (i := 1041) (by decide +kernel), List.mem_of_getElem? (i := 1042) (by decide +kernel)⟩
theorem knX11_keep : aKV kX11_keep 1 := ⟨⟨List.mem_of_getElem? (i := 1054) (by decide +kernel), List.mem_of_getElem? (i := 63) (by decide +kernel), by decide +kernel, by decide, by decide +kernel⟩, List.mem_of_getElem? (i := 1052) (by decide +kernel), List.mem_of_getElem? (i := 1053) (by decide +kernel)⟩
theorem knX11_back : aKV kX11_back 1 := ⟨⟨List.mem_of_getElem? (i := 1058) (by decide +kernel), List.mem_of_getElem? (i := 63) (by decide +kernel), by decide +kernel, by decide, by decide +kernel⟩, List.mem_of_getElem? (i := 1056) (by decide +kernel), List.mem_of_getElem? (i := 1057) (by decide +kernel)⟩
theorem knX11_count : aKV kX11_count 1 := ⟨⟨List.mem_of_getElem? (i := 1062) (by decide +kernel), List.mem_of_getElem? (i := 63) (by decide +kernel), by decide +kernel, by decide, by decide +kernel⟩, List.mem_of_getElem? (i := 1060) (by decide +kernel), List.mem_of_getElem? (i := 1061) (by decide +kernel)⟩
theorem knX11_trace : aKV kX11_trace 0 := ⟨⟨List.mem_of_getElem? (i := 1066) (by decide +kernel), List.mem_of_getElem? (i := 63) (by decide +kernel), by decide +kernel, by decide, by decide +kernel⟩, List.mem_of_getElem? (i := 1064) (by decide +kernel), List.mem_of_getElem? (i := 1065) (by decide +kernel)⟩
theorem knJ6_bitCount_0f7a4 : aKS kJ6_bitCount_0f7a4 1 := ⟨⟨List.mem_of_getElem? (i := 582) (by decide +kernel), List.mem_of_getElem? (i := 66) (by decide +kernel), by decide +kernel, by decide, by decide +kernel⟩, List.mem_of_getElem? (i := 581) (by decide +kernel)⟩
theorem mlX10_3 : Cond.methodLink RX10 3 ⟨"java/lang/Object", "<init>", "()V"⟩ ∈ lw_tbl := List.mem_of_getElem? (i := 72) (by decide +kernel)
theorem mlX10_11 : Cond.methodLinkNest RX10 11 yX5_init "ShoesAtLaw" ∈ lw_tbl := List.mem_of_getElem? (i := 77) (by decide +kernel)
theorem mlX10_18 : Cond.methodLink RX10 18 yX6_init ∈ lw_tbl := List.mem_of_getElem? (i := 110) (by decide +kernel)
theorem mlX10_28 : Cond.methodLinkNest RX10 28 yX3_init "ShoesAtLaw" ∈ lw_tbl := List.mem_of_getElem? (i := 155) (by decide +kernel)
theorem mlX10_41 : Cond.methodLinkNest RX10 41 yX4_init "ShoesAtLaw" ∈ lw_tbl := List.mem_of_getElem? (i := 175) (by decide +kernel)
theorem mlX10_65 : Cond.methodLinkNest RX10 65 yX1_init "ShoesAtLaw" ∈ lw_tbl := List.mem_of_getElem? (i := 203) (by decide +kernel)
theorem mlX10_68 : Cond.methodLinkNest RX10 68 yX0_init "ShoesAtLaw" ∈ lw_tbl := List.mem_of_getElem? (i := 210) (by decide +kernel)
theorem mlX10_71 : Cond.methodLinkNest RX10 71 yX9_init "ShoesAtLaw" ∈ lw_tbl := List.mem_of_getElem? (i := 217) (by decide +kernel)
theorem mlX10_74 : Cond.methodLinkNest RX10 74 yX2_init "ShoesAtLaw" ∈ lw_tbl := List.mem_of_getElem? (i := 224) (by decide +kernel)
theorem mlX10_77 : Cond.methodLinkNest RX10 77 yX8_init "ShoesAtLaw" ∈ lw_tbl := List.mem_of_getElem? (i := 231) (by decide +kernel)
theorem mlX10_80 : Cond.methodLinkNest RX10 80 yX7_init "ShoesAtLaw" ∈ lw_tbl := List.mem_of_getElem? (i := 238) (by decide +kernel)
theorem mlX10_81 : Cond.methodLink RX10 81 yX10_beginAnew ∈ lw_tbl := List.mem_of_getElem? (i := 243) (by decide +kernel)
theorem mlX10_84 : Cond.methodLink RX10 84 yX5_add ∈ lw_tbl := List.mem_of_getElem? (i := 310) (by decide +kernel)
theorem mlX10_92 : Cond.methodLink RX10 92 yX5_empty ∈ lw_tbl := List.mem_of_getElem? (i := 318) (by decide +kernel)
theorem mlX10_95 : Cond.methodLink RX10 95 yX5_read ∈ lw_tbl := List.mem_of_getElem? (i := 326) (by decide +kernel)
theorem mlX10_99 : Cond.methodLink RX10 99 yX6_weigh ∈ lw_tbl := List.mem_of_getElem? (i := 381) (by decide +kernel)
theorem mlX10_102 : Cond.methodLink RX10 102 yX10_isGood ∈ lw_tbl := List.mem_of_getElem? (i := 408) (by decide +kernel)
theorem mlX10_105 : Cond.methodLink RX10 105 yX3_whose ∈ lw_tbl := List.mem_of_getElem? (i := 412) (by decide +kernel)
theorem mlX10_109 : Cond.methodLink RX10 109 yX6_worthOf ∈ lw_tbl := List.mem_of_getElem? (i := 416) (by decide +kernel)
theorem mlX10_113 : Cond.methodLink RX10 113 yX10_isSide ∈ lw_tbl := List.mem_of_getElem? (i := 421) (by decide +kernel)
theorem mlX10_116 : Cond.methodLink RX10 116 yX6_all ∈ lw_tbl := List.mem_of_getElem? (i := 422) (by decide +kernel)
theorem mlX10_120 : Cond.methodLink RX10 120 yX6_valueOf ∈ lw_tbl := List.mem_of_getElem? (i := 423) (by decide +kernel)
theorem mlX10_132 : Cond.methodLink RX10 132 yX3_setOf ∈ lw_tbl := List.mem_of_getElem? (i := 431) (by decide +kernel)
theorem mlX10_135 : Cond.methodLink RX10 135 yX3_put ∈ lw_tbl := List.mem_of_getElem? (i := 439) (by decide +kernel)
theorem mlX10_139 : Cond.methodLink RX10 139 yX10_remember ∈ lw_tbl := List.mem_of_getElem? (i := 443) (by decide +kernel)
theorem mlX10_143 : Cond.methodLink RX10 143 yX3_stepsOf ∈ lw_tbl := List.mem_of_getElem? (i := 454) (by decide +kernel)
theorem mlX10_146 : Cond.methodLink RX10 146 yX3_walk ∈ lw_tbl := List.mem_of_getElem? (i := 462) (by decide +kernel)
theorem mlX10_149 : Cond.methodLink RX10 149 yX6_cellBehind ∈ lw_tbl := List.mem_of_getElem? (i := 466) (by decide +kernel)
theorem mlX10_152 : Cond.methodLink RX10 152 yX6_wear ∈ lw_tbl := List.mem_of_getElem? (i := 470) (by decide +kernel)
theorem mlX10_155 : Cond.methodLink RX10 155 yX3_unwalk ∈ lw_tbl := List.mem_of_getElem? (i := 478) (by decide +kernel)
theorem mlX10_158 : Cond.methodLink RX10 158 yX10_envyOf ∈ lw_tbl := List.mem_of_getElem? (i := 486) (by decide +kernel)
theorem mlX10_161 : Cond.methodLink RX10 161 yX4_fairCount ∈ lw_tbl := List.mem_of_getElem? (i := 501) (by decide +kernel)
theorem mlX10_164 : Cond.methodLink RX10 164 yX4_best ∈ lw_tbl := List.mem_of_getElem? (i := 519) (by decide +kernel)
theorem mlX10_167 : Cond.methodLink RX10 167 yX4_total ∈ lw_tbl := List.mem_of_getElem? (i := 527) (by decide +kernel)
theorem mlX10_171 : Cond.methodLink RX10 171 yX4_mostTotal ∈ lw_tbl := List.mem_of_getElem? (i := 528) (by decide +kernel)
theorem mlX10_174 : Cond.methodLink RX10 174 yX4_bestCut ∈ lw_tbl := List.mem_of_getElem? (i := 537) (by decide +kernel)
theorem mlX10_177 : Cond.methodLink RX10 177 yX4_leftToCutter ∈ lw_tbl := List.mem_of_getElem? (i := 545) (by decide +kernel)
theorem mlX10_181 : Cond.methodLinkNest RX10 181 yX4_outcome "ShoesAtLaw" ∈ lw_tbl := List.mem_of_getElem? (i := 550) (by decide +kernel)
theorem mlX10_185 : Cond.methodLink RX10 185 yX6_ownIn ∈ lw_tbl := List.mem_of_getElem? (i := 554) (by decide +kernel)
theorem mlX10_188 : Cond.methodLink RX10 188 yX4_seekLie ∈ lw_tbl := List.mem_of_getElem? (i := 559) (by decide +kernel)
theorem mlX10_198 : Cond.methodLink RX10 198 yX4_greatestSale ∈ lw_tbl := List.mem_of_getElem? (i := 576) (by decide +kernel)
theorem mlX10_201 : Cond.methodLink RX10 201 yX6_worthAlone ∈ lw_tbl := List.mem_of_getElem? (i := 590) (by decide +kernel)
theorem mlX10_204 : Cond.methodLink RX10 204 yX4_fairLots ∈ lw_tbl := List.mem_of_getElem? (i := 595) (by decide +kernel)
theorem mlX10_207 : Cond.methodLink RX10 207 yX10_power ∈ lw_tbl := List.mem_of_getElem? (i := 602) (by decide +kernel)
theorem mlX10_210 : Cond.methodLink RX10 210 yX10_greatestDivisor ∈ lw_tbl := List.mem_of_getElem? (i := 603) (by decide +kernel)
theorem mlX10_213 : Cond.methodLink RX10 213 yX3_footOf ∈ lw_tbl := List.mem_of_getElem? (i := 611) (by decide +kernel)
theorem mlX10_216 : Cond.methodLink RX10 216 yX10_isCell ∈ lw_tbl := List.mem_of_getElem? (i := 616) (by decide +kernel)
theorem mlX10_222 : Cond.methodLink RX10 222 yX3_firstRunOver ∈ lw_tbl := List.mem_of_getElem? (i := 624) (by decide +kernel)
theorem mlX10_225 : Cond.methodLink RX10 225 yX3_longestRun ∈ lw_tbl := List.mem_of_getElem? (i := 632) (by decide +kernel)
theorem mlX10_228 : Cond.methodLink RX10 228 yX3_changes ∈ lw_tbl := List.mem_of_getElem? (i := 637) (by decide +kernel)
theorem mlX10_234 : Cond.methodLink RX10 234 yX10_agrees ∈ lw_tbl := List.mem_of_getElem? (i := 653) (by decide +kernel)
theorem mlX10_238 : Cond.methodLink RX10 238 yX10_canBeWalked ∈ lw_tbl := List.mem_of_getElem? (i := 665) (by decide +kernel)
theorem mlX10_242 : Cond.methodLink RX10 242 yX1_verdict ∈ lw_tbl := List.mem_of_getElem? (i := 674) (by decide +kernel)
theorem mlX10_246 : Cond.methodLink RX10 246 yX10_imageOf ∈ lw_tbl := List.mem_of_getElem? (i := 713) (by decide +kernel)
theorem mlX10_250 : Cond.methodLink RX10 250 yX3_become ∈ lw_tbl := List.mem_of_getElem? (i := 717) (by decide +kernel)
theorem mlX10_268 : Cond.methodLink RX10 268 yX3_begin ∈ lw_tbl := List.mem_of_getElem? (i := 247) (by decide +kernel)
theorem mlX10_271 : Cond.methodLink RX10 271 ⟨"java/lang/System", "arraycopy", "(Ljava/lang/Object;ILjava/lang/Object;II)V"⟩ ∈ lw_tbl := List.mem_of_getElem? (i := 447) (by decide +kernel)
theorem mlX10_277 : Cond.methodLink RX10 277 yX10_ownValue ∈ lw_tbl := List.mem_of_getElem? (i := 490) (by decide +kernel)
theorem mlX10_280 : Cond.methodLink RX10 280 yJ9_max_7cf53 ∈ lw_tbl := List.mem_of_getElem? (i := 494) (by decide +kernel)
theorem mlX0_1 : Cond.methodLinkNest RX0 1 yX1_init "ShoesAtLaw" ∈ lw_tbl := List.mem_of_getElem? (i := 213) (by decide +kernel)
theorem mlX0_15 : Cond.methodLink RX0 15 yX1_verdict ∈ lw_tbl := List.mem_of_getElem? (i := 682) (by decide +kernel)
theorem mlX0_23 : Cond.methodLink RX0 23 yX3_stepsOf ∈ lw_tbl := List.mem_of_getElem? (i := 683) (by decide +kernel)
theorem mlX1_1 : Cond.methodLink RX1 1 ⟨"java/lang/Object", "<init>", "()V"⟩ ∈ lw_tbl := List.mem_of_getElem? (i := 206) (by decide +kernel)
theorem mlX1_13 : Cond.methodLinkNest RX1 13 yX10_ownValue "ShoesAtLaw" ∈ lw_tbl := List.mem_of_getElem? (i := 708) (by decide +kernel)
theorem mlX2_1 : Cond.methodLinkNest RX2 1 yX0_init "ShoesAtLaw" ∈ lw_tbl := List.mem_of_getElem? (i := 227) (by decide +kernel)
theorem mlX2_15 : Cond.methodLink RX2 15 yX0_verdict ∈ lw_tbl := List.mem_of_getElem? (i := 688) (by decide +kernel)
theorem mlX3_3 : Cond.methodLink RX3 3 ⟨"java/lang/Object", "<init>", "()V"⟩ ∈ lw_tbl := List.mem_of_getElem? (i := 158) (by decide +kernel)
theorem mlX3_22 : Cond.methodLink RX3 22 ⟨"java/lang/System", "arraycopy", "(Ljava/lang/Object;ILjava/lang/Object;II)V"⟩ ∈ lw_tbl := List.mem_of_getElem? (i := 721) (by decide +kernel)
theorem mlX3_28 : Cond.methodLink RX3 28 yX3_footOf ∈ lw_tbl := List.mem_of_getElem? (i := 458) (by decide +kernel)
theorem mlX3_32 : Cond.methodLink RX3 32 yX3_changesAt ∈ lw_tbl := List.mem_of_getElem? (i := 628) (by decide +kernel)
theorem mlX3_36 : Cond.methodLink RX3 36 yJ9_max_7cf53 ∈ lw_tbl := List.mem_of_getElem? (i := 636) (by decide +kernel)
theorem mlX4_3 : Cond.methodLink RX4 3 ⟨"java/lang/Object", "<init>", "()V"⟩ ∈ lw_tbl := List.mem_of_getElem? (i := 178) (by decide +kernel)
theorem mlX4_21 : Cond.methodLink RX4 21 yX6_ownIn ∈ lw_tbl := List.mem_of_getElem? (i := 514) (by decide +kernel)
theorem mlX4_27 : Cond.methodLink RX4 27 yX6_valueOf ∈ lw_tbl := List.mem_of_getElem? (i := 518) (by decide +kernel)
theorem mlX4_30 : Cond.methodLink RX4 30 yX6_all ∈ lw_tbl := List.mem_of_getElem? (i := 505) (by decide +kernel)
theorem mlX4_34 : Cond.methodLink RX4 34 yX4_lead ∈ lw_tbl := List.mem_of_getElem? (i := 510) (by decide +kernel)
theorem mlX4_38 : Cond.methodLink RX4 38 yX4_isFair ∈ lw_tbl := List.mem_of_getElem? (i := 506) (by decide +kernel)
theorem mlX4_42 : Cond.methodLink RX4 42 yX4_total ∈ lw_tbl := List.mem_of_getElem? (i := 523) (by decide +kernel)
theorem mlX4_46 : Cond.methodLink RX4 46 yJ9_max_7cf53 ∈ lw_tbl := List.mem_of_getElem? (i := 532) (by decide +kernel)
theorem mlX4_51 : Cond.methodLink RX4 51 yX4_leftToCutter ∈ lw_tbl := List.mem_of_getElem? (i := 541) (by decide +kernel)
theorem mlX4_58 : Cond.methodLink RX4 58 yX4_outcome ∈ lw_tbl := List.mem_of_getElem? (i := 553) (by decide +kernel)
theorem mlX4_68 : Cond.methodLink RX4 68 yX4_listOthersFair ∈ lw_tbl := List.mem_of_getElem? (i := 563) (by decide +kernel)
theorem mlX4_72 : Cond.methodLink RX4 72 yX4_ownInBestTold ∈ lw_tbl := List.mem_of_getElem? (i := 567) (by decide +kernel)
theorem mlX4_75 : Cond.methodLink RX4 75 yX6_worthOf ∈ lw_tbl := List.mem_of_getElem? (i := 571) (by decide +kernel)
theorem mlX4_81 : Cond.methodLink RX4 81 yJ6_bitCount_0f7a4 ∈ lw_tbl := List.mem_of_getElem? (i := 580) (by decide +kernel)
theorem mlX4_87 : Cond.methodLinkNest RX4 87 yX10_power "ShoesAtLaw" ∈ lw_tbl := List.mem_of_getElem? (i := 599) (by decide +kernel)
theorem mlX5_3 : Cond.methodLink RX5 3 ⟨"java/lang/Object", "<init>", "()V"⟩ ∈ lw_tbl := List.mem_of_getElem? (i := 80) (by decide +kernel)
theorem mlX5_19 : Cond.methodLink RX5 19 yX6_begin ∈ lw_tbl := List.mem_of_getElem? (i := 330) (by decide +kernel)
theorem mlX5_34 : Cond.methodLink RX5 34 yX5_nextToken ∈ lw_tbl := List.mem_of_getElem? (i := 331) (by decide +kernel)
theorem mlX5_40 : Cond.methodLink RX5 40 yX5_readGood ∈ lw_tbl := List.mem_of_getElem? (i := 349) (by decide +kernel)
theorem mlX5_44 : Cond.methodLink RX5 44 yX5_readPair ∈ lw_tbl := List.mem_of_getElem? (i := 365) (by decide +kernel)
theorem mlX5_47 : Cond.methodLink RX5 47 yX5_readHops ∈ lw_tbl := List.mem_of_getElem? (i := 373) (by decide +kernel)
theorem mlX5_50 : Cond.methodLink RX5 50 yX5_readCells ∈ lw_tbl := List.mem_of_getElem? (i := 377) (by decide +kernel)
theorem mlX5_59 : Cond.methodLink RX5 59 yX5_nextNumber ∈ lw_tbl := List.mem_of_getElem? (i := 353) (by decide +kernel)
theorem mlX5_66 : Cond.methodLink RX5 66 yX6_addGood ∈ lw_tbl := List.mem_of_getElem? (i := 357) (by decide +kernel)
theorem mlX5_70 : Cond.methodLink RX5 70 yX5_nextEnds ∈ lw_tbl := List.mem_of_getElem? (i := 361) (by decide +kernel)
theorem mlX5_77 : Cond.methodLink RX5 77 yX6_addPair ∈ lw_tbl := List.mem_of_getElem? (i := 369) (by decide +kernel)
theorem mlX5_87 : Cond.methodLink RX5 87 yX5_letterAt ∈ lw_tbl := List.mem_of_getElem? (i := 335) (by decide +kernel)
theorem mlX5_91 : Cond.methodLink RX5 91 yX5_isDigit ∈ lw_tbl := List.mem_of_getElem? (i := 339) (by decide +kernel)
theorem mlX5_95 : Cond.methodLink RX5 95 yX5_takeNumber ∈ lw_tbl := List.mem_of_getElem? (i := 342) (by decide +kernel)
theorem mlX5_98 : Cond.methodLink RX5 98 yJ9_min_7cf53 ∈ lw_tbl := List.mem_of_getElem? (i := 346) (by decide +kernel)
theorem mlX6_3 : Cond.methodLink RX6 3 ⟨"java/lang/Object", "<init>", "()V"⟩ ∈ lw_tbl := List.mem_of_getElem? (i := 113) (by decide +kernel)
theorem mlX6_24 : Cond.methodLink RX6 24 yX6_begin ∈ lw_tbl := List.mem_of_getElem? (i := 114) (by decide +kernel)
theorem mlX6_40 : Cond.methodLink RX6 40 yX6_all ∈ lw_tbl := List.mem_of_getElem? (i := 385) (by decide +kernel)
theorem mlX6_44 : Cond.methodLink RX6 44 yX6_worthAlone ∈ lw_tbl := List.mem_of_getElem? (i := 389) (by decide +kernel)
theorem mlX6_48 : Cond.methodLink RX6 48 yX6_moreOf ∈ lw_tbl := List.mem_of_getElem? (i := 400) (by decide +kernel)
theorem mlX6_51 : Cond.methodLinkNest RX6 51 yX10_isSide "ShoesAtLaw" ∈ lw_tbl := List.mem_of_getElem? (i := 397) (by decide +kernel)
theorem mlX6_55 : Cond.methodLink RX6 55 yX6_worthOf ∈ lw_tbl := List.mem_of_getElem? (i := 393) (by decide +kernel)
theorem mlX7_3 : Cond.methodLinkNest RX7 3 yX1_init "ShoesAtLaw" ∈ lw_tbl := List.mem_of_getElem? (i := 241) (by decide +kernel)
theorem mlX7_15 : Cond.methodLink RX7 15 yX1_verdict ∈ lw_tbl := List.mem_of_getElem? (i := 693) (by decide +kernel)
theorem mlX7_33 : Cond.methodLink RX7 33 yX3_setOf ∈ lw_tbl := List.mem_of_getElem? (i := 694) (by decide +kernel)
theorem mlX7_39 : Cond.methodLink RX7 39 yJ6_bitCount_0f7a4 ∈ lw_tbl := List.mem_of_getElem? (i := 695) (by decide +kernel)
theorem mlX8_1 : Cond.methodLinkNest RX8 1 yX9_init "ShoesAtLaw" ∈ lw_tbl := List.mem_of_getElem? (i := 234) (by decide +kernel)
theorem mlX8_15 : Cond.methodLink RX8 15 yX9_verdict ∈ lw_tbl := List.mem_of_getElem? (i := 700) (by decide +kernel)
theorem mlX9_1 : Cond.methodLinkNest RX9 1 yX1_init "ShoesAtLaw" ∈ lw_tbl := List.mem_of_getElem? (i := 220) (by decide +kernel)
theorem mlX9_15 : Cond.methodLink RX9 15 yX1_verdict ∈ lw_tbl := List.mem_of_getElem? (i := 704) (by decide +kernel)
theorem mlX9_19 : Cond.methodLinkNest RX9 19 yX10_envyOf "ShoesAtLaw" ∈ lw_tbl := List.mem_of_getElem? (i := 705) (by decide +kernel)
theorem mlL_9 : Cond.methodLink RL 9 yX10_init ∈ lw_tbl := List.mem_of_getElem? (i := 69) (by decide +kernel)
theorem mlL_12 : Cond.methodLink RL 12 yX11_init ∈ lw_tbl := List.mem_of_getElem? (i := 736) (by decide +kernel)
theorem mlL_13 : Cond.methodLink RL 13 yX10_type ∈ lw_tbl := List.mem_of_getElem? (i := 306) (by decide +kernel)
theorem mlL_17 : Cond.methodLink RL 17 yX11_type ∈ lw_tbl := List.mem_of_getElem? (i := 809) (by decide +kernel)
theorem mlL_18 : Cond.methodLink RL 18 yX10_clear ∈ lw_tbl := List.mem_of_getElem? (i := 314) (by decide +kernel)
theorem mlL_22 : Cond.methodLink RL 22 yX11_clear ∈ lw_tbl := List.mem_of_getElem? (i := 817) (by decide +kernel)
theorem mlL_23 : Cond.methodLink RL 23 yX10_suit ∈ lw_tbl := List.mem_of_getElem? (i := 322) (by decide +kernel)
theorem mlL_26 : Cond.methodLink RL 26 yX11_suit ∈ lw_tbl := List.mem_of_getElem? (i := 821) (by decide +kernel)
theorem mlL_27 : Cond.methodLink RL 27 yX10_good ∈ lw_tbl := List.mem_of_getElem? (i := 404) (by decide +kernel)
theorem mlL_31 : Cond.methodLink RL 31 yX11_good ∈ lw_tbl := List.mem_of_getElem? (i := 858) (by decide +kernel)
theorem mlL_32 : Cond.methodLink RL 32 yX10_values ∈ lw_tbl := List.mem_of_getElem? (i := 417) (by decide +kernel)
theorem mlL_35 : Cond.methodLink RL 35 yX11_values ∈ lw_tbl := List.mem_of_getElem? (i := 867) (by decide +kernel)
theorem mlL_36 : Cond.methodLink RL 36 yX10_now ∈ lw_tbl := List.mem_of_getElem? (i := 427) (by decide +kernel)
theorem mlL_39 : Cond.methodLink RL 39 yX11_now ∈ lw_tbl := List.mem_of_getElem? (i := 882) (by decide +kernel)
theorem mlL_40 : Cond.methodLink RL 40 yX10_gives ∈ lw_tbl := List.mem_of_getElem? (i := 435) (by decide +kernel)
theorem mlL_43 : Cond.methodLink RL 43 yX11_gives ∈ lw_tbl := List.mem_of_getElem? (i := 890) (by decide +kernel)
theorem mlL_44 : Cond.methodLink RL 44 yX10_steps ∈ lw_tbl := List.mem_of_getElem? (i := 450) (by decide +kernel)
theorem mlL_47 : Cond.methodLink RL 47 yX11_steps ∈ lw_tbl := List.mem_of_getElem? (i := 901) (by decide +kernel)
theorem mlL_48 : Cond.methodLink RL 48 yX10_undo ∈ lw_tbl := List.mem_of_getElem? (i := 474) (by decide +kernel)
theorem mlL_51 : Cond.methodLink RL 51 yX11_undo ∈ lw_tbl := List.mem_of_getElem? (i := 917) (by decide +kernel)
theorem mlL_52 : Cond.methodLink RL 52 yX10_envy ∈ lw_tbl := List.mem_of_getElem? (i := 482) (by decide +kernel)
theorem mlL_55 : Cond.methodLink RL 55 yX11_envy ∈ lw_tbl := List.mem_of_getElem? (i := 921) (by decide +kernel)
theorem mlL_56 : Cond.methodLink RL 56 yX10_fair ∈ lw_tbl := List.mem_of_getElem? (i := 497) (by decide +kernel)
theorem mlL_59 : Cond.methodLink RL 59 yX11_fair ∈ lw_tbl := List.mem_of_getElem? (i := 929) (by decide +kernel)
theorem mlL_60 : Cond.methodLink RL 60 yX10_cut ∈ lw_tbl := List.mem_of_getElem? (i := 533) (by decide +kernel)
theorem mlL_63 : Cond.methodLink RL 63 yX11_cut ∈ lw_tbl := List.mem_of_getElem? (i := 946) (by decide +kernel)
theorem mlL_64 : Cond.methodLink RL 64 yX10_byTurns ∈ lw_tbl := List.mem_of_getElem? (i := 546) (by decide +kernel)
theorem mlL_67 : Cond.methodLink RL 67 yX11_byTurns ∈ lw_tbl := List.mem_of_getElem? (i := 950) (by decide +kernel)
theorem mlL_68 : Cond.methodLink RL 68 yX10_lies ∈ lw_tbl := List.mem_of_getElem? (i := 555) (by decide +kernel)
theorem mlL_71 : Cond.methodLink RL 71 yX11_lies ∈ lw_tbl := List.mem_of_getElem? (i := 965) (by decide +kernel)
theorem mlL_72 : Cond.methodLink RL 72 yX10_sell ∈ lw_tbl := List.mem_of_getElem? (i := 572) (by decide +kernel)
theorem mlL_75 : Cond.methodLink RL 75 yX11_sell ∈ lw_tbl := List.mem_of_getElem? (i := 973) (by decide +kernel)
theorem mlL_76 : Cond.methodLink RL 76 yX10_adds ∈ lw_tbl := List.mem_of_getElem? (i := 586) (by decide +kernel)
theorem mlL_79 : Cond.methodLink RL 79 yX11_adds ∈ lw_tbl := List.mem_of_getElem? (i := 978) (by decide +kernel)
theorem mlL_80 : Cond.methodLink RL 80 yX10_odds ∈ lw_tbl := List.mem_of_getElem? (i := 591) (by decide +kernel)
theorem mlL_83 : Cond.methodLink RL 83 yX11_odds ∈ lw_tbl := List.mem_of_getElem? (i := 982) (by decide +kernel)
theorem mlL_84 : Cond.methodLink RL 84 yX10_foot ∈ lw_tbl := List.mem_of_getElem? (i := 607) (by decide +kernel)
theorem mlL_87 : Cond.methodLink RL 87 yX11_foot ∈ lw_tbl := List.mem_of_getElem? (i := 987) (by decide +kernel)
theorem mlL_88 : Cond.methodLink RL 88 yX10_worn ∈ lw_tbl := List.mem_of_getElem? (i := 612) (by decide +kernel)
theorem mlL_91 : Cond.methodLink RL 91 yX11_worn ∈ lw_tbl := List.mem_of_getElem? (i := 991) (by decide +kernel)
theorem mlL_92 : Cond.methodLink RL 92 yX10_judge ∈ lw_tbl := List.mem_of_getElem? (i := 620) (by decide +kernel)
theorem mlL_95 : Cond.methodLink RL 95 yX11_judge ∈ lw_tbl := List.mem_of_getElem? (i := 999) (by decide +kernel)
theorem mlL_96 : Cond.methodLink RL 96 yX10_saw ∈ lw_tbl := List.mem_of_getElem? (i := 641) (by decide +kernel)
theorem mlL_100 : Cond.methodLink RL 100 yX11_saw ∈ lw_tbl := List.mem_of_getElem? (i := 1003) (by decide +kernel)
theorem mlL_101 : Cond.methodLink RL 101 yX10_forget ∈ lw_tbl := List.mem_of_getElem? (i := 645) (by decide +kernel)
theorem mlL_104 : Cond.methodLink RL 104 yX11_forget ∈ lw_tbl := List.mem_of_getElem? (i := 1008) (by decide +kernel)
theorem mlL_105 : Cond.methodLink RL 105 yX10_wrong ∈ lw_tbl := List.mem_of_getElem? (i := 649) (by decide +kernel)
theorem mlL_108 : Cond.methodLink RL 108 yX11_wrong ∈ lw_tbl := List.mem_of_getElem? (i := 1012) (by decide +kernel)
theorem mlL_109 : Cond.methodLink RL 109 yX10_asTold ∈ lw_tbl := List.mem_of_getElem? (i := 657) (by decide +kernel)
theorem mlL_112 : Cond.methodLink RL 112 yX11_asTold ∈ lw_tbl := List.mem_of_getElem? (i := 1020) (by decide +kernel)
theorem mlL_113 : Cond.methodLink RL 113 yX10_soonest ∈ lw_tbl := List.mem_of_getElem? (i := 661) (by decide +kernel)
theorem mlL_116 : Cond.methodLink RL 116 yX11_soonest ∈ lw_tbl := List.mem_of_getElem? (i := 1024) (by decide +kernel)
theorem mlL_117 : Cond.methodLink RL 117 yX10_rate ∈ lw_tbl := List.mem_of_getElem? (i := 669) (by decide +kernel)
theorem mlL_120 : Cond.methodLink RL 120 yX11_rate ∈ lw_tbl := List.mem_of_getElem? (i := 1040) (by decide +kernel)
theorem mlL_121 : Cond.methodLink RL 121 yX10_keep ∈ lw_tbl := List.mem_of_getElem? (i := 709) (by decide +kernel)
theorem mlL_124 : Cond.methodLink RL 124 yX11_keep ∈ lw_tbl := List.mem_of_getElem? (i := 1051) (by decide +kernel)
theorem mlL_125 : Cond.methodLink RL 125 yX10_back ∈ lw_tbl := List.mem_of_getElem? (i := 722) (by decide +kernel)
theorem mlL_128 : Cond.methodLink RL 128 yX11_back ∈ lw_tbl := List.mem_of_getElem? (i := 1055) (by decide +kernel)
theorem mlL_129 : Cond.methodLink RL 129 yX10_count ∈ lw_tbl := List.mem_of_getElem? (i := 726) (by decide +kernel)
theorem mlL_132 : Cond.methodLink RL 132 yX11_count ∈ lw_tbl := List.mem_of_getElem? (i := 1059) (by decide +kernel)
theorem mlL_133 : Cond.methodLink RL 133 yX10_trace ∈ lw_tbl := List.mem_of_getElem? (i := 730) (by decide +kernel)
theorem mlL_137 : Cond.methodLink RL 137 yX11_trace ∈ lw_tbl := List.mem_of_getElem? (i := 1063) (by decide +kernel)
theorem mlX11_1 : Cond.methodLink RX11 1 ⟨"java/lang/Object", "<init>", "()V"⟩ ∈ lw_tbl := List.mem_of_getElem? (i := 739) (by decide +kernel)
theorem mlX11_50 : Cond.methodLink RX11 50 yX11_clean ∈ lw_tbl := List.mem_of_getElem? (i := 740) (by decide +kernel)
theorem mlX11_54 : Cond.methodLink RX11 54 yX11_begins ∈ lw_tbl := List.mem_of_getElem? (i := 743) (by decide +kernel)
theorem mlX11_57 : Cond.methodLink RX11 57 yX11_in ∈ lw_tbl := List.mem_of_getElem? (i := 814) (by decide +kernel)
theorem mlX11_79 : Cond.methodLink RX11 79 yX11_first ∈ lw_tbl := List.mem_of_getElem? (i := 825) (by decide +kernel)
theorem mlX11_87 : Cond.methodLink RX11 87 yX11_number ∈ lw_tbl := List.mem_of_getElem? (i := 837) (by decide +kernel)
theorem mlX11_91 : Cond.methodLink RX11 91 yX11_ends ∈ lw_tbl := List.mem_of_getElem? (i := 843) (by decide +kernel)
theorem mlX11_97 : Cond.methodLink RX11 97 yX11_has ∈ lw_tbl := List.mem_of_getElem? (i := 855) (by decide +kernel)
theorem mlX11_101 : Cond.methodLink RX11 101 yX11_takesGood ∈ lw_tbl := List.mem_of_getElem? (i := 833) (by decide +kernel)
theorem mlX11_104 : Cond.methodLink RX11 104 yX11_takesPair ∈ lw_tbl := List.mem_of_getElem? (i := 847) (by decide +kernel)
theorem mlX11_107 : Cond.methodLink RX11 107 yX11_takesOne ∈ lw_tbl := List.mem_of_getElem? (i := 851) (by decide +kernel)
theorem mlX11_110 : Cond.methodLink RX11 110 yX11_takesItem ∈ lw_tbl := List.mem_of_getElem? (i := 829) (by decide +kernel)
theorem mlX11_114 : Cond.methodLink RX11 114 yX11_isGood ∈ lw_tbl := List.mem_of_getElem? (i := 862) (by decide +kernel)
theorem mlX11_119 : Cond.methodLink RX11 119 yX11_isTwo ∈ lw_tbl := List.mem_of_getElem? (i := 871) (by decide +kernel)
theorem mlX11_122 : Cond.methodLink RX11 122 yX11_all ∈ lw_tbl := List.mem_of_getElem? (i := 874) (by decide +kernel)
theorem mlX11_125 : Cond.methodLink RX11 125 yX11_valued ∈ lw_tbl := List.mem_of_getElem? (i := 878) (by decide +kernel)
theorem mlX11_129 : Cond.methodLink RX11 129 yX11_goodsOf ∈ lw_tbl := List.mem_of_getElem? (i := 886) (by decide +kernel)
theorem mlX11_133 : Cond.methodLink RX11 133 yX11_copies ∈ lw_tbl := List.mem_of_getElem? (i := 898) (by decide +kernel)
theorem mlX11_137 : Cond.methodLink RX11 137 yX11_remember ∈ lw_tbl := List.mem_of_getElem? (i := 894) (by decide +kernel)
theorem mlX11_140 : Cond.methodLink RX11 140 yX11_footOf ∈ lw_tbl := List.mem_of_getElem? (i := 909) (by decide +kernel)
theorem mlX11_143 : Cond.methodLink RX11 143 yX11_stepsOf ∈ lw_tbl := List.mem_of_getElem? (i := 905) (by decide +kernel)
theorem mlX11_146 : Cond.methodLink RX11 146 yX11_wornBy ∈ lw_tbl := List.mem_of_getElem? (i := 913) (by decide +kernel)
theorem mlX11_150 : Cond.methodLink RX11 150 yX11_envyBy ∈ lw_tbl := List.mem_of_getElem? (i := 925) (by decide +kernel)
theorem mlX11_153 : Cond.methodLink RX11 153 yX11_isFair ∈ lw_tbl := List.mem_of_getElem? (i := 934) (by decide +kernel)
theorem mlX11_156 : Cond.methodLink RX11 156 yX11_together ∈ lw_tbl := List.mem_of_getElem? (i := 942) (by decide +kernel)
theorem mlX11_161 : Cond.methodLink RX11 161 yX11_best ∈ lw_tbl := List.mem_of_getElem? (i := 938) (by decide +kernel)
theorem mlX11_165 : Cond.methodLink RX11 165 yX11_bits ∈ lw_tbl := List.mem_of_getElem? (i := 958) (by decide +kernel)
theorem mlX11_168 : Cond.methodLink RX11 168 yX11_layTake ∈ lw_tbl := List.mem_of_getElem? (i := 961) (by decide +kernel)
theorem mlX11_172 : Cond.methodLink RX11 172 yX11_layTurns ∈ lw_tbl := List.mem_of_getElem? (i := 954) (by decide +kernel)
theorem mlX11_176 : Cond.methodLink RX11 176 yX11_gains ∈ lw_tbl := List.mem_of_getElem? (i := 969) (by decide +kernel)
theorem mlX11_183 : Cond.methodLink RX11 183 yX11_isCell ∈ lw_tbl := List.mem_of_getElem? (i := 995) (by decide +kernel)
theorem mlX11_188 : Cond.methodLink RX11 188 yX11_isSo ∈ lw_tbl := List.mem_of_getElem? (i := 1016) (by decide +kernel)
theorem mlX11_191 : Cond.methodLink RX11 191 yX11_place ∈ lw_tbl := List.mem_of_getElem? (i := 1029) (by decide +kernel)
theorem mlX11_194 : Cond.methodLink RX11 194 yX11_anyOf ∈ lw_tbl := List.mem_of_getElem? (i := 1036) (by decide +kernel)
theorem mlX11_199 : Cond.methodLink RX11 199 yX11_goes ∈ lw_tbl := List.mem_of_getElem? (i := 1032) (by decide +kernel)
theorem mlX11_212 : Cond.methodLink RX11 212 yX11_envy ∈ lw_tbl := List.mem_of_getElem? (i := 1047) (by decide +kernel)
/-- a field by its link: class number, place, final, type -/
def aFl (own : String) (idx ci k : Nat) (fin : Bool) (ty : FieldType) : Prop := ∃ (C : String) (T : u_T) (N : Nat) (tys : Nat → FieldType), vwCl[ci]? = some (C, T, N) ∧ k < N ∧ (∀ w ∈ u_ws C T N, w ∈ lw_gn) ∧ (∀ j, j < N → parseFieldDescriptor (T j).2.2.1 = some (tys j)) ∧ (∀ a, a < N → ∀ b, b < N → a ≠ b → (T a).2.1 ≠ (T b).2.1) ∧ (T k).2.2.2 = fin ∧ parseFieldDescriptor (T k).2.2.1 = some ty ∧ (Cond.fieldLink own idx (T k).1 (T k).2.1 (T k).2.2.1 ∈ lw_tbl ∨ ∃ host, Cond.fieldLinkNest own idx (T k).1 (T k).2.1 (T k).2.2.1 host ∈ lw_tbl)
theorem ui0 : ∀ w ∈ u_ws RX0 TX0 0, w ∈ lw_gn := by decide +kernel
theorem ui1 : ∀ w ∈ u_ws RX1 TX1 0, w ∈ lw_gn := by decide +kernel
theorem ui2 : ∀ w ∈ u_ws RX2 TX2 0, w ∈ lw_gn := by decide +kernel
theorem ui3 : ∀ w ∈ u_ws RX3 TX3 4, w ∈ lw_gn := by decide +kernel
theorem ui4 : ∀ w ∈ u_ws RX4 TX4 6, w ∈ lw_gn := by decide +kernel
theorem ui5 : ∀ w ∈ u_ws RX5 TX5 8, w ∈ lw_gn := by decide +kernel
theorem ui6 : ∀ w ∈ u_ws RX6 TX6 8, w ∈ lw_gn := by decide +kernel
theorem ui7 : ∀ w ∈ u_ws RX7 TX7 0, w ∈ lw_gn := by decide +kernel
theorem ui8 : ∀ w ∈ u_ws RX8 TX8 0, w ∈ lw_gn := by decide +kernel
theorem ui9 : ∀ w ∈ u_ws RX9 TX9 0, w ∈ lw_gn := by decide +kernel
theorem ui10 : ∀ w ∈ u_ws RX10 TX10 15, w ∈ lw_gn := by decide +kernel
theorem ui11 : ∀ w ∈ u_ws RX11 TX11 20, w ∈ lw_gn := by decide +kernel
theorem flX10_12 : aFl RX10 12 10 0 true (.object "ShoesAtLaw$Reader") := ⟨RX10, TX10, 15, tyX10, rfl, by decide, ui10, tyX10_ok, nmX10, rfl, by decide +kernel, Or.inl (List.mem_of_getElem? (i := 251) (by decide +kernel))⟩
theorem flX10_19 : aFl RX10 19 10 1 false (.object "ShoesAtLaw$Suit") := ⟨RX10, TX10, 15, tyX10, rfl, by decide, ui10, tyX10_ok, nmX10, rfl, by decide +kernel, Or.inl (List.mem_of_getElem? (i := 252) (by decide +kernel))⟩
theorem flX10_23 : aFl RX10 23 10 2 false (.object "ShoesAtLaw$Suit") := ⟨RX10, TX10, 15, tyX10, rfl, by decide, ui10, tyX10_ok, nmX10, rfl, by decide +kernel, Or.inl (List.mem_of_getElem? (i := 254) (by decide +kernel))⟩
theorem flX10_29 : aFl RX10 29 10 3 true (.object "ShoesAtLaw$Now") := ⟨RX10, TX10, 15, tyX10, rfl, by decide, ui10, tyX10_ok, nmX10, rfl, by decide +kernel, Or.inl (List.mem_of_getElem? (i := 255) (by decide +kernel))⟩
theorem flX10_33 : aFl RX10 33 10 4 true (.object "ShoesAtLaw$Now") := ⟨RX10, TX10, 15, tyX10, rfl, by decide, ui10, tyX10_ok, nmX10, rfl, by decide +kernel, Or.inl (List.mem_of_getElem? (i := 258) (by decide +kernel))⟩
theorem flX10_36 : aFl RX10 36 10 5 true (.object "ShoesAtLaw$Now") := ⟨RX10, TX10, 15, tyX10, rfl, by decide, ui10, tyX10_ok, nmX10, rfl, by decide +kernel, Or.inl (List.mem_of_getElem? (i := 259) (by decide +kernel))⟩
theorem flX10_42 : aFl RX10 42 10 6 true (.object "ShoesAtLaw$Partings") := ⟨RX10, TX10, 15, tyX10, rfl, by decide, ui10, tyX10_ok, nmX10, rfl, by decide +kernel, Or.inl (List.mem_of_getElem? (i := 260) (by decide +kernel))⟩
theorem flX10_48 : aFl RX10 48 10 7 true (.array (.object "ShoesAtLaw$Judge")) := ⟨RX10, TX10, 15, tyX10, rfl, by decide, ui10, tyX10_ok, nmX10, rfl, by decide +kernel, Or.inl (List.mem_of_getElem? (i := 261) (by decide +kernel))⟩
theorem flX10_52 : aFl RX10 52 10 8 true (.array .int) := ⟨RX10, TX10, 15, tyX10, rfl, by decide, ui10, tyX10_ok, nmX10, rfl, by decide +kernel, Or.inl (List.mem_of_getElem? (i := 262) (by decide +kernel))⟩
theorem flX10_56 : aFl RX10 56 10 10 true (.array .int) := ⟨RX10, TX10, 15, tyX10, rfl, by decide, ui10, tyX10_ok, nmX10, rfl, by decide +kernel, Or.inl (List.mem_of_getElem? (i := 264) (by decide +kernel))⟩
theorem flX10_59 : aFl RX10 59 10 11 true (.array .int) := ⟨RX10, TX10, 15, tyX10, rfl, by decide, ui10, tyX10_ok, nmX10, rfl, by decide +kernel, Or.inl (List.mem_of_getElem? (i := 265) (by decide +kernel))⟩
theorem flX10_62 : aFl RX10 62 10 12 true (.array .int) := ⟨RX10, TX10, 15, tyX10, rfl, by decide, ui10, tyX10_ok, nmX10, rfl, by decide +kernel, Or.inl (List.mem_of_getElem? (i := 266) (by decide +kernel))⟩
theorem flX10_88 : aFl RX10 88 5 1 false .int := ⟨RX5, TX5, 8, tyX5, rfl, by decide, ui5, tyX5_ok, nmX5, rfl, by decide +kernel, Or.inr ⟨"ShoesAtLaw", List.mem_of_getElem? (i := 83) (by decide +kernel)⟩⟩
theorem flX10_123 : aFl RX10 123 3 2 false .int := ⟨RX3, TX3, 4, tyX3, rfl, by decide, ui3, tyX3_ok, nmX3, rfl, by decide +kernel, Or.inr ⟨"ShoesAtLaw", List.mem_of_getElem? (i := 162) (by decide +kernel)⟩⟩
theorem flX10_126 : aFl RX10 126 10 9 false .int := ⟨RX10, TX10, 15, tyX10, rfl, by decide, ui10, tyX10_ok, nmX10, rfl, by decide +kernel, Or.inl (List.mem_of_getElem? (i := 263) (by decide +kernel))⟩
theorem flX10_129 : aFl RX10 129 6 0 false .int := ⟨RX6, TX6, 8, tyX6, rfl, by decide, ui6, tyX6_ok, nmX6, rfl, by decide +kernel, Or.inr ⟨"ShoesAtLaw", List.mem_of_getElem? (i := 121) (by decide +kernel)⟩⟩
theorem flX10_192 : aFl RX10 192 4 4 false .int := ⟨RX4, TX4, 6, tyX4, rfl, by decide, ui4, tyX4_ok, nmX4, rfl, by decide +kernel, Or.inr ⟨"ShoesAtLaw", List.mem_of_getElem? (i := 184) (by decide +kernel)⟩⟩
theorem flX10_195 : aFl RX10 195 4 5 false .int := ⟨RX4, TX4, 6, tyX4, rfl, by decide, ui4, tyX4_ok, nmX4, rfl, by decide +kernel, Or.inr ⟨"ShoesAtLaw", List.mem_of_getElem? (i := 186) (by decide +kernel)⟩⟩
theorem flX10_219 : aFl RX10 219 6 2 false .int := ⟨RX6, TX6, 8, tyX6, rfl, by decide, ui6, tyX6_ok, nmX6, rfl, by decide +kernel, Or.inr ⟨"ShoesAtLaw", List.mem_of_getElem? (i := 128) (by decide +kernel)⟩⟩
theorem flX10_231 : aFl RX10 231 10 13 false .int := ⟨RX10, TX10, 15, tyX10, rfl, by decide, ui10, tyX10_ok, nmX10, rfl, by decide +kernel, Or.inl (List.mem_of_getElem? (i := 267) (by decide +kernel))⟩
theorem flX10_254 : aFl RX10 254 3 3 false .boolean := ⟨RX3, TX3, 4, tyX3, rfl, by decide, ui3, tyX3_ok, nmX3, rfl, by decide +kernel, Or.inr ⟨"ShoesAtLaw", List.mem_of_getElem? (i := 163) (by decide +kernel)⟩⟩
theorem flX10_258 : aFl RX10 258 6 1 false .int := ⟨RX6, TX6, 8, tyX6, rfl, by decide, ui6, tyX6_ok, nmX6, rfl, by decide +kernel, Or.inr ⟨"ShoesAtLaw", List.mem_of_getElem? (i := 125) (by decide +kernel)⟩⟩
theorem flX10_261 : aFl RX10 261 6 3 false .int := ⟨RX6, TX6, 8, tyX6, rfl, by decide, ui6, tyX6_ok, nmX6, rfl, by decide +kernel, Or.inr ⟨"ShoesAtLaw", List.mem_of_getElem? (i := 131) (by decide +kernel)⟩⟩
theorem flX10_264 : aFl RX10 264 10 14 false .long := ⟨RX10, TX10, 15, tyX10, rfl, by decide, ui10, tyX10_ok, nmX10, rfl, by decide +kernel, Or.inl (List.mem_of_getElem? (i := 274) (by decide +kernel))⟩
theorem flX0_7 : aFl RX0 7 10 14 false .long := ⟨RX10, TX10, 15, tyX10, rfl, by decide, ui10, tyX10_ok, nmX10, rfl, by decide +kernel, Or.inr ⟨"ShoesAtLaw", List.mem_of_getElem? (i := 269) (by decide +kernel)⟩⟩
theorem flX0_19 : aFl RX0 19 10 3 true (.object "ShoesAtLaw$Now") := ⟨RX10, TX10, 15, tyX10, rfl, by decide, ui10, tyX10_ok, nmX10, rfl, by decide +kernel, Or.inr ⟨"ShoesAtLaw", List.mem_of_getElem? (i := 256) (by decide +kernel)⟩⟩
theorem flX1_7 : aFl RX1 7 10 14 false .long := ⟨RX10, TX10, 15, tyX10, rfl, by decide, ui10, tyX10_ok, nmX10, rfl, by decide +kernel, Or.inr ⟨"ShoesAtLaw", List.mem_of_getElem? (i := 268) (by decide +kernel)⟩⟩
theorem flX2_7 : aFl RX2 7 10 14 false .long := ⟨RX10, TX10, 15, tyX10, rfl, by decide, ui10, tyX10_ok, nmX10, rfl, by decide +kernel, Or.inr ⟨"ShoesAtLaw", List.mem_of_getElem? (i := 270) (by decide +kernel)⟩⟩
theorem flX3_9 : aFl RX3 9 3 0 true (.array .int) := ⟨RX3, TX3, 4, tyX3, rfl, by decide, ui3, tyX3_ok, nmX3, rfl, by decide +kernel, Or.inl (List.mem_of_getElem? (i := 159) (by decide +kernel))⟩
theorem flX3_15 : aFl RX3 15 3 1 true (.array .int) := ⟨RX3, TX3, 4, tyX3, rfl, by decide, ui3, tyX3_ok, nmX3, rfl, by decide +kernel, Or.inl (List.mem_of_getElem? (i := 160) (by decide +kernel))⟩
theorem flX3_18 : aFl RX3 18 3 2 false .int := ⟨RX3, TX3, 4, tyX3, rfl, by decide, ui3, tyX3_ok, nmX3, rfl, by decide +kernel, Or.inl (List.mem_of_getElem? (i := 161) (by decide +kernel))⟩
theorem flX4_9 : aFl RX4 9 4 0 true (.array .int) := ⟨RX4, TX4, 6, tyX4, rfl, by decide, ui4, tyX4_ok, nmX4, rfl, by decide +kernel, Or.inl (List.mem_of_getElem? (i := 179) (by decide +kernel))⟩
theorem flX4_15 : aFl RX4 15 4 1 true (.array .int) := ⟨RX4, TX4, 6, tyX4, rfl, by decide, ui4, tyX4_ok, nmX4, rfl, by decide +kernel, Or.inl (List.mem_of_getElem? (i := 180) (by decide +kernel))⟩
theorem flX4_18 : aFl RX4 18 4 2 true (.array .int) := ⟨RX4, TX4, 6, tyX4, rfl, by decide, ui4, tyX4_ok, nmX4, rfl, by decide +kernel, Or.inl (List.mem_of_getElem? (i := 181) (by decide +kernel))⟩
theorem flX4_54 : aFl RX4 54 6 0 false .int := ⟨RX6, TX6, 8, tyX6, rfl, by decide, ui6, tyX6_ok, nmX6, rfl, by decide +kernel, Or.inr ⟨"ShoesAtLaw", List.mem_of_getElem? (i := 122) (by decide +kernel)⟩⟩
theorem flX4_62 : aFl RX4 62 4 4 false .int := ⟨RX4, TX4, 6, tyX4, rfl, by decide, ui4, tyX4_ok, nmX4, rfl, by decide +kernel, Or.inl (List.mem_of_getElem? (i := 183) (by decide +kernel))⟩
theorem flX4_65 : aFl RX4 65 4 5 false .int := ⟨RX4, TX4, 6, tyX4, rfl, by decide, ui4, tyX4_ok, nmX4, rfl, by decide +kernel, Or.inl (List.mem_of_getElem? (i := 185) (by decide +kernel))⟩
theorem flX4_78 : aFl RX4 78 4 3 false .int := ⟨RX4, TX4, 6, tyX4, rfl, by decide, ui4, tyX4_ok, nmX4, rfl, by decide +kernel, Or.inl (List.mem_of_getElem? (i := 182) (by decide +kernel))⟩
theorem flX5_9 : aFl RX5 9 5 0 true (.array .int) := ⟨RX5, TX5, 8, tyX5, rfl, by decide, ui5, tyX5_ok, nmX5, rfl, by decide +kernel, Or.inl (List.mem_of_getElem? (i := 81) (by decide +kernel))⟩
theorem flX5_15 : aFl RX5 15 5 1 false .int := ⟨RX5, TX5, 8, tyX5, rfl, by decide, ui5, tyX5_ok, nmX5, rfl, by decide +kernel, Or.inl (List.mem_of_getElem? (i := 82) (by decide +kernel))⟩
theorem flX5_24 : aFl RX5 24 5 2 false .int := ⟨RX5, TX5, 8, tyX5, rfl, by decide, ui5, tyX5_ok, nmX5, rfl, by decide +kernel, Or.inl (List.mem_of_getElem? (i := 84) (by decide +kernel))⟩
theorem flX5_27 : aFl RX5 27 5 6 false .boolean := ⟨RX5, TX5, 8, tyX5, rfl, by decide, ui5, tyX5_ok, nmX5, rfl, by decide +kernel, Or.inl (List.mem_of_getElem? (i := 88) (by decide +kernel))⟩
theorem flX5_31 : aFl RX5 31 5 7 false .boolean := ⟨RX5, TX5, 8, tyX5, rfl, by decide, ui5, tyX5_ok, nmX5, rfl, by decide +kernel, Or.inl (List.mem_of_getElem? (i := 89) (by decide +kernel))⟩
theorem flX5_37 : aFl RX5 37 5 4 false .int := ⟨RX5, TX5, 8, tyX5, rfl, by decide, ui5, tyX5_ok, nmX5, rfl, by decide +kernel, Or.inl (List.mem_of_getElem? (i := 86) (by decide +kernel))⟩
theorem flX5_53 : aFl RX5 53 5 3 false .int := ⟨RX5, TX5, 8, tyX5, rfl, by decide, ui5, tyX5_ok, nmX5, rfl, by decide +kernel, Or.inl (List.mem_of_getElem? (i := 85) (by decide +kernel))⟩
theorem flX5_56 : aFl RX5 56 6 0 false .int := ⟨RX6, TX6, 8, tyX6, rfl, by decide, ui6, tyX6_ok, nmX6, rfl, by decide +kernel, Or.inr ⟨"ShoesAtLaw", List.mem_of_getElem? (i := 120) (by decide +kernel)⟩⟩
theorem flX5_63 : aFl RX5 63 5 5 false .int := ⟨RX5, TX5, 8, tyX5, rfl, by decide, ui5, tyX5_ok, nmX5, rfl, by decide +kernel, Or.inl (List.mem_of_getElem? (i := 87) (by decide +kernel))⟩
theorem flX5_74 : aFl RX5 74 6 1 false .int := ⟨RX6, TX6, 8, tyX6, rfl, by decide, ui6, tyX6_ok, nmX6, rfl, by decide +kernel, Or.inr ⟨"ShoesAtLaw", List.mem_of_getElem? (i := 124) (by decide +kernel)⟩⟩
theorem flX5_81 : aFl RX5 81 6 2 false .int := ⟨RX6, TX6, 8, tyX6, rfl, by decide, ui6, tyX6_ok, nmX6, rfl, by decide +kernel, Or.inr ⟨"ShoesAtLaw", List.mem_of_getElem? (i := 127) (by decide +kernel)⟩⟩
theorem flX5_84 : aFl RX5 84 6 3 false .int := ⟨RX6, TX6, 8, tyX6, rfl, by decide, ui6, tyX6_ok, nmX6, rfl, by decide +kernel, Or.inr ⟨"ShoesAtLaw", List.mem_of_getElem? (i := 130) (by decide +kernel)⟩⟩
theorem flX6_9 : aFl RX6 9 6 4 true (.array .int) := ⟨RX6, TX6, 8, tyX6, rfl, by decide, ui6, tyX6_ok, nmX6, rfl, by decide +kernel, Or.inl (List.mem_of_getElem? (i := 132) (by decide +kernel))⟩
theorem flX6_15 : aFl RX6 15 6 5 true (.array .int) := ⟨RX6, TX6, 8, tyX6, rfl, by decide, ui6, tyX6_ok, nmX6, rfl, by decide +kernel, Or.inl (List.mem_of_getElem? (i := 133) (by decide +kernel))⟩
theorem flX6_18 : aFl RX6 18 6 6 true (.array .int) := ⟨RX6, TX6, 8, tyX6, rfl, by decide, ui6, tyX6_ok, nmX6, rfl, by decide +kernel, Or.inl (List.mem_of_getElem? (i := 134) (by decide +kernel))⟩
theorem flX6_21 : aFl RX6 21 6 7 true (.array .int) := ⟨RX6, TX6, 8, tyX6, rfl, by decide, ui6, tyX6_ok, nmX6, rfl, by decide +kernel, Or.inl (List.mem_of_getElem? (i := 135) (by decide +kernel))⟩
theorem flX6_27 : aFl RX6 27 6 0 false .int := ⟨RX6, TX6, 8, tyX6, rfl, by decide, ui6, tyX6_ok, nmX6, rfl, by decide +kernel, Or.inl (List.mem_of_getElem? (i := 118) (by decide +kernel))⟩
theorem flX6_31 : aFl RX6 31 6 1 false .int := ⟨RX6, TX6, 8, tyX6, rfl, by decide, ui6, tyX6_ok, nmX6, rfl, by decide +kernel, Or.inl (List.mem_of_getElem? (i := 123) (by decide +kernel))⟩
theorem flX6_34 : aFl RX6 34 6 2 false .int := ⟨RX6, TX6, 8, tyX6, rfl, by decide, ui6, tyX6_ok, nmX6, rfl, by decide +kernel, Or.inl (List.mem_of_getElem? (i := 126) (by decide +kernel))⟩
theorem flX6_37 : aFl RX6 37 6 3 false .int := ⟨RX6, TX6, 8, tyX6, rfl, by decide, ui6, tyX6_ok, nmX6, rfl, by decide +kernel, Or.inl (List.mem_of_getElem? (i := 129) (by decide +kernel))⟩
theorem flX7_9 : aFl RX7 9 10 14 false .long := ⟨RX10, TX10, 15, tyX10, rfl, by decide, ui10, tyX10_ok, nmX10, rfl, by decide +kernel, Or.inr ⟨"ShoesAtLaw", List.mem_of_getElem? (i := 271) (by decide +kernel)⟩⟩
theorem flX7_19 : aFl RX7 19 10 3 true (.object "ShoesAtLaw$Now") := ⟨RX10, TX10, 15, tyX10, rfl, by decide, ui10, tyX10_ok, nmX10, rfl, by decide +kernel, Or.inr ⟨"ShoesAtLaw", List.mem_of_getElem? (i := 257) (by decide +kernel)⟩⟩
theorem flX7_23 : aFl RX7 23 10 1 false (.object "ShoesAtLaw$Suit") := ⟨RX10, TX10, 15, tyX10, rfl, by decide, ui10, tyX10_ok, nmX10, rfl, by decide +kernel, Or.inr ⟨"ShoesAtLaw", List.mem_of_getElem? (i := 253) (by decide +kernel)⟩⟩
theorem flX7_27 : aFl RX7 27 6 0 false .int := ⟨RX6, TX6, 8, tyX6, rfl, by decide, ui6, tyX6_ok, nmX6, rfl, by decide +kernel, Or.inr ⟨"ShoesAtLaw", List.mem_of_getElem? (i := 119) (by decide +kernel)⟩⟩
theorem flX8_7 : aFl RX8 7 10 14 false .long := ⟨RX10, TX10, 15, tyX10, rfl, by decide, ui10, tyX10_ok, nmX10, rfl, by decide +kernel, Or.inr ⟨"ShoesAtLaw", List.mem_of_getElem? (i := 272) (by decide +kernel)⟩⟩
theorem flX9_7 : aFl RX9 7 10 14 false .long := ⟨RX10, TX10, 15, tyX10, rfl, by decide, ui10, tyX10_ok, nmX10, rfl, by decide +kernel, Or.inr ⟨"ShoesAtLaw", List.mem_of_getElem? (i := 273) (by decide +kernel)⟩⟩
theorem flX11_7 : aFl RX11 7 11 0 true (.array .int) := ⟨RX11, TX11, 20, tyX11, rfl, by decide, ui11, tyX11_ok, nmX11, rfl, by decide +kernel, Or.inl (List.mem_of_getElem? (i := 747) (by decide +kernel))⟩
theorem flX11_13 : aFl RX11 13 11 1 true (.array .int) := ⟨RX11, TX11, 20, tyX11, rfl, by decide, ui11, tyX11_ok, nmX11, rfl, by decide +kernel, Or.inl (List.mem_of_getElem? (i := 748) (by decide +kernel))⟩
theorem flX11_16 : aFl RX11 16 11 2 true (.array .int) := ⟨RX11, TX11, 20, tyX11, rfl, by decide, ui11, tyX11_ok, nmX11, rfl, by decide +kernel, Or.inl (List.mem_of_getElem? (i := 749) (by decide +kernel))⟩
theorem flX11_19 : aFl RX11 19 11 3 true (.array .int) := ⟨RX11, TX11, 20, tyX11, rfl, by decide, ui11, tyX11_ok, nmX11, rfl, by decide +kernel, Or.inl (List.mem_of_getElem? (i := 750) (by decide +kernel))⟩
theorem flX11_22 : aFl RX11 22 11 5 true (.array .int) := ⟨RX11, TX11, 20, tyX11, rfl, by decide, ui11, tyX11_ok, nmX11, rfl, by decide +kernel, Or.inl (List.mem_of_getElem? (i := 752) (by decide +kernel))⟩
theorem flX11_25 : aFl RX11 25 11 6 true (.array .boolean) := ⟨RX11, TX11, 20, tyX11, rfl, by decide, ui11, tyX11_ok, nmX11, rfl, by decide +kernel, Or.inl (List.mem_of_getElem? (i := 753) (by decide +kernel))⟩
theorem flX11_29 : aFl RX11 29 11 7 true (.array .int) := ⟨RX11, TX11, 20, tyX11, rfl, by decide, ui11, tyX11_ok, nmX11, rfl, by decide +kernel, Or.inl (List.mem_of_getElem? (i := 754) (by decide +kernel))⟩
theorem flX11_32 : aFl RX11 32 11 9 true (.array .int) := ⟨RX11, TX11, 20, tyX11, rfl, by decide, ui11, tyX11_ok, nmX11, rfl, by decide +kernel, Or.inl (List.mem_of_getElem? (i := 756) (by decide +kernel))⟩
theorem flX11_35 : aFl RX11 35 11 15 true (.array .int) := ⟨RX11, TX11, 20, tyX11, rfl, by decide, ui11, tyX11_ok, nmX11, rfl, by decide +kernel, Or.inl (List.mem_of_getElem? (i := 762) (by decide +kernel))⟩
theorem flX11_38 : aFl RX11 38 11 16 true (.array .int) := ⟨RX11, TX11, 20, tyX11, rfl, by decide, ui11, tyX11_ok, nmX11, rfl, by decide +kernel, Or.inl (List.mem_of_getElem? (i := 763) (by decide +kernel))⟩
theorem flX11_41 : aFl RX11 41 11 17 true (.array .int) := ⟨RX11, TX11, 20, tyX11, rfl, by decide, ui11, tyX11_ok, nmX11, rfl, by decide +kernel, Or.inl (List.mem_of_getElem? (i := 764) (by decide +kernel))⟩
theorem flX11_44 : aFl RX11 44 11 18 true (.array .boolean) := ⟨RX11, TX11, 20, tyX11, rfl, by decide, ui11, tyX11_ok, nmX11, rfl, by decide +kernel, Or.inl (List.mem_of_getElem? (i := 765) (by decide +kernel))⟩
theorem flX11_47 : aFl RX11 47 11 19 true (.array .boolean) := ⟨RX11, TX11, 20, tyX11, rfl, by decide, ui11, tyX11_ok, nmX11, rfl, by decide +kernel, Or.inl (List.mem_of_getElem? (i := 766) (by decide +kernel))⟩
theorem flX11_61 : aFl RX11 61 11 4 false .int := ⟨RX11, TX11, 20, tyX11, rfl, by decide, ui11, tyX11_ok, nmX11, rfl, by decide +kernel, Or.inl (List.mem_of_getElem? (i := 751) (by decide +kernel))⟩
theorem flX11_65 : aFl RX11 65 11 10 false .int := ⟨RX11, TX11, 20, tyX11, rfl, by decide, ui11, tyX11_ok, nmX11, rfl, by decide +kernel, Or.inl (List.mem_of_getElem? (i := 757) (by decide +kernel))⟩
theorem flX11_70 : aFl RX11 70 11 8 false .int := ⟨RX11, TX11, 20, tyX11, rfl, by decide, ui11, tyX11_ok, nmX11, rfl, by decide +kernel, Or.inl (List.mem_of_getElem? (i := 755) (by decide +kernel))⟩
theorem flX11_73 : aFl RX11 73 11 12 false .int := ⟨RX11, TX11, 20, tyX11, rfl, by decide, ui11, tyX11_ok, nmX11, rfl, by decide +kernel, Or.inl (List.mem_of_getElem? (i := 759) (by decide +kernel))⟩
theorem flX11_76 : aFl RX11 76 11 13 false .int := ⟨RX11, TX11, 20, tyX11, rfl, by decide, ui11, tyX11_ok, nmX11, rfl, by decide +kernel, Or.inl (List.mem_of_getElem? (i := 760) (by decide +kernel))⟩
theorem flX11_94 : aFl RX11 94 11 14 false .int := ⟨RX11, TX11, 20, tyX11, rfl, by decide, ui11, tyX11_ok, nmX11, rfl, by decide +kernel, Or.inl (List.mem_of_getElem? (i := 761) (by decide +kernel))⟩
theorem flX11_206 : aFl RX11 206 11 11 false .long := ⟨RX11, TX11, 20, tyX11, rfl, by decide, ui11, tyX11_ok, nmX11, rfl, by decide +kernel, Or.inl (List.mem_of_getElem? (i := 758) (by decide +kernel))⟩
theorem kcX10_241 : Cond.constant RX10 241 (-1000000) ∈ lw_tbl := List.mem_of_getElem? (i := 673) (by decide +kernel)
theorem kcX10_285 : Cond.constant RX10 285 (1000000) ∈ lw_tbl := List.mem_of_getElem? (i := 606) (by decide +kernel)
theorem kcX0_13 : Cond.constantLong RX0 13 (10) ∈ lw_tbl := List.mem_of_getElem? (i := 681) (by decide +kernel)
theorem kcX2_13 : Cond.constantLong RX2 13 (1000) ∈ lw_tbl := List.mem_of_getElem? (i := 687) (by decide +kernel)
theorem kcX7_13 : Cond.constantLong RX7 13 (100000) ∈ lw_tbl := List.mem_of_getElem? (i := 692) (by decide +kernel)
theorem kcX8_13 : Cond.constantLong RX8 13 (10000) ∈ lw_tbl := List.mem_of_getElem? (i := 699) (by decide +kernel)
theorem kcX9_13 : Cond.constantLong RX9 13 (100) ∈ lw_tbl := List.mem_of_getElem? (i := 703) (by decide +kernel)
theorem kcX11_68 : Cond.constantLong RX11 68 (255) ∈ lw_tbl := List.mem_of_getElem? (i := 813) (by decide +kernel)
theorem kcX11_83 : Cond.constantLong RX11 83 (48) ∈ lw_tbl := List.mem_of_getElem? (i := 841) (by decide +kernel)
theorem kcX11_85 : Cond.constantLong RX11 85 (57) ∈ lw_tbl := List.mem_of_getElem? (i := 842) (by decide +kernel)
theorem kcX11_117 : Cond.constantLong RX11 117 (2) ∈ lw_tbl := List.mem_of_getElem? (i := 866) (by decide +kernel)
theorem kcX11_159 : Cond.constantLong RX11 159 (3) ∈ lw_tbl := List.mem_of_getElem? (i := 933) (by decide +kernel)
theorem kcX11_179 : Cond.constantLong RX11 179 (9) ∈ lw_tbl := List.mem_of_getElem? (i := 977) (by decide +kernel)
theorem kcX11_181 : Cond.constantLong RX11 181 (10) ∈ lw_tbl := List.mem_of_getElem? (i := 986) (by decide +kernel)
theorem kcX11_186 : Cond.constantLong RX11 186 (60) ∈ lw_tbl := List.mem_of_getElem? (i := 1007) (by decide +kernel)
theorem kcX11_197 : Cond.constantLong RX11 197 (99) ∈ lw_tbl := List.mem_of_getElem? (i := 1028) (by decide +kernel)
theorem kcX11_203 : Cond.constantLong RX11 203 (5) ∈ lw_tbl := List.mem_of_getElem? (i := 1044) (by decide +kernel)
theorem kcX11_205 : Cond.constant RX11 205 (-1000000) ∈ lw_tbl := List.mem_of_getElem? (i := 1045) (by decide +kernel)
theorem kcX11_210 : Cond.constantLong RX11 210 (100) ∈ lw_tbl := List.mem_of_getElem? (i := 1046) (by decide +kernel)
theorem kcX11_215 : Cond.constantLong RX11 215 (1010) ∈ lw_tbl := List.mem_of_getElem? (i := 1048) (by decide +kernel)
theorem kcX11_217 : Cond.constantLong RX11 217 (10100) ∈ lw_tbl := List.mem_of_getElem? (i := 1049) (by decide +kernel)
theorem kcX11_219 : Cond.constantLong RX11 219 (100000) ∈ lw_tbl := List.mem_of_getElem? (i := 1050) (by decide +kernel)
theorem kcJ_265 : Cond.constant "java/lang/Integer" 265 (1431655765) ∈ lw_tbl := List.mem_of_getElem? (i := 583) (by decide +kernel)
theorem kcJ_266 : Cond.constant "java/lang/Integer" 266 (858993459) ∈ lw_tbl := List.mem_of_getElem? (i := 584) (by decide +kernel)
theorem kcJ_267 : Cond.constant "java/lang/Integer" 267 (252645135) ∈ lw_tbl := List.mem_of_getElem? (i := 585) (by decide +kernel)
