set_option maxRecDepth 100000 in
theorem L_saw {x : aX} {nm : String} {post : aPost} {b L n xa : Nat} {xs : Nat → Int32} {h : AH} (X : aOk x 20 cL_law RL nm (some .boolean) 51 15694 post) (hs : x.2.2.2.2.2 = some (b, L, xs)) (k : Nat) (hk : 4 * k + 4 ≤ L) (hL : L ≤ 2048) (hI0 : lwI x.1 xa h) (kk : ∀ h' : AH, lwI x.1 xa h' → AW x 51 15694 n h' 929 (lwV b xa ((4 * k : Nat) : Int)) []) : AW x 51 15694 n h 678 (lwV b xa ((4 * k : Nat) : Int)) [] := by
  obtain ⟨fs, fn, fp, fi, fk, ft, fe, un, sz, sm, tr, hI, hW, hM⟩ := hI0
  obtain ⟨hok, ⟨hn, -⟩, he, hun, ⟨z, hz, hz2, ht⟩, hsm, -⟩ := id hI
  obtain ⟨xo, hxo⟩ := xW_t hW
  refine A_al1 X dL_law_678 ?_
  refine A_al0 X dL_law_679 ?_
  refine A_il3 X dL_law_680 ?_
  refine A_iconst X dL_law_681 ?_
  refine A_iadd X dL_law_682 ?_
  refine A_sld X hs (4 * k + 1) (by omega) (by omega) dL_law_683 ?_
  refine A_al0 X dL_law_684 ?_
  refine A_il3 X dL_law_685 ?_
  refine A_iconst X dL_law_686 ?_
  refine A_iadd X dL_law_687 ?_
  refine A_sld X hs (4 * k + 2) (by omega) (by omega) dL_law_688 ?_
  refine A_al0 X dL_law_689 ?_
  refine A_il3 X dL_law_690 ?_
  refine A_iconst X dL_law_691 ?_
  refine A_iadd X dL_law_692 ?_
  refine A_sld X hs (4 * k + 3) (by omega) (by omega) dL_law_693 ?_
  refine A_eVi3 X (x_saw (xin _) (xin _) (xin _) hI hW) hxo knX10_saw mlL_96 dL_law_694 (fun h1 p1 => ?_)
  have hM1 := mW_fr hM (fun q _ _ => p1.1 q (by omega))
  obtain ⟨mo, hmo⟩ := mW_t hM1
  refine A_al2 X dL_law_697 ?_
  refine A_al0 X dL_law_698 ?_
  refine A_il3 X dL_law_699 ?_
  refine A_iconst X dL_law_700 ?_
  refine A_iadd X dL_law_701 ?_
  refine A_sld X hs (4 * k + 1) (by omega) (by omega) dL_law_702 ?_
  refine A_al0 X dL_law_703 ?_
  refine A_il3 X dL_law_704 ?_
  refine A_iconst X dL_law_705 ?_
  refine A_iadd X dL_law_706 ?_
  refine A_sld X hs (4 * k + 2) (by omega) (by omega) dL_law_707 ?_
  refine A_al0 X dL_law_708 ?_
  refine A_il3 X dL_law_709 ?_
  refine A_iconst X dL_law_710 ?_
  refine A_iadd X dL_law_711 ?_
  refine A_sld X hs (4 * k + 3) (by omega) (by omega) dL_law_712 ?_
  refine A_eVi3 X (M_saw (xin _) (xin _) (xin _) hok.2.2.2.1 hsm hM1) hmo knX11_saw mlL_100 dL_law_713 (fun h2 p2 => ?_)
  refine A_icmpE (t := 929) X dL_law_716 ?_
  exact kk h2 ⟨_, _, _, _, _, _, _, _, _, _, _, I_saw hI, xW_fr p1.2 (fun q _ _ => p2.1 q (by omega)), p2.2⟩
set_option maxRecDepth 100000 in
theorem L_forget {x : aX} {nm : String} {post : aPost} {b L n xa : Nat} {xs : Nat → Int32} {h : AH} (X : aOk x 20 cL_law RL nm (some .boolean) 51 15694 post) (hs : x.2.2.2.2.2 = some (b, L, xs)) (k : Nat) (hk : 4 * k + 4 ≤ L) (hL : L ≤ 2048) (hI0 : lwI x.1 xa h) (kk : ∀ h' : AH, lwI x.1 xa h' → AW x 51 15694 n h' 929 (lwV b xa ((4 * k : Nat) : Int)) []) : AW x 51 15694 n h 721 (lwV b xa ((4 * k : Nat) : Int)) [] := by
  obtain ⟨fs, fn, fp, fi, fk, ft, fe, un, sz, sm, tr, hI, hW, hM⟩ := hI0
  obtain ⟨hok, ⟨hn, -⟩, he, hun, ⟨z, hz, hz2, ht⟩, hsm, -⟩ := id hI
  obtain ⟨xo, hxo⟩ := xW_t hW
  refine A_al1 X dL_law_721 ?_
  refine A_eVi0 X (x_forget hI hW) hxo knX10_forget mlL_101 dL_law_722 (fun h1 p1 => ?_)
  have hM1 := mW_fr hM (fun q _ _ => p1.1 q (by omega))
  obtain ⟨mo, hmo⟩ := mW_t hM1
  refine A_al2 X dL_law_725 ?_
  refine A_eVi0 X (M_forget hM1) hmo knX11_forget mlL_104 dL_law_726 (fun h2 p2 => ?_)
  refine A_icmpE (t := 929) X dL_law_729 ?_
  exact kk h2 ⟨_, _, _, _, _, _, _, _, _, _, _, I_forget hI, xW_fr p1.2 (fun q _ _ => p2.1 q (by omega)), p2.2⟩
set_option maxRecDepth 100000 in
theorem L_wrong {x : aX} {nm : String} {post : aPost} {b L n xa : Nat} {xs : Nat → Int32} {h : AH} (X : aOk x 20 cL_law RL nm (some .boolean) 51 15694 post) (hs : x.2.2.2.2.2 = some (b, L, xs)) (k : Nat) (hk : 4 * k + 4 ≤ L) (hL : L ≤ 2048) (hI0 : lwI x.1 xa h) (kk : ∀ h' : AH, lwI x.1 xa h' → AW x 51 15694 n h' 929 (lwV b xa ((4 * k : Nat) : Int)) []) : AW x 51 15694 n h 734 (lwV b xa ((4 * k : Nat) : Int)) [] := by
  obtain ⟨fs, fn, fp, fi, fk, ft, fe, un, sz, sm, tr, hI, hW, hM⟩ := hI0
  obtain ⟨hok, ⟨hn, -⟩, he, hun, ⟨z, hz, hz2, ht⟩, hsm, -⟩ := id hI
  obtain ⟨xo, hxo⟩ := xW_t hW
  refine A_al1 X dL_law_734 ?_
  refine A_al0 X dL_law_735 ?_
  refine A_il3 X dL_law_736 ?_
  refine A_iconst X dL_law_737 ?_
  refine A_iadd X dL_law_738 ?_
  refine A_sld X hs (4 * k + 1) (by omega) (by omega) dL_law_739 ?_
  refine A_dVi1 X (x_wrong (xin _) hI hW) hxo knX10_wrong mlL_105 dL_law_740 ?_
  obtain ⟨mo, hmo⟩ := mW_t hM
  obtain ⟨ak, bg, mt, fr, f9, f10, f11, f12, f13, t0, t1, t2, t3, t4, t5, t6, t7, t8, -⟩ := id hM
  refine A_al2 X dL_law_743 ?_
  refine A_al0 X dL_law_744 ?_
  refine A_il3 X dL_law_745 ?_
  refine A_iconst X dL_law_746 ?_
  refine A_iadd X dL_law_747 ?_
  refine A_sld X hs (4 * k + 1) (by omega) (by omega) dL_law_748 ?_
  refine A_dVi1 X (m_wrong (xin _) hsm hn hok.2.2.2.1 he t0 t1 t3 t8) hmo knX11_wrong mlL_108 dL_law_749 ?_
  refine A_icmpE (t := 929) X dL_law_752 ?_
  exact kk h ⟨_, _, _, _, _, _, _, _, _, _, _, hI, hW, hM⟩
set_option maxRecDepth 100000 in
theorem L_asTold {x : aX} {nm : String} {post : aPost} {b L n xa : Nat} {xs : Nat → Int32} {h : AH} (X : aOk x 20 cL_law RL nm (some .boolean) 51 15694 post) (hs : x.2.2.2.2.2 = some (b, L, xs)) (k : Nat) (hk : 4 * k + 4 ≤ L) (hL : L ≤ 2048) (hI0 : lwI x.1 xa h) (kk : ∀ h' : AH, lwI x.1 xa h' → AW x 51 15694 n h' 929 (lwV b xa ((4 * k : Nat) : Int)) []) : AW x 51 15694 n h 757 (lwV b xa ((4 * k : Nat) : Int)) [] := by
  obtain ⟨fs, fn, fp, fi, fk, ft, fe, un, sz, sm, tr, hI, hW, hM⟩ := hI0
  obtain ⟨hok, ⟨hn, -⟩, he, hun, ⟨z, hz, hz2, ht⟩, hsm, -⟩ := id hI
  obtain ⟨xo, hxo⟩ := xW_t hW
  refine A_al1 X dL_law_757 ?_
  refine A_dVi0 X (x_asTold hI hW) hxo knX10_asTold mlL_109 dL_law_758 ?_
  obtain ⟨mo, hmo⟩ := mW_t hM
  obtain ⟨ak, bg, mt, fr, f9, f10, f11, f12, f13, t0, t1, t2, t3, t4, t5, t6, t7, t8, -⟩ := id hM
  refine A_al2 X dL_law_761 ?_
  refine A_dVi0 X (m_asTold (fn 6).toNat sm.toNat (by have := hn.2.1; omega) (by omega) (by omega) hn hok.2.2.2.1 he t0 t1 t3 t8) hmo knX11_asTold mlL_112 dL_law_762 ?_
  refine A_icmpE (t := 929) X dL_law_765 ?_
  exact kk h ⟨_, _, _, _, _, _, _, _, _, _, _, hI, hW, hM⟩
set_option maxRecDepth 100000 in
theorem L_soonest {x : aX} {nm : String} {post : aPost} {b L n xa : Nat} {xs : Nat → Int32} {h : AH} (X : aOk x 20 cL_law RL nm (some .boolean) 51 15694 post) (hs : x.2.2.2.2.2 = some (b, L, xs)) (k : Nat) (hk : 4 * k + 4 ≤ L) (hL : L ≤ 2048) (hI0 : lwI x.1 xa h) (kk : ∀ h' : AH, lwI x.1 xa h' → AW x 51 15694 n h' 929 (lwV b xa ((4 * k : Nat) : Int)) []) : AW x 51 15694 n h 770 (lwV b xa ((4 * k : Nat) : Int)) [] := by
  obtain ⟨fs, fn, fp, fi, fk, ft, fe, un, sz, sm, tr, hI, hW, hM⟩ := hI0
  obtain ⟨hok, ⟨hn, -⟩, he, hun, ⟨z, hz, hz2, ht⟩, hsm, -⟩ := id hI
  obtain ⟨xo, hxo⟩ := xW_t hW
  refine A_al1 X dL_law_770 ?_
  refine A_al0 X dL_law_771 ?_
  refine A_il3 X dL_law_772 ?_
  refine A_iconst X dL_law_773 ?_
  refine A_iadd X dL_law_774 ?_
  refine A_sld X hs (4 * k + 1) (by omega) (by omega) dL_law_775 ?_
  refine A_al0 X dL_law_776 ?_
  refine A_il3 X dL_law_777 ?_
  refine A_iconst X dL_law_778 ?_
  refine A_iadd X dL_law_779 ?_
  refine A_sld X hs (4 * k + 2) (by omega) (by omega) dL_law_780 ?_
  refine A_al0 X dL_law_781 ?_
  refine A_il3 X dL_law_782 ?_
  refine A_iconst X dL_law_783 ?_
  refine A_iadd X dL_law_784 ?_
  refine A_sld X hs (4 * k + 3) (by omega) (by omega) dL_law_785 ?_
  refine A_dVi3 X (x_soon (xin _) (xin _) (xin _) hI hW) hxo knX10_soonest mlL_113 dL_law_786 ?_
  have hM1 := hM
  obtain ⟨mo, hmo⟩ := mW_t hM
  refine A_al2 X dL_law_789 ?_
  refine A_al0 X dL_law_790 ?_
  refine A_il3 X dL_law_791 ?_
  refine A_iconst X dL_law_792 ?_
  refine A_iadd X dL_law_793 ?_
  refine A_sld X hs (4 * k + 1) (by omega) (by omega) dL_law_794 ?_
  refine A_al0 X dL_law_795 ?_
  refine A_il3 X dL_law_796 ?_
  refine A_iconst X dL_law_797 ?_
  refine A_iadd X dL_law_798 ?_
  refine A_sld X hs (4 * k + 2) (by omega) (by omega) dL_law_799 ?_
  refine A_al0 X dL_law_800 ?_
  refine A_il3 X dL_law_801 ?_
  refine A_iconst X dL_law_802 ?_
  refine A_iadd X dL_law_803 ?_
  refine A_sld X hs (4 * k + 3) (by omega) (by omega) dL_law_804 ?_
  refine A_eVi3 X (M_soonest (xin _) (xin _) (xin _) hok.2.2.1 hM1) hmo knX11_soonest mlL_116 dL_law_805 (fun h2 p2 => ?_)
  refine A_icmpE (t := 929) X dL_law_808 ?_
  exact kk h2 ⟨_, _, _, _, _, _, _, _, _, _, _, hI, xW_fr hW (fun q _ _ => p2.1 q (by omega)), p2.2⟩
set_option maxRecDepth 100000 in
theorem L_rate {x : aX} {nm : String} {post : aPost} {b L n xa : Nat} {xs : Nat → Int32} {h : AH} (X : aOk x 20 cL_law RL nm (some .boolean) 51 15694 post) (hs : x.2.2.2.2.2 = some (b, L, xs)) (k : Nat) (hk : 4 * k + 4 ≤ L) (hL : L ≤ 2048) (hI0 : lwI x.1 xa h) (kk : ∀ h' : AH, lwI x.1 xa h' → AW x 51 15694 n h' 929 (lwV b xa ((4 * k : Nat) : Int)) []) : AW x 51 15694 n h 813 (lwV b xa ((4 * k : Nat) : Int)) [] := by
  obtain ⟨fs, fn, fp, fi, fk, ft, fe, un, sz, sm, tr, hI, hW, hM⟩ := hI0
  obtain ⟨hok, ⟨hn, -⟩, he, hun, ⟨z, hz, hz2, ht⟩, hsm, -⟩ := id hI
  obtain ⟨xo, hxo⟩ := xW_t hW
  refine A_al1 X dL_law_813 ?_
  refine A_al0 X dL_law_814 ?_
  refine A_il3 X dL_law_815 ?_
  refine A_iconst X dL_law_816 ?_
  refine A_iadd X dL_law_817 ?_
  refine A_sld X hs (4 * k + 1) (by omega) (by omega) dL_law_818 ?_
  refine A_al0 X dL_law_819 ?_
  refine A_il3 X dL_law_820 ?_
  refine A_iconst X dL_law_821 ?_
  refine A_iadd X dL_law_822 ?_
  refine A_sld X hs (4 * k + 2) (by omega) (by omega) dL_law_823 ?_
  refine A_eVi2 X (x_rate (xin _) (xin _) hI hW) hxo knX10_rate mlL_117 dL_law_824 (fun h1 p1 => ?_)
  have hM1 := mW_fr hM (fun q _ _ => p1.1 q (by omega))
  obtain ⟨mo, hmo⟩ := mW_t hM1
  refine A_al2 X dL_law_827 ?_
  refine A_al0 X dL_law_828 ?_
  refine A_il3 X dL_law_829 ?_
  refine A_iconst X dL_law_830 ?_
  refine A_iadd X dL_law_831 ?_
  refine A_sld X hs (4 * k + 1) (by omega) (by omega) dL_law_832 ?_
  refine A_al0 X dL_law_833 ?_
  refine A_il3 X dL_law_834 ?_
  refine A_iconst X dL_law_835 ?_
  refine A_iadd X dL_law_836 ?_
  refine A_sld X hs (4 * k + 2) (by omega) (by omega) dL_law_837 ?_
  refine A_eVi2 X (M_rate (xin _) (xin _) hok hn hM1) hmo knX11_rate mlL_120 dL_law_838 (fun h2 p2 => ?_)
  refine A_icmpE (t := 929) X dL_law_841 ?_
  exact kk h2 ⟨_, _, _, _, _, _, _, _, _, _, _, hI, xW_fr p1.2 (fun q _ _ => p2.1 q (by omega)), p2.2⟩
set_option maxRecDepth 100000 in
theorem L_keep {x : aX} {nm : String} {post : aPost} {b L n xa : Nat} {xs : Nat → Int32} {h : AH} (X : aOk x 20 cL_law RL nm (some .boolean) 51 15694 post) (hs : x.2.2.2.2.2 = some (b, L, xs)) (k : Nat) (hk : 4 * k + 4 ≤ L) (hL : L ≤ 2048) (hI0 : lwI x.1 xa h) (kk : ∀ h' : AH, lwI x.1 xa h' → AW x 51 15694 n h' 929 (lwV b xa ((4 * k : Nat) : Int)) []) : AW x 51 15694 n h 846 (lwV b xa ((4 * k : Nat) : Int)) [] := by
  obtain ⟨fs, fn, fp, fi, fk, ft, fe, un, sz, sm, tr, hI, hW, hM⟩ := hI0
  obtain ⟨hok, ⟨hn, -⟩, he, hun, ⟨z, hz, hz2, ht⟩, hsm, -⟩ := id hI
  obtain ⟨xo, hxo⟩ := xW_t hW
  refine A_al1 X dL_law_846 ?_
  refine A_al0 X dL_law_847 ?_
  refine A_il3 X dL_law_848 ?_
  refine A_iconst X dL_law_849 ?_
  refine A_iadd X dL_law_850 ?_
  refine A_sld X hs (4 * k + 1) (by omega) (by omega) dL_law_851 ?_
  refine A_eVi1 X (x_keep (xin _) hI hW) hxo knX10_keep mlL_121 dL_law_852 (fun h1 p1 => ?_)
  have hM1 := mW_fr hM (fun q _ _ => p1.1 q (by omega))
  obtain ⟨mo, hmo⟩ := mW_t hM1
  refine A_al2 X dL_law_855 ?_
  refine A_al0 X dL_law_856 ?_
  refine A_il3 X dL_law_857 ?_
  refine A_iconst X dL_law_858 ?_
  refine A_iadd X dL_law_859 ?_
  refine A_sld X hs (4 * k + 1) (by omega) (by omega) dL_law_860 ?_
  refine A_eVi1 X (M_keep (xin _) hM1) hmo knX11_keep mlL_124 dL_law_861 (fun h2 p2 => ?_)
  refine A_icmpE (t := 929) X dL_law_864 ?_
  exact kk h2 ⟨_, _, _, _, _, _, _, _, _, _, _, hI, xW_fr p1.2 (fun q _ _ => p2.1 q (by omega)), p2.2⟩
set_option maxRecDepth 100000 in
theorem L_back {x : aX} {nm : String} {post : aPost} {b L n xa : Nat} {xs : Nat → Int32} {h : AH} (X : aOk x 20 cL_law RL nm (some .boolean) 51 15694 post) (hs : x.2.2.2.2.2 = some (b, L, xs)) (k : Nat) (hk : 4 * k + 4 ≤ L) (hL : L ≤ 2048) (hI0 : lwI x.1 xa h) (kk : ∀ h' : AH, lwI x.1 xa h' → AW x 51 15694 n h' 929 (lwV b xa ((4 * k : Nat) : Int)) []) : AW x 51 15694 n h 869 (lwV b xa ((4 * k : Nat) : Int)) [] := by
  obtain ⟨fs, fn, fp, fi, fk, ft, fe, un, sz, sm, tr, hI, hW, hM⟩ := hI0
  obtain ⟨hok, ⟨hn, -⟩, he, hun, ⟨z, hz, hz2, ht⟩, hsm, -⟩ := id hI
  obtain ⟨xo, hxo⟩ := xW_t hW
  refine A_al1 X dL_law_869 ?_
  refine A_al0 X dL_law_870 ?_
  refine A_il3 X dL_law_871 ?_
  refine A_iconst X dL_law_872 ?_
  refine A_iadd X dL_law_873 ?_
  refine A_sld X hs (4 * k + 1) (by omega) (by omega) dL_law_874 ?_
  refine A_eVi1 X (x_back (xin _) hI hW) hxo knX10_back mlL_125 dL_law_875 (fun h1 p1 => ?_)
  have hM1 := mW_fr hM (fun q _ _ => p1.1 q (by omega))
  obtain ⟨mo, hmo⟩ := mW_t hM1
  refine A_al2 X dL_law_878 ?_
  refine A_al0 X dL_law_879 ?_
  refine A_il3 X dL_law_880 ?_
  refine A_iconst X dL_law_881 ?_
  refine A_iadd X dL_law_882 ?_
  refine A_sld X hs (4 * k + 1) (by omega) (by omega) dL_law_883 ?_
  refine A_eVi1 X (M_back (xin _) (xW_k hW) hM1) hmo knX11_back mlL_128 dL_law_884 (fun h2 p2 => ?_)
  refine A_icmpE (t := 929) X dL_law_887 ?_
  exact kk h2 ⟨_, _, _, _, _, _, _, _, _, _, _, I_back hI hW, xW_fr p1.2 (fun q _ _ => p2.1 q (by omega)), p2.2⟩
set_option maxRecDepth 100000 in
theorem L_count {x : aX} {nm : String} {post : aPost} {b L n xa : Nat} {xs : Nat → Int32} {h : AH} (X : aOk x 20 cL_law RL nm (some .boolean) 51 15694 post) (hs : x.2.2.2.2.2 = some (b, L, xs)) (k : Nat) (hk : 4 * k + 4 ≤ L) (hL : L ≤ 2048) (hI0 : lwI x.1 xa h) (kk : ∀ h' : AH, lwI x.1 xa h' → AW x 51 15694 n h' 929 (lwV b xa ((4 * k : Nat) : Int)) []) : AW x 51 15694 n h 892 (lwV b xa ((4 * k : Nat) : Int)) [] := by
  obtain ⟨fs, fn, fp, fi, fk, ft, fe, un, sz, sm, tr, hI, hW, hM⟩ := hI0
  obtain ⟨hok, ⟨hn, -⟩, he, hun, ⟨z, hz, hz2, ht⟩, hsm, -⟩ := id hI
  obtain ⟨xo, hxo⟩ := xW_t hW
  refine A_al1 X dL_law_892 ?_
  refine A_al0 X dL_law_893 ?_
  refine A_il3 X dL_law_894 ?_
  refine A_iconst X dL_law_895 ?_
  refine A_iadd X dL_law_896 ?_
  refine A_sld X hs (4 * k + 1) (by omega) (by omega) dL_law_897 ?_
  refine A_dVi1 X (x_count (xin _) hI hW) hxo knX10_count mlL_129 dL_law_898 ?_
  obtain ⟨mo, hmo⟩ := mW_t hM
  obtain ⟨ak, bg, mt, fr, f9, f10, f11, f12, f13, t0, t1, t2, t3, t4, t5, t6, t7, t8, -⟩ := id hM
  refine A_al2 X dL_law_901 ?_
  refine A_al0 X dL_law_902 ?_
  refine A_il3 X dL_law_903 ?_
  refine A_iconst X dL_law_904 ?_
  refine A_iadd X dL_law_905 ?_
  refine A_sld X hs (4 * k + 1) (by omega) (by omega) dL_law_906 ?_
  refine A_dVi1 X (m_count (xin _) t0 t1) hmo knX11_count mlL_132 dL_law_907 ?_
  refine A_icmpE (t := 929) X dL_law_910 ?_
  exact kk h ⟨_, _, _, _, _, _, _, _, _, _, _, hI, hW, hM⟩
set_option maxRecDepth 100000 in
theorem L_trace {x : aX} {nm : String} {post : aPost} {b L n xa : Nat} {xs : Nat → Int32} {h : AH} (X : aOk x 20 cL_law RL nm (some .boolean) 51 15694 post) (hs : x.2.2.2.2.2 = some (b, L, xs)) (k : Nat) (hk : 4 * k + 4 ≤ L) (hL : L ≤ 2048) (hI0 : lwI x.1 xa h) (kk : ∀ h' : AH, lwI x.1 xa h' → AW x 51 15694 n h' 929 (lwV b xa ((4 * k : Nat) : Int)) []) : AW x 51 15694 n h 915 (lwV b xa ((4 * k : Nat) : Int)) [] := by
  obtain ⟨fs, fn, fp, fi, fk, ft, fe, un, sz, sm, tr, hI, hW, hM⟩ := hI0
  obtain ⟨hok, ⟨hn, -⟩, he, hun, ⟨z, hz, hz2, ht⟩, hsm, -⟩ := id hI
  obtain ⟨xo, hxo⟩ := xW_t hW
  refine A_al1 X dL_law_915 ?_
  refine A_dVl0 X (x_trace hI hW) hxo knX10_trace mlL_133 dL_law_916 ?_
  obtain ⟨mo, hmo⟩ := mW_t hM
  obtain ⟨ak, bg, mt, fr, f9, f10, f11, f12, f13, t0, t1, t2, t3, t4, t5, t6, t7, t8, -⟩ := id hM
  refine A_al2 X dL_law_919 ?_
  refine A_dVl0 X (m_trace t0) hmo knX11_trace mlL_137 dL_law_920 ?_
  refine A_lcmpE X dL_law_923 ?_
  refine A_if_eq (t := 929) X in0 dL_law_924 (fun _ => ?_) (fun q => absurd rfl q)
  exact kk h ⟨_, _, _, _, _, _, _, _, _, _, _, hI, hW, hM⟩
