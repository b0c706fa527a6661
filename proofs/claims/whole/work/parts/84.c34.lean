/-! the law: its loop and its start -/
theorem and31 (v : Int32) : ∃ w : Nat, w < 32 ∧ v &&& Int32.ofInt 31 = Int32.ofInt (w : Int) := by
  refine ⟨v.toBitVec.toNat % 32, Nat.mod_lt _ (by decide), ?_⟩
  rw [aI_nat]
  apply Int32.toBitVec.inj
  rw [Int32.toBitVec_and]
  apply BitVec.eq_of_toNat_eq
  rw [BitVec.toNat_and]
  have e1 : (Int32.ofInt 31).toBitVec.toNat = 31 := by decide
  rw [e1]
  show _ = (BitVec.ofNat 32 (v.toBitVec.toNat % 32)).toNat
  rw [BitVec.toNat_ofNat]
  have := Nat.and_two_pow_sub_one_eq_mod v.toBitVec.toNat 5
  simp only [Nat.reducePow, Nat.reduceSub] at this ⊢
  omega
set_option maxRecDepth 100000 in
theorem L_body {x : aX} {nm : String} {post : aPost} {b L n xa : Nat} {xs : Nat → Int32} {h : AH} (X : aOk x 20 cL_law RL nm (some .boolean) 51 15694 post) (hs : x.2.2.2.2.2 = some (b, L, xs)) (k : Nat) (hk : 4 * k + 4 ≤ L) (hL : L ≤ 2048) (hI0 : lwI x.1 xa h) (kk : ∀ h' : AH, lwI x.1 xa h' → AW x 51 15694 n h' 929 (lwV b xa ((4 * k : Nat) : Int)) []) : AW x 51 15694 n h 26 (lwV b xa ((4 * k : Nat) : Int)) [] := by
  refine A_al0 X dL_law_26 ?_
  refine A_il3 X dL_law_27 ?_
  refine A_sld X hs (4 * k) rfl (by omega) dL_law_28 ?_
  refine A_bipush X dL_law_29 ?_
  refine A_iandr X dL_law_31 ?_
  obtain ⟨w, hw, hw2⟩ := and31 (Int32.ofInt (xs (4 * k)).toInt)
  rw [hw2]
  rcases (show w = 0 ∨ w = 1 ∨ w = 2 ∨ w = 3 ∨ w = 4 ∨ w = 5 ∨ w = 6 ∨ w = 7 ∨ w = 8 ∨ w = 9 ∨ w = 10 ∨ w = 11 ∨ w = 12 ∨ w = 13 ∨ w = 14 ∨ w = 15 ∨ w = 16 ∨ w = 17 ∨ w = 18 ∨ w = 19 ∨ w = 20 ∨ w = 21 ∨ w = 22 ∨ w = 23 ∨ w = 24 ∨ w = 25 ∨ w = 26 ∨ w = 27 ∨ w = 28 ∨ w = 29 ∨ 30 ≤ w by omega) with rfl | rfl | rfl | rfl | rfl | rfl | rfl | rfl | rfl | rfl | rfl | rfl | rfl | rfl | rfl | rfl | rfl | rfl | rfl | rfl | rfl | rfl | rfl | rfl | rfl | rfl | rfl | rfl | rfl | rfl | cO
  · exact A_tabIn (t := 168) X ⟨by decide, by decide⟩ dL_law_32 0 (by decide) (by decide) rfl (L_type X hs k hk hL hI0 kk)
  · exact A_tabIn (t := 191) X ⟨by decide, by decide⟩ dL_law_32 1 (by decide) (by decide) rfl (L_clear X hs k hk hL hI0 kk)
  · exact A_tabIn (t := 204) X ⟨by decide, by decide⟩ dL_law_32 2 (by decide) (by decide) rfl (L_suit X hs k hk hL hI0 kk)
  · exact A_tabIn (t := 217) X ⟨by decide, by decide⟩ dL_law_32 3 (by decide) (by decide) rfl (L_good X hs k hk hL hI0 kk)
  · exact A_tabIn (t := 250) X ⟨by decide, by decide⟩ dL_law_32 4 (by decide) (by decide) rfl (L_values X hs k hk hL hI0 kk)
  · exact A_tabIn (t := 283) X ⟨by decide, by decide⟩ dL_law_32 5 (by decide) (by decide) rfl (L_now X hs k hk hL hI0 kk)
  · exact A_tabIn (t := 306) X ⟨by decide, by decide⟩ dL_law_32 6 (by decide) (by decide) rfl (L_gives X hs k hk hL hI0 kk)
  · exact A_tabIn (t := 339) X ⟨by decide, by decide⟩ dL_law_32 7 (by decide) (by decide) rfl (L_steps X hs k hk hL hI0 kk)
  · exact A_tabIn (t := 362) X ⟨by decide, by decide⟩ dL_law_32 8 (by decide) (by decide) rfl (L_undo X hs k hk hL hI0 kk)
  · exact A_tabIn (t := 375) X ⟨by decide, by decide⟩ dL_law_32 9 (by decide) (by decide) rfl (L_envy X hs k hk hL hI0 kk)
  · exact A_tabIn (t := 398) X ⟨by decide, by decide⟩ dL_law_32 10 (by decide) (by decide) rfl (L_fair X hs k hk hL hI0 kk)
  · exact A_tabIn (t := 421) X ⟨by decide, by decide⟩ dL_law_32 11 (by decide) (by decide) rfl (L_cut X hs k hk hL hI0 kk)
  · exact A_tabIn (t := 454) X ⟨by decide, by decide⟩ dL_law_32 12 (by decide) (by decide) rfl (L_byTurns X hs k hk hL hI0 kk)
  · exact A_tabIn (t := 487) X ⟨by decide, by decide⟩ dL_law_32 13 (by decide) (by decide) rfl (L_lies X hs k hk hL hI0 kk)
  · exact A_tabIn (t := 520) X ⟨by decide, by decide⟩ dL_law_32 14 (by decide) (by decide) rfl (L_sell X hs k hk hL hI0 kk)
  · exact A_tabIn (t := 543) X ⟨by decide, by decide⟩ dL_law_32 15 (by decide) (by decide) rfl (L_adds X hs k hk hL hI0 kk)
  · exact A_tabIn (t := 566) X ⟨by decide, by decide⟩ dL_law_32 16 (by decide) (by decide) rfl (L_odds X hs k hk hL hI0 kk)
  · exact A_tabIn (t := 599) X ⟨by decide, by decide⟩ dL_law_32 17 (by decide) (by decide) rfl (L_foot X hs k hk hL hI0 kk)
  · exact A_tabIn (t := 622) X ⟨by decide, by decide⟩ dL_law_32 18 (by decide) (by decide) rfl (L_worn X hs k hk hL hI0 kk)
  · exact A_tabIn (t := 655) X ⟨by decide, by decide⟩ dL_law_32 19 (by decide) (by decide) rfl (L_judge X hs k hk hL hI0 kk)
  · exact A_tabIn (t := 678) X ⟨by decide, by decide⟩ dL_law_32 20 (by decide) (by decide) rfl (L_saw X hs k hk hL hI0 kk)
  · exact A_tabIn (t := 721) X ⟨by decide, by decide⟩ dL_law_32 21 (by decide) (by decide) rfl (L_forget X hs k hk hL hI0 kk)
  · exact A_tabIn (t := 734) X ⟨by decide, by decide⟩ dL_law_32 22 (by decide) (by decide) rfl (L_wrong X hs k hk hL hI0 kk)
  · exact A_tabIn (t := 757) X ⟨by decide, by decide⟩ dL_law_32 23 (by decide) (by decide) rfl (L_asTold X hs k hk hL hI0 kk)
  · exact A_tabIn (t := 770) X ⟨by decide, by decide⟩ dL_law_32 24 (by decide) (by decide) rfl (L_soonest X hs k hk hL hI0 kk)
  · exact A_tabIn (t := 813) X ⟨by decide, by decide⟩ dL_law_32 25 (by decide) (by decide) rfl (L_rate X hs k hk hL hI0 kk)
  · exact A_tabIn (t := 846) X ⟨by decide, by decide⟩ dL_law_32 26 (by decide) (by decide) rfl (L_keep X hs k hk hL hI0 kk)
  · exact A_tabIn (t := 869) X ⟨by decide, by decide⟩ dL_law_32 27 (by decide) (by decide) rfl (L_back X hs k hk hL hI0 kk)
  · exact A_tabIn (t := 892) X ⟨by decide, by decide⟩ dL_law_32 28 (by decide) (by decide) rfl (L_count X hs k hk hL hI0 kk)
  · exact A_tabIn (t := 915) X ⟨by decide, by decide⟩ dL_law_32 29 (by decide) (by decide) rfl (L_trace X hs k hk hL hI0 kk)
  · exact A_tabOut (t := 929) X (by omega) dL_law_32 (by omega) (kk h hI0)
set_option maxRecDepth 100000 in
theorem L_loop {x : aX} {nm : String} {post : aPost} {b L n xa : Nat} {xs : Nat → Int32} (X : aOk x 20 cL_law RL nm (some .boolean) 51 15694 post) (hs : x.2.2.2.2.2 = some (b, L, xs)) (hL : L ≤ 2048) (hpost : ∀ (n : Nat) (h : AH), post (some (aI 1)) n h) : ∀ (f k : Nat) (h : AH), k ≤ 600 → L ≤ 4 * (k + f) → lwI x.1 xa h → AW x 51 15694 n h 18 (lwV b xa ((4 * k : Nat) : Int)) [] := by
  intro f
  induction f with
  | zero =>
    intro k h hk6 hf hI
    refine A_il3 X dL_law_18 ?_
    refine A_al0 X dL_law_19 ?_
    refine A_slen X hs dL_law_20 ?_
    refine A_iconst X dL_law_21 ?_
    refine A_isub X dL_law_22 ?_
    refine A_icmp_gt (t := 935) X (by omega) (by omega) dL_law_23 (fun c => ?_) (fun c => by exfalso; omega)
    refine A_iconst X dL_law_935 ?_
    exact A_retz X dL_law_936 rfl (Or.inr rfl) (hpost _ _)
  | succ f ih =>
    intro k h hk6 hf hI
    refine A_il3 X dL_law_18 ?_
    refine A_al0 X dL_law_19 ?_
    refine A_slen X hs dL_law_20 ?_
    refine A_iconst X dL_law_21 ?_
    refine A_isub X dL_law_22 ?_
    refine A_icmp_gt (t := 935) X (by omega) (by omega) dL_law_23 (fun c => ?_) (fun c => ?_)
    · refine A_iconst X dL_law_935 ?_
      exact A_retz X dL_law_936 rfl (Or.inr rfl) (hpost _ _)
    · refine L_body X hs k (by omega) hL hI (fun h' hI' => ?_)
      refine A_ii3 X dL_law_929 ?_
      refine A_goto (t := 18) X dL_law_932 ?_
      rw [show ((4 * k : Nat) : Int) + 4 = ((4 * (k + 1) : Nat) : Int) by omega]
      exact ih (k + 1) h' (by omega) (by omega) hI'
set_option maxRecDepth 100000 in
theorem L_start {x : aX} {nm : String} {post : aPost} {b L n : Nat} {xs : Nat → Int32} (X : aOk x 20 cL_law RL nm (some .boolean) 51 15694 post) (hs : x.2.2.2.2.2 = some (b, L, xs)) (hL : L ≤ 2048) (hpost : ∀ (n : Nat) (h : AH), post (some (aI 1)) n h) : AW x 0 0 n (fun _ => none) 0 [some (.ref b), none, none, none] [] := by
  refine A_new (ci := 10) (fs := [.null, .null, .null, .null, .null, .null, .null, .null, .null, aI 0, .null, .null, .null, aI 0, aL 0]) X rfl ui10 tyX10_ok clwL_7 inw10 itw10 dfw10 dL_law_0 ?_
  refine A_gen (fun h0 e0 k0 q0 => ?_)
  refine A_dup X dL_law_3 ?_
  refine A_callI (As := []) (st := [.ref n]) X (i_shoes (d := 10) rfl e0) knX10_init rfl rfl mlL_9 dL_law_4 (fun v1 n1 h1 hp => ?_)
  obtain ⟨rfl, rfl, w1, f1⟩ := hp
  refine A_as1 X dL_law_7 ?_
  refine A_new (ci := 11) (fs := [.null, .null, .null, .null, aI 0, .null, .null, .null, aI 0, .null, aI 0, aL 0, aI 0, aI 0, aI 0, .null, .null, .null, .null, .null]) X rfl ui11 tyX11_ok clwL_10 inw11 itw11 dfw11 dL_law_8 ?_
  refine A_gen (fun h8 e8 k8 q8 => ?_)
  refine A_dup X dL_law_11 ?_
  refine A_callI (As := []) (st := [.ref (n + 37)]) X (i_model (d := 10) rfl e8) knX11_init rfl rfl mlL_12 dL_law_12 (fun v2 n2 h2 hp => ?_)
  obtain ⟨rfl, rfl, w2, f2⟩ := hp
  refine A_as2 X dL_law_15 ?_
  refine A_iconst X dL_law_16 ?_
  refine A_is3 X dL_law_17 ?_
  exact L_loop X hs hL hpost 600 0 h2 (by omega) (by omega) ⟨_, _, _, _, _, _, _, _, _, _, _, xI_0, xW_fr w1 (fun q g1 g2 => (f2 q (by omega)).trans (k8 q (by omega))), w2⟩
