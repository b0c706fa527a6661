/-! the class: items -/
def riP (G : aG) (ra su z : Nat) (hT2 cT2 : Int) (h : AH) (r : Nat ⊕ ((Int → Int) × Nat)) (h' : AH) : Prop := ((∀ f : Nat, r = .inl f → (∃ pl tk nu hT cT : Int, inR nu ∧ h' ra = some (aOb 5 (rO ra (z : Int) pl (f : Int) tk nu hT cT))) ∧ suX G h' su) ∧ (∀ (fr2 : Int → Int) (p2 : Nat), r = .inr (fr2, p2) → (∃ ts tk nu : Int, inR nu ∧ h' ra = some (aOb 5 (rO ra (z : Int) (p2 : Int) ts tk nu hT2 cT2))) ∧ suW G h' su fr2)) ∧ ∀ q, q ≠ ra → (q < su ∨ su + 5 ≤ q) → h' q = h q
theorem riP_l {G : aG} {ra su z : Nat} {hT2 cT2 : Int} {h h' : AH} {r : Nat ⊕ ((Int → Int) × Nat)} (f : Nat) {pl tk nu hT cT : Int} (e : r = .inl f) (hn : inR nu) (h1 : h' ra = some (aOb 5 (rO ra (z : Int) pl (f : Int) tk nu hT cT))) (h2 : suX G h' su) (hq : ∀ q, q ≠ ra → (q < su ∨ su + 5 ≤ q) → h' q = h q) : riP G ra su z hT2 cT2 h r h' := by
  subst e
  exact ⟨⟨fun g q => by cases q; exact ⟨⟨_, _, _, _, _, hn, h1⟩, h2⟩, fun _ _ q => by cases q⟩, hq⟩
theorem riP_r {G : aG} {ra su z : Nat} {hT2 cT2 : Int} {h h' : AH} {r : Nat ⊕ ((Int → Int) × Nat)} (fr2 : Int → Int) (p2 : Nat) {ts tk nu : Int} (e : r = .inr (fr2, p2)) (hn : inR nu) (h1 : h' ra = some (aOb 5 (rO ra (z : Int) (p2 : Int) ts tk nu hT2 cT2))) (h2 : suW G h' su fr2) (hq : ∀ q, q ≠ ra → (q < su ∨ su + 5 ≤ q) → h' q = h q) : riP G ra su z hT2 cT2 h r h' := by
  subst e
  exact ⟨⟨fun g q => (by cases q), fun _ _ q => by cases q; exact ⟨⟨_, _, _, hn, h1⟩, h2⟩⟩, hq⟩
theorem suW_o {G : aG} {h : AH} {su : Nat} {fs : Int → Int} (hC : suW G h su fs) : h su = some (aOb 6 (sO su (fs 0) (fs 1) (fs 2) (fs 3))) := by
  obtain ⟨fw, fq, fm, fv, hA, -⟩ := hC
  exact hA.1
theorem tkN_b {ft : Int → Int} {z p : Nat} {nu : Int} (hp : p ≤ z) (hn : inR nu) : inR (tkN ft z p nu) := by
  have hc := tkC_b (ft := ft) hp
  unfold tkN; split
  · omega
  · exact hn
set_option maxRecDepth 100000 in
theorem r_good {G : aG} {d n : Nat} {h : AH} {ra su : Nat} {tk nu hT cT : Int} {ft fr : Int → Int} {z s : Nat} (hap : ra + 2 ≤ su) (hok : sOK fr) (hz : z ≤ 200) (hs : s < z) (ht : tOK ft z) (hnu : inR nu) (h_this : h ra = some (aOb 5 (rO ra (z : Int) ((s + 1 : Nat) : Int) (s : Int) tk nu hT cT))) (h_this_letters : h (ra + 1) = some (aIa G 200 ft)) (hW : suW G h su fr) : aE G (d + 4) kX5_readGood [.ref ra, .ref su] n h (some (aI (bI (isR (pGood ft z fr s) = true)))) (riP G ra su z hT cT h (pGood ft z fr s)) := by
  have hg := hok.1
  have h_into := suW_o hW
  refine aCt_of (lv := [some (.ref ra), some (.ref su), none]) knX5_readGood.1 rfl rfl (Nat.le_of_ble_eq_true rfl) (fun x hG hsc X => ?_)
  subst hG
  have t1 := tk_nm (ft := ft) (z := z) (p := s + 1) (lo := 0) (hi := 20) (nu := nu) ht (by omega) (by omega)
  have b1 := tkP_b (ft := ft) (z := z) (p := s + 1) (by omega)
  have n1 := tkN_b (ft := ft) (z := z) (p := s + 1) (by omega) hnu
  generalize hN1 : tkN ft z (s + 1) nu = v1 at *
  generalize hP1 : tkP ft z (s + 1) = p2 at *
  have t2 := tk_nm (ft := ft) (z := z) (p := p2) (lo := 0) (hi := 20) (nu := v1) ht (by omega) (by omega)
  have b2 := tkP_b (ft := ft) (z := z) (p := p2) (by omega)
  have n2 := tkN_b (ft := ft) (z := z) (p := p2) (by omega) n1
  generalize hN2 : tkN ft z p2 v1 = v2 at *
  generalize hP2 : tkP ft z p2 = p3 at *
  have t3 := tk_en (ft := ft) (z := z) (p := p3) ht (by omega)
  have n3 := tkN_b (ft := ft) (z := z) (p := p3) (by omega) n2
  refine A_al1 X dX5_readGood_0 ?_
  refine A_getf X flX5_56 h_into rfl dX5_readGood_1 ?_
  refine A_bipush X dX5_readGood_4 ?_
  refine A_icmp_ge (t := 19) X (by omega) (by omega) dX5_readGood_6 (fun c6 => ?_) (fun c6 => ?_)
  · refine A_iconst X dX5_readGood_19 ?_
    have e : pGood ft z fr s = .inl s := by rw [pGood, if_pos (by omega)]
    rw [e] at X
    exact A_retz X dX5_readGood_20 rfl (Or.inl rfl) ⟨bI_0 Bool.false_ne_true, rfl, riP_l s rfl hnu h_this (suW_x hW) (fun _ _ _ => rfl)⟩
  · have e0 : pGood ft z fr s = _ := if_neg (by omega)
    refine A_al0 X dX5_readGood_9 ?_
    refine A_iconst X dX5_readGood_10 ?_
    refine A_bipush X dX5_readGood_11 ?_
    refine A_eVi2 X (r_number (p := s + 1) hz (by omega) ht (by omega) (by omega) hnu h_this h_this_letters) h_this knX5_nextNumber mlX5_59 dX5_readGood_13 (fun h13 p13 => ?_)
    obtain ⟨h_this, hq1⟩ := p13
    have h_this_letters := (hq1 _ (by omega)).trans h_this_letters
    have hW := suW_fr hW (fun q q1 q2 => hq1 q (by omega))
    rw [hN1, hP1] at h_this
    rw [hN1]
    refine A_ifb_ne (t := 21) X dX5_readGood_16 (fun c16 => ?_) (fun c16 => ?_)
    · rw [t1.1 c16] at e0
      dsimp only at e0
      refine A_al0 X dX5_readGood_21 ?_
      refine A_getf X flX5_63 h_this rfl dX5_readGood_22 ?_
      refine A_is2 X dX5_readGood_25 ?_
      refine A_al0 X dX5_readGood_26 ?_
      refine A_iconst X dX5_readGood_27 ?_
      refine A_bipush X dX5_readGood_28 ?_
      refine A_eVi2 X (r_number (p := p2) hz (by omega) ht (by omega) (by omega) n1 h_this h_this_letters) h_this knX5_nextNumber mlX5_59 dX5_readGood_30 (fun h30 p30 => ?_)
      obtain ⟨h_this, hq2⟩ := p30
      have h_this_letters := (hq2 _ (by omega)).trans h_this_letters
      have hW := suW_fr hW (fun q q1 q2 => hq2 q (by omega))
      rw [hN2, hP2] at h_this
      rw [hN2]
      refine A_ifb_ne (t := 38) X dX5_readGood_33 (fun c33 => ?_) (fun c33 => ?_)
      · rw [t2.1 c33] at e0
        dsimp only at e0
        have h_into := suW_o hW
        refine A_al1 X dX5_readGood_38 ?_
        refine A_il2 X dX5_readGood_39 ?_
        refine A_al0 X dX5_readGood_40 ?_
        refine A_getf X flX5_63 h_this rfl dX5_readGood_41 ?_
        refine A_eVv2 X (s_addGood (by omega) hok.2.1 n1 n2 hW) h_into knX6_addGood mlX5_66 dX5_readGood_44 (fun h44 p44 => ?_)
        obtain ⟨hW, hq3⟩ := p44
        have h_this := (hq3 _ (by omega)).trans h_this
        have h_this_letters := (hq3 _ (by omega)).trans h_this_letters
        refine A_al0 X dX5_readGood_47 ?_
        refine A_eVi0 X (r_ends (p := p3) hz (by omega) ht h_this h_this_letters) h_this knX5_nextEnds mlX5_70 dX5_readGood_48 (fun h48 p48 => ?_)
        obtain ⟨h_this, hq4⟩ := p48
        have hW := suW_fr hW (fun q q1 q2 => hq4 q (by omega))
        by_cases hc : tkV ft z p3 = 59
        · rw [t3.1 hc] at e0
          rw [e0] at X
          rw [bI_t hc]
          exact A_retz X dX5_readGood_51 rfl (Or.inr rfl) ⟨bI_1 rfl, rfl, riP_r _ _ rfl n3 h_this hW (fun q h1 h2 => by rw [hq4 q h1, hq3 q h2, hq2 q h1, hq1 q h1])⟩
        · rw [t3.2 hc] at e0
          rw [e0] at X
          rw [bI_f hc]
          exact A_retz X dX5_readGood_51 rfl (Or.inl rfl) ⟨bI_0 Bool.false_ne_true, rfl, riP_l _ rfl n3 h_this (suW_x hW) (fun q h1 h2 => by rw [hq4 q h1, hq3 q h2, hq2 q h1, hq1 q h1])⟩
      · refine A_iconst X dX5_readGood_36 ?_
        rw [t2.2 c33] at e0
        rw [e0] at X
        exact A_retz X dX5_readGood_37 rfl (Or.inl rfl) ⟨bI_0 Bool.false_ne_true, rfl, riP_l _ rfl n2 h_this (suW_x hW) (fun q h1 _ => by rw [hq2 q h1, hq1 q h1])⟩
    · refine A_iconst X dX5_readGood_19 ?_
      rw [t1.2 c16] at e0
      rw [e0] at X
      exact A_retz X dX5_readGood_20 rfl (Or.inl rfl) ⟨bI_0 Bool.false_ne_true, rfl, riP_l _ rfl n1 h_this (suW_x hW) (fun q h1 _ => hq1 q h1)⟩
set_option maxRecDepth 100000 in
theorem r_pair {G : aG} {d n : Nat} {h : AH} {ra su : Nat} {tk nu hT cT : Int} {ft fr : Int → Int} {z s : Nat} (hap : ra + 2 ≤ su) (hok : sOK fr) (hz : z ≤ 200) (hs : s < z) (ht : tOK ft z) (hnu : inR nu) (h_this : h ra = some (aOb 5 (rO ra (z : Int) ((s + 1 : Nat) : Int) (s : Int) tk nu hT cT))) (h_this_letters : h (ra + 1) = some (aIa G 200 ft)) (hW : suW G h su fr) : aE G (d + 4) kX5_readPair [.ref ra, .ref su] n h (some (aI (bI (isR (pPair ft z fr s) = true)))) (riP G ra su z hT cT h (pPair ft z fr s)) := by
  have hg := hok.1
  have hpr := hok.2.1
  have h_into := suW_o hW
  refine aCt_of (lv := [some (.ref ra), some (.ref su), none, none, none]) knX5_readPair.1 rfl rfl (Nat.le_of_ble_eq_true rfl) (fun x hG hsc X => ?_)
  subst hG
  have t1 := tk_nm (ft := ft) (z := z) (p := s + 1) (lo := 0) (hi := fr 0 - 1) (nu := nu) ht (by omega) (by omega)
  have b1 := tkP_b (ft := ft) (z := z) (p := s + 1) (by omega)
  have n1 := tkN_b (ft := ft) (z := z) (p := s + 1) (by omega) hnu
  generalize hN1 : tkN ft z (s + 1) nu = v1 at *
  generalize hP1 : tkP ft z (s + 1) = p2 at *
  have t2 := tk_nm (ft := ft) (z := z) (p := p2) (lo := 0) (hi := fr 0 - 1) (nu := v1) ht (by omega) (by omega)
  have b2 := tkP_b (ft := ft) (z := z) (p := p2) (by omega)
  have n2 := tkN_b (ft := ft) (z := z) (p := p2) (by omega) n1
  generalize hN2 : tkN ft z p2 v1 = v2 at *
  generalize hP2 : tkP ft z p2 = p3 at *
  have t3 := tk_nm (ft := ft) (z := z) (p := p3) (lo := 0) (hi := 20) (nu := v2) ht (by omega) (by omega)
  have b3 := tkP_b (ft := ft) (z := z) (p := p3) (by omega)
  have n3 := tkN_b (ft := ft) (z := z) (p := p3) (by omega) n2
  generalize hN3 : tkN ft z p3 v2 = v3 at *
  generalize hP3 : tkP ft z p3 = p4 at *
  have t4 := tk_nm (ft := ft) (z := z) (p := p4) (lo := 0) (hi := 20) (nu := v3) ht (by omega) (by omega)
  have b4 := tkP_b (ft := ft) (z := z) (p := p4) (by omega)
  have n4 := tkN_b (ft := ft) (z := z) (p := p4) (by omega) n3
  generalize hN4 : tkN ft z p4 v3 = v4 at *
  generalize hP4 : tkP ft z p4 = p5 at *
  have t5 := tk_en (ft := ft) (z := z) (p := p5) ht (by omega)
  have n5 := tkN_b (ft := ft) (z := z) (p := p5) (by omega) n4
  refine A_al1 X dX5_readPair_0 ?_
  refine A_getf X flX5_74 h_into rfl dX5_readPair_1 ?_
  refine A_iconst X dX5_readPair_4 ?_
  refine A_icmp_ge (t := 22) X (by omega) (by omega) dX5_readPair_5 (fun c5 => ?_) (fun c5 => ?_)
  · refine A_iconst X dX5_readPair_22 ?_
    have e : pPair ft z fr s = .inl s := by rw [pPair, if_pos (by omega)]
    rw [e] at X
    exact A_retz X dX5_readPair_23 rfl (Or.inl rfl) ⟨bI_0 Bool.false_ne_true, rfl, riP_l s rfl hnu h_this (suW_x hW) (fun _ _ _ => rfl)⟩
  · have e0 : pPair ft z fr s = _ := if_neg (by omega)
    refine A_al0 X dX5_readPair_8 ?_
    refine A_iconst X dX5_readPair_9 ?_
    refine A_al1 X dX5_readPair_10 ?_
    refine A_getf X flX5_56 h_into rfl dX5_readPair_11 ?_
    refine A_iconst X dX5_readPair_14 ?_
    refine A_isub X dX5_readPair_15 ?_
    refine A_eVi2 X (r_number (p := s + 1) hz (by omega) ht (by omega) (by omega) hnu h_this h_this_letters) h_this knX5_nextNumber mlX5_59 dX5_readPair_16 (fun h16 p16 => ?_)
    obtain ⟨h_this, hq1⟩ := p16
    have h_this_letters := (hq1 _ (by omega)).trans h_this_letters
    have hW := suW_fr hW (fun q q1 q2 => hq1 q (by omega))
    have h_into := suW_o hW
    rw [hN1, hP1] at h_this
    rw [hN1]
    refine A_ifb_ne (t := 24) X dX5_readPair_19 (fun c19 => ?_) (fun c19 => ?_)
    · rw [t1.1 c19] at e0
      dsimp only at e0
      refine A_al0 X dX5_readPair_24 ?_
      refine A_getf X flX5_63 h_this rfl dX5_readPair_25 ?_
      refine A_is2 X dX5_readPair_28 ?_
      refine A_al0 X dX5_readPair_29 ?_
      refine A_iconst X dX5_readPair_30 ?_
      refine A_al1 X dX5_readPair_31 ?_
      refine A_getf X flX5_56 h_into rfl dX5_readPair_32 ?_
      refine A_iconst X dX5_readPair_35 ?_
      refine A_isub X dX5_readPair_36 ?_
      refine A_eVi2 X (r_number (p := p2) hz (by omega) ht (by omega) (by omega) n1 h_this h_this_letters) h_this knX5_nextNumber mlX5_59 dX5_readPair_37 (fun h37 p37 => ?_)
      obtain ⟨h_this, hq2⟩ := p37
      have h_this_letters := (hq2 _ (by omega)).trans h_this_letters
      have hW := suW_fr hW (fun q q1 q2 => hq2 q (by omega))
      have h_into := suW_o hW
      rw [hN2, hP2] at h_this
      rw [hN2]
      refine A_ifb_eq (t := 51) X dX5_readPair_40 (fun c40 => ?_) (fun c40 => ?_)
      · refine A_iconst X dX5_readPair_51 ?_
        rw [t2.2 c40] at e0
        rw [e0] at X
        exact A_retz X dX5_readPair_52 rfl (Or.inl rfl) ⟨bI_0 Bool.false_ne_true, rfl, riP_l _ rfl n2 h_this (suW_x hW) (fun q h1 _ => by rw [hq2 q h1, hq1 q h1])⟩
      · rw [t2.1 c40] at e0
        dsimp only at e0
        refine A_al0 X dX5_readPair_43 ?_
        refine A_getf X flX5_63 h_this rfl dX5_readPair_44 ?_
        refine A_il2 X dX5_readPair_47 ?_
        refine A_icmp_ne (t := 53) X (by omega) (by omega) dX5_readPair_48 (fun c48 => ?_) (fun c48 => ?_)
        · rw [if_neg (by omega)] at e0
          refine A_al0 X dX5_readPair_53 ?_
          refine A_getf X flX5_63 h_this rfl dX5_readPair_54 ?_
          refine A_is3 X dX5_readPair_57 ?_
          refine A_al0 X dX5_readPair_58 ?_
          refine A_iconst X dX5_readPair_59 ?_
          refine A_bipush X dX5_readPair_60 ?_
          refine A_eVi2 X (r_number (p := p3) hz (by omega) ht (by omega) (by omega) n2 h_this h_this_letters) h_this knX5_nextNumber mlX5_59 dX5_readPair_62 (fun h62 p62 => ?_)
          obtain ⟨h_this, hq3⟩ := p62
          have h_this_letters := (hq3 _ (by omega)).trans h_this_letters
          have hW := suW_fr hW (fun q q1 q2 => hq3 q (by omega))
          have h_into := suW_o hW
          rw [hN3, hP3] at h_this
          rw [hN3]
          refine A_ifb_ne (t := 70) X dX5_readPair_65 (fun c65 => ?_) (fun c65 => ?_)
          · rw [t3.1 c65] at e0
            dsimp only at e0
            refine A_al0 X dX5_readPair_70 ?_
            refine A_getf X flX5_63 h_this rfl dX5_readPair_71 ?_
            refine A_is4 X dX5_readPair_74 ?_
            refine A_al0 X dX5_readPair_76 ?_
            refine A_iconst X dX5_readPair_77 ?_
            refine A_bipush X dX5_readPair_78 ?_
            refine A_eVi2 X (r_number (p := p4) hz (by omega) ht (by omega) (by omega) n3 h_this h_this_letters) h_this knX5_nextNumber mlX5_59 dX5_readPair_80 (fun h80 p80 => ?_)
            obtain ⟨h_this, hq4⟩ := p80
            have h_this_letters := (hq4 _ (by omega)).trans h_this_letters
            have hW := suW_fr hW (fun q q1 q2 => hq4 q (by omega))
            have h_into := suW_o hW
            rw [hN4, hP4] at h_this
            rw [hN4]
            refine A_ifb_ne (t := 88) X dX5_readPair_83 (fun c83 => ?_) (fun c83 => ?_)
            · rw [t4.1 c83] at e0
              dsimp only at e0
              have w1 := p2b (show v1.toNat ≤ 6 by omega)
              have w2 := p2b (show v2.toNat ≤ 6 by omega)
              refine A_al1 X dX5_readPair_88 ?_
              refine A_iconst X dX5_readPair_89 ?_
              refine A_il2 X dX5_readPair_90 ?_
              refine A_ishl X 1 v1.toNat rfl (by omega) (by omega) (by omega) dX5_readPair_91 ?_
              refine A_iconst X dX5_readPair_92 ?_
              refine A_il3 X dX5_readPair_93 ?_
              refine A_ishl X 1 v2.toNat rfl (by omega) (by omega) (by omega) dX5_readPair_94 ?_
              refine A_ior X (1 * 2 ^ v1.toNat) (1 * 2 ^ v2.toNat) rfl rfl dX5_readPair_95 ?_
              refine A_il4 X dX5_readPair_96 ?_
              refine A_al0 X dX5_readPair_98 ?_
              refine A_getf X flX5_63 h_this rfl dX5_readPair_99 ?_
              refine A_eVv3 X (s_addPair (v1 := v1) (v2 := v2) hg (by omega) (by omega) (by omega) n3 n4 (by rw [Nat.one_mul, Nat.one_mul]) hW) h_into knX6_addPair mlX5_77 dX5_readPair_102 (fun h102 p102 => ?_)
              obtain ⟨hW, hq5⟩ := p102
              have h_this := (hq5 _ (by omega)).trans h_this
              have h_this_letters := (hq5 _ (by omega)).trans h_this_letters
              refine A_al0 X dX5_readPair_105 ?_
              refine A_eVi0 X (r_ends (p := p5) hz (by omega) ht h_this h_this_letters) h_this knX5_nextEnds mlX5_70 dX5_readPair_106 (fun h106 p106 => ?_)
              obtain ⟨h_this, hq6⟩ := p106
              have hW := suW_fr hW (fun q q1 q2 => hq6 q (by omega))
              by_cases hc : tkV ft z p5 = 59
              · rw [t5.1 hc] at e0
                rw [e0] at X
                rw [bI_t hc]
                exact A_retz X dX5_readPair_109 rfl (Or.inr rfl) ⟨bI_1 rfl, rfl, riP_r _ _ rfl n5 h_this hW (fun q h1 h2 => by rw [hq6 q h1, hq5 q h2, hq4 q h1, hq3 q h1, hq2 q h1, hq1 q h1])⟩
              · rw [t5.2 hc] at e0
                rw [e0] at X
                rw [bI_f hc]
                exact A_retz X dX5_readPair_109 rfl (Or.inl rfl) ⟨bI_0 Bool.false_ne_true, rfl, riP_l _ rfl n5 h_this (suW_x hW) (fun q h1 h2 => by rw [hq6 q h1, hq5 q h2, hq4 q h1, hq3 q h1, hq2 q h1, hq1 q h1])⟩
            · refine A_iconst X dX5_readPair_86 ?_
              rw [t4.2 c83] at e0
              rw [e0] at X
              exact A_retz X dX5_readPair_87 rfl (Or.inl rfl) ⟨bI_0 Bool.false_ne_true, rfl, riP_l _ rfl n4 h_this (suW_x hW) (fun q h1 _ => by rw [hq4 q h1, hq3 q h1, hq2 q h1, hq1 q h1])⟩
          · refine A_iconst X dX5_readPair_68 ?_
            rw [t3.2 c65] at e0
            rw [e0] at X
            exact A_retz X dX5_readPair_69 rfl (Or.inl rfl) ⟨bI_0 Bool.false_ne_true, rfl, riP_l _ rfl n3 h_this (suW_x hW) (fun q h1 _ => by rw [hq3 q h1, hq2 q h1, hq1 q h1])⟩
        · refine A_iconst X dX5_readPair_51 ?_
          rw [if_pos (by omega)] at e0
          rw [e0] at X
          exact A_retz X dX5_readPair_52 rfl (Or.inl rfl) ⟨bI_0 Bool.false_ne_true, rfl, riP_l _ rfl n2 h_this (suW_x hW) (fun q h1 _ => by rw [hq2 q h1, hq1 q h1])⟩
    · refine A_iconst X dX5_readPair_22 ?_
      rw [t1.2 c19] at e0
      rw [e0] at X
      exact A_retz X dX5_readPair_23 rfl (Or.inl rfl) ⟨bI_0 Bool.false_ne_true, rfl, riP_l _ rfl n1 h_this (suW_x hW) (fun q h1 _ => hq1 q h1)⟩
theorem suW_23 {G : aG} {h h' : AH} {su : Nat} {fs : Int → Int} {z v : Int} (hz : z = 2 ∨ z = 3) (hC : suW G h su fs) (h1 : h' su = some (aOb 6 (sO su (fs 0) (fs 1) (if z = 2 then v else fs 2) (if z = 3 then v else fs 3)))) (hq : ∀ q, q ≠ su → h' q = h q) : suW G h' su (aiu fs z v) := by
  obtain ⟨fw, fq, fm, fv, ⟨a1, a2, a3, a4, a5⟩, hr⟩ := hC
  have e : ∀ k : Int, k < 2 ∨ 3 < k → aiu fs z v k = fs k := fun k hk => aiu_n (by omega)
  refine ⟨fw, fq, fm, fv, ⟨?_, (hq _ (by omega)).trans a2, (hq _ (by omega)).trans a3, (hq _ (by omega)).trans a4, (hq _ (by omega)).trans a5⟩, ?_, ?_, ?_⟩
  · rw [h1, e 0 (by omega), e 1 (by omega)]
    rcases hz with rfl | rfl <;> rfl
  · intro side k hs hk0 hk
    rw [e 0 (by omega)] at hk
    rw [e _ (by omega)]
    exact hr.1 side k hs hk0 hk
  · intro p hp0 hp
    rw [e 1 (by omega)] at hp
    rw [e _ (by omega), e _ (by omega)]
    exact hr.2.1 p hp0 hp
  · intro side p hs hp0 hp
    rw [e 1 (by omega)] at hp
    rw [e _ (by omega)]
    exact hr.2.2 side p hs hp0 hp
set_option maxRecDepth 100000 in
theorem r_hops {G : aG} {d n : Nat} {h : AH} {ra su : Nat} {tk nu hT cT : Int} {ft fr : Int → Int} {z s : Nat} {told : Bool} (htd : hT = bI (told = true)) (hap : ra + 2 ≤ su) (hok : sOK fr) (hz : z ≤ 200) (hs : s < z) (ht : tOK ft z) (hnu : inR nu) (h_this : h ra = some (aOb 5 (rO ra (z : Int) ((s + 1 : Nat) : Int) (s : Int) tk nu hT cT))) (h_this_letters : h (ra + 1) = some (aIa G 200 ft)) (hW : suW G h su fr) : aE G (d + 4) kX5_readHops [.ref ra, .ref su] n h (some (aI (bI (isR (pOne ft z fr s 2 0 3 told) = true)))) (riP G ra su z 1 cT h (pOne ft z fr s 2 0 3 told)) := by
  have hg := hok.1
  have h_into := suW_o hW
  have hb01 : hT = 0 ∨ hT = 1 := by rw [htd]; exact bI_or
  refine aCt_of (lv := [some (.ref ra), some (.ref su)]) knX5_readHops.1 rfl rfl (Nat.le_of_ble_eq_true rfl) (fun x hG hsc X => ?_)
  subst hG
  have t1 := tk_nm (ft := ft) (z := z) (p := s + 1) (lo := 0) (hi := 3) (nu := nu) ht (by omega) (by omega)
  have b1 := tkP_b (ft := ft) (z := z) (p := s + 1) (by omega)
  have n1 := tkN_b (ft := ft) (z := z) (p := s + 1) (by omega) hnu
  generalize hN1 : tkN ft z (s + 1) nu = v1 at *
  generalize hP1 : tkP ft z (s + 1) = p2 at *
  have t2 := tk_en (ft := ft) (z := z) (p := p2) ht (by omega)
  have n2 := tkN_b (ft := ft) (z := z) (p := p2) (by omega) n1
  refine A_al0 X dX5_readHops_0 ?_
  refine A_getf X flX5_27 h_this rfl dX5_readHops_1 ?_
  refine A_if_ne (t := 16) X (by omega) dX5_readHops_4 (fun c4 => ?_) (fun c4 => ?_)
  · refine A_iconst X dX5_readHops_16 ?_
    have etd : told = true := Decidable.byContradiction fun q => by rw [bI_f q] at htd; omega
    have e : pOne ft z fr s 2 0 3 told = .inl s := by rw [pOne, if_pos etd]
    rw [e] at X
    exact A_retz X dX5_readHops_17 rfl (Or.inl rfl) ⟨bI_0 Bool.false_ne_true, rfl, riP_l s rfl hnu h_this (suW_x hW) (fun _ _ _ => rfl)⟩
  · have etd : ¬ told = true := fun q => by rw [bI_t q] at htd; omega
    have e0 : pOne ft z fr s 2 0 3 told = _ := if_neg etd
    refine A_al0 X dX5_readHops_7 ?_
    refine A_iconst X dX5_readHops_8 ?_
    refine A_iconst X dX5_readHops_9 ?_
    refine A_eVi2 X (r_number (p := s + 1) hz (by omega) ht (by omega) (by omega) hnu h_this h_this_letters) h_this knX5_nextNumber mlX5_59 dX5_readHops_10 (fun h10 p10 => ?_)
    obtain ⟨h_this, hq1⟩ := p10
    have h_this_letters := (hq1 _ (by omega)).trans h_this_letters
    have hW := suW_fr hW (fun q q1 q2 => hq1 q (by omega))
    have h_into := suW_o hW
    rw [hN1, hP1] at h_this
    rw [hN1]
    refine A_ifb_ne (t := 18) X dX5_readHops_13 (fun c13 => ?_) (fun c13 => ?_)
    · rw [t1.1 c13] at e0
      dsimp only at e0
      refine A_al0 X dX5_readHops_18 ?_
      refine A_iconst X dX5_readHops_19 ?_
      refine A_putf X flX5_27 h_this dX5_readHops_20 ?_
      refine A_gen (fun h20 e20 k20 q20 => ?_)
      have h_this := e20
      have h_this_letters := (k20 _ (by omega)).trans h_this_letters
      have h_into := (k20 _ (by omega)).trans h_into
      have hW := suW_fr hW (fun q q1 q2 => k20 q (by omega))
      refine A_al1 X dX5_readHops_23 ?_
      refine A_al0 X dX5_readHops_24 ?_
      refine A_getf X flX5_63 h_this rfl dX5_readHops_25 ?_
      refine A_putf X flX5_81 h_into dX5_readHops_28 ?_
      refine A_gen (fun h28 e28 k28 q28 => ?_)
      have h_this := (k28 _ (by omega)).trans h_this
      have h_this_letters := (k28 _ (by omega)).trans h_this_letters
      have h_into := e28
      have hW := suW_23 (z := 2) (v := v1) (by omega) hW e28 k28
      refine A_al0 X dX5_readHops_31 ?_
      refine A_eVi0 X (r_ends (p := p2) hz (by omega) ht h_this h_this_letters) h_this knX5_nextEnds mlX5_70 dX5_readHops_32 (fun h32 p32 => ?_)
      obtain ⟨h_this, hq2⟩ := p32
      have hW := suW_fr hW (fun q q1 q2 => hq2 q (by omega))
      by_cases hc : tkV ft z p2 = 59
      · rw [t2.1 hc] at e0
        rw [e0] at X
        rw [bI_t hc]
        exact A_retz X dX5_readHops_35 rfl (Or.inr rfl) ⟨bI_1 rfl, rfl, riP_r _ _ rfl n2 h_this hW (fun q h1 h2 => by rw [hq2 q h1, k28 q (by omega), k20 q h1, hq1 q h1])⟩
      · rw [t2.2 hc] at e0
        rw [e0] at X
        rw [bI_f hc]
        exact A_retz X dX5_readHops_35 rfl (Or.inl rfl) ⟨bI_0 Bool.false_ne_true, rfl, riP_l _ rfl n2 h_this (suW_x hW) (fun q h1 h2 => by rw [hq2 q h1, k28 q (by omega), k20 q h1, hq1 q h1])⟩
    · refine A_iconst X dX5_readHops_16 ?_
      rw [t1.2 c13] at e0
      rw [e0] at X
      exact A_retz X dX5_readHops_17 rfl (Or.inl rfl) ⟨bI_0 Bool.false_ne_true, rfl, riP_l _ rfl n1 h_this (suW_x hW) (fun q h1 _ => hq1 q h1)⟩
set_option maxRecDepth 100000 in
theorem r_cells {G : aG} {d n : Nat} {h : AH} {ra su : Nat} {tk nu hT cT : Int} {ft fr : Int → Int} {z s : Nat} {told : Bool} (htd : cT = bI (told = true)) (hap : ra + 2 ≤ su) (hok : sOK fr) (hz : z ≤ 200) (hs : s < z) (ht : tOK ft z) (hnu : inR nu) (h_this : h ra = some (aOb 5 (rO ra (z : Int) ((s + 1 : Nat) : Int) (s : Int) tk nu hT cT))) (h_this_letters : h (ra + 1) = some (aIa G 200 ft)) (hW : suW G h su fr) : aE G (d + 4) kX5_readCells [.ref ra, .ref su] n h (some (aI (bI (isR (pOne ft z fr s 3 1 6 told) = true)))) (riP G ra su z hT 1 h (pOne ft z fr s 3 1 6 told)) := by
  have hg := hok.1
  have h_into := suW_o hW
  have hb01 : cT = 0 ∨ cT = 1 := by rw [htd]; exact bI_or
  refine aCt_of (lv := [some (.ref ra), some (.ref su)]) knX5_readCells.1 rfl rfl (Nat.le_of_ble_eq_true rfl) (fun x hG hsc X => ?_)
  subst hG
  have t1 := tk_nm (ft := ft) (z := z) (p := s + 1) (lo := 1) (hi := 6) (nu := nu) ht (by omega) (by omega)
  have b1 := tkP_b (ft := ft) (z := z) (p := s + 1) (by omega)
  have n1 := tkN_b (ft := ft) (z := z) (p := s + 1) (by omega) hnu
  generalize hN1 : tkN ft z (s + 1) nu = v1 at *
  generalize hP1 : tkP ft z (s + 1) = p2 at *
  have t2 := tk_en (ft := ft) (z := z) (p := p2) ht (by omega)
  have n2 := tkN_b (ft := ft) (z := z) (p := p2) (by omega) n1
  refine A_al0 X dX5_readCells_0 ?_
  refine A_getf X flX5_31 h_this rfl dX5_readCells_1 ?_
  refine A_if_ne (t := 17) X (by omega) dX5_readCells_4 (fun c4 => ?_) (fun c4 => ?_)
  · refine A_iconst X dX5_readCells_17 ?_
    have etd : told = true := Decidable.byContradiction fun q => by rw [bI_f q] at htd; omega
    have e : pOne ft z fr s 3 1 6 told = .inl s := by rw [pOne, if_pos etd]
    rw [e] at X
    exact A_retz X dX5_readCells_18 rfl (Or.inl rfl) ⟨bI_0 Bool.false_ne_true, rfl, riP_l s rfl hnu h_this (suW_x hW) (fun _ _ _ => rfl)⟩
  · have etd : ¬ told = true := fun q => by rw [bI_t q] at htd; omega
    have e0 : pOne ft z fr s 3 1 6 told = _ := if_neg etd
    refine A_al0 X dX5_readCells_7 ?_
    refine A_iconst X dX5_readCells_8 ?_
    refine A_bipush X dX5_readCells_9 ?_
    refine A_eVi2 X (r_number (p := s + 1) hz (by omega) ht (by omega) (by omega) hnu h_this h_this_letters) h_this knX5_nextNumber mlX5_59 dX5_readCells_11 (fun h11 p11 => ?_)
    obtain ⟨h_this, hq1⟩ := p11
    have h_this_letters := (hq1 _ (by omega)).trans h_this_letters
    have hW := suW_fr hW (fun q q1 q2 => hq1 q (by omega))
    have h_into := suW_o hW
    rw [hN1, hP1] at h_this
    rw [hN1]
    refine A_ifb_ne (t := 19) X dX5_readCells_14 (fun c14 => ?_) (fun c14 => ?_)
    · rw [t1.1 c14] at e0
      dsimp only at e0
      refine A_al0 X dX5_readCells_19 ?_
      refine A_iconst X dX5_readCells_20 ?_
      refine A_putf X flX5_31 h_this dX5_readCells_21 ?_
      refine A_gen (fun h21 e21 k21 q21 => ?_)
      have h_this := e21
      have h_this_letters := (k21 _ (by omega)).trans h_this_letters
      have h_into := (k21 _ (by omega)).trans h_into
      have hW := suW_fr hW (fun q q1 q2 => k21 q (by omega))
      refine A_al1 X dX5_readCells_24 ?_
      refine A_al0 X dX5_readCells_25 ?_
      refine A_getf X flX5_63 h_this rfl dX5_readCells_26 ?_
      refine A_putf X flX5_84 h_into dX5_readCells_29 ?_
      refine A_gen (fun h29 e29 k29 q29 => ?_)
      have h_this := (k29 _ (by omega)).trans h_this
      have h_this_letters := (k29 _ (by omega)).trans h_this_letters
      have h_into := e29
      have hW := suW_23 (z := 3) (v := v1) (by omega) hW e29 k29
      refine A_al0 X dX5_readCells_32 ?_
      refine A_eVi0 X (r_ends (p := p2) hz (by omega) ht h_this h_this_letters) h_this knX5_nextEnds mlX5_70 dX5_readCells_33 (fun h33 p33 => ?_)
      obtain ⟨h_this, hq2⟩ := p33
      have hW := suW_fr hW (fun q q1 q2 => hq2 q (by omega))
      by_cases hc : tkV ft z p2 = 59
      · rw [t2.1 hc] at e0
        rw [e0] at X
        rw [bI_t hc]
        exact A_retz X dX5_readCells_36 rfl (Or.inr rfl) ⟨bI_1 rfl, rfl, riP_r _ _ rfl n2 h_this hW (fun q h1 h2 => by rw [hq2 q h1, k29 q (by omega), k21 q h1, hq1 q h1])⟩
      · rw [t2.2 hc] at e0
        rw [e0] at X
        rw [bI_f hc]
        exact A_retz X dX5_readCells_36 rfl (Or.inl rfl) ⟨bI_0 Bool.false_ne_true, rfl, riP_l _ rfl n2 h_this (suW_x hW) (fun q h1 h2 => by rw [hq2 q h1, k29 q (by omega), k21 q h1, hq1 q h1])⟩
    · refine A_iconst X dX5_readCells_17 ?_
      rw [t1.2 c14] at e0
      rw [e0] at X
      exact A_retz X dX5_readCells_18 rfl (Or.inl rfl) ⟨bI_0 Bool.false_ne_true, rfl, riP_l _ rfl n1 h_this (suW_x hW) (fun q h1 _ => hq1 q h1)⟩
theorem tkV_end {ft : Int → Int} {z p : Nat} (ht : tOK ft z) : tkV ft z p = 258 ↔ z ≤ sk ft z p := by
  unfold tkV
  by_cases hD : tkD ft z p
  · rw [if_pos hD]
    have := hD.1
    split <;> omega
  · rw [if_neg hD, lA]
    by_cases q : sk ft z p < z
    · rw [if_pos q]
      have := ht (sk ft z p : Int) (by omega) (by omega)
      omega
    · rw [if_neg q]; omega
theorem tkV_ch {ft : Int → Int} {z p : Nat} (hs : sk ft z p < z) {c : Int} (hc : 57 < c ∧ c ≤ 255) : (tkV ft z p = c ↔ ft (sk ft z p : Int) = c) ∧ (tkV ft z p = c → tkP ft z p = sk ft z p + 1) := by
  unfold tkV tkP
  by_cases hD : tkD ft z p
  · have := decide_eq_true_eq.mp hD.2
    rw [if_pos hD, if_pos hD]
    constructor
    · constructor
      · intro q; split at q <;> omega
      · intro q; omega
    · intro q; split at q <;> omega
  · rw [if_neg hD, if_neg hD, lA, if_pos hs, if_pos hs]
    exact ⟨Iff.rfl, fun _ => rfl⟩
