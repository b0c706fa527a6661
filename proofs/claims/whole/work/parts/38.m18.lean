/-! the reference: items -/
def isR {α β : Type} (s : α ⊕ β) : Bool := match s with
  | .inl _ => false
  | .inr _ => true
/-- what an item leaves behind in the reference's rows -/
def itP (G : aG) (tm z : Nat) (un sm tr : Int) (h : AH) (r : Nat ⊕ ((Int → Int) × Nat)) (mt2 : Int) (h' : AH) : Prop := (∃ (ak2 bg2 : Int) (fr2 : Int → Int), h' tm = some (aOb 11 (mO tm un (z : Int) sm tr ak2 bg2 mt2)) ∧ h' (tm + 2) = some (aIa G 32 fr2) ∧ (∀ f, r = .inl f → bg2 = (f : Int)) ∧ (∀ fr3 p2, r = .inr (fr3, p2) → ak2 = (p2 : Int) ∧ fr2 = fr3)) ∧ ∀ q, q ≠ tm → q ≠ tm + 2 → h' q = h q
theorem nm_some {ft : Int → Int} {z p : Nat} {lo hi : Int} (h : nm ft z p lo hi ≠ none) : ∃ v p2, nm ft z p lo hi = some (v, p2) := by
  cases hh : nm ft z p lo hi with
  | none => exact absurd hh h
  | some q => exact ⟨q.1, q.2, rfl⟩
set_option maxRecDepth 100000 in
theorem m_takesGood {G : aG} {d n : Nat} {h : AH} {tm : Nat} {un sm tr mt : Int} {ft fr : Int → Int} {z s : Nat} (hg : 0 ≤ fr 0 ∧ fr 0 ≤ 6) (hz : z ≤ 200) (hs : s < z) (ht : tOK ft z) (h_this : h tm = some (aOb 11 (mO tm un (z : Int) sm tr (s : Int) (s : Int) mt))) (h_this_text : h (tm + 7) = some (aIa G 200 ft)) (h_this_read : h (tm + 2) = some (aIa G 32 fr)) : aE G (d + 2) kX11_takesGood [.ref tm] n h (some (aI (bI (isR (pGood ft z fr s) = true)))) (itP G tm z un sm tr h (pGood ft z fr s) mt) := by
  refine aCt_of (lv := [some (.ref tm), none]) knX11_takesGood.1 rfl rfl (Nat.le_of_ble_eq_true rfl) (fun x hG hsc X => ?_)
  subst hG
  refine A_al0 X dX11_takesGood_0 ?_
  refine A_getf X flX11_13 h_this rfl dX11_takesGood_1 ?_
  refine A_iconst X dX11_takesGood_4 ?_
  refine A_iald X h_this_read (by omega) dX11_takesGood_5 ?_
  refine A_is1 X dX11_takesGood_6 ?_
  refine A_il1 X dX11_takesGood_7 ?_
  refine A_bipush X dX11_takesGood_8 ?_
  refine A_icmp_ne (t := 15) X (by omega) (by omega) dX11_takesGood_10 (fun c10 => ?_) (fun c10 => ?_)
  · have e0 : pGood ft z fr s = _ := if_neg c10
    refine A_al0 X dX11_takesGood_15 ?_
    refine A_dup X dX11_takesGood_16 ?_
    refine A_getf X flX11_73 h_this rfl dX11_takesGood_17 ?_
    refine A_iconst X dX11_takesGood_20 ?_
    refine A_iadd X dX11_takesGood_21 ?_
    refine A_putf X flX11_73 h_this dX11_takesGood_22 ?_
    refine A_gen (fun h22 e22 k22 q22 => ?_)
    have h_this := e22
    have h_this_read := (k22 _ (by omega)).trans h_this_read
    have h_this_text := (k22 _ (by omega)).trans h_this_text
    refine A_al0 X dX11_takesGood_25 ?_
    refine A_iconst X dX11_takesGood_26 ?_
    refine A_il1 X dX11_takesGood_27 ?_
    refine A_iadd X dX11_takesGood_28 ?_
    refine A_iconst X dX11_takesGood_29 ?_
    refine A_bipush X dX11_takesGood_30 ?_
    refine A_eVi3 X (m_number (p := s + 1) hz (by omega) ht (by omega) (by omega) (by omega) h_this h_this_text h_this_read) h_this knX11_number mlX11_87 dX11_takesGood_32 (fun h32 p32 => ?_)
    obtain ⟨⟨ak1, h_this, hn1, hn2⟩, hq1⟩ := p32
    have h_this_text := (hq1 _ (by omega) (by omega)).trans h_this_text
    refine A_ifb_eq (t := 52) X dX11_takesGood_35 (fun c35 => ?_) (fun c35 => ?_)
    · have e1 : nm ft z (s + 1) 0 20 = none := Decidable.byContradiction c35
      rw [e1] at e0
      have h_this_read := hn2 e1
      refine A_iconst X dX11_takesGood_52 ?_
      rw [e0] at X
      exact A_retz X dX11_takesGood_53 rfl (Or.inl rfl) ⟨bI_0 Bool.false_ne_true, rfl, ⟨_, _, _, h_this, h_this_read, fun f q => by cases q; rfl, fun _ _ q => by cases q⟩, fun q h1 h2 => by rw [hq1 q h1 h2, k22 q h1]⟩
    · obtain ⟨v1, p2, e1⟩ := nm_some c35
      rw [e1] at e0
      obtain ⟨rfl, h_this_read⟩ := hn1 v1 p2 e1
      have b1 := nm_b (by omega) e1
      dsimp only at e0
      refine A_al0 X dX11_takesGood_38 ?_
      refine A_bipush X dX11_takesGood_39 ?_
      refine A_il1 X dX11_takesGood_41 ?_
      refine A_iadd X dX11_takesGood_42 ?_
      refine A_iconst X dX11_takesGood_43 ?_
      refine A_bipush X dX11_takesGood_44 ?_
      refine A_eVi3 X (m_number (p := p2) hz (by omega) ht (by omega) (by omega) (by omega) h_this h_this_text h_this_read) h_this knX11_number mlX11_87 dX11_takesGood_46 (fun h46 p46 => ?_)
      obtain ⟨⟨ak2, h_this, hn3, hn4⟩, hq2⟩ := p46
      have h_this_text := (hq2 _ (by omega) (by omega)).trans h_this_text
      refine A_ifb_ne (t := 54) X dX11_takesGood_49 (fun c49 => ?_) (fun c49 => ?_)
      · obtain ⟨v2, p3, e2⟩ := nm_some c49
        rw [e2] at e0
        obtain ⟨rfl, h_this_read⟩ := hn3 v2 p3 e2
        have b2 := nm_b (by omega) e2
        dsimp only at e0
        have ev : aiu (aiu fr (4 + fr 0) v1) (10 + fr 0) v2 0 = fr 0 := by rw [aiu_n (by omega), aiu_n (by omega)]
        refine A_al0 X dX11_takesGood_54 ?_
        refine A_getf X flX11_13 h_this rfl dX11_takesGood_55 ?_
        refine A_iconst X dX11_takesGood_58 ?_
        refine A_dup2 X dX11_takesGood_59 ?_
        refine A_iald X h_this_read (by omega) dX11_takesGood_60 ?_
        refine A_iconst X dX11_takesGood_61 ?_
        refine A_iadd X dX11_takesGood_62 ?_
        refine A_iast X h_this_read (by omega) dX11_takesGood_63 ?_
        refine A_gen (fun h63 e63 k63 q63 => ?_)
        have h_this := (k63 _ (by omega)).trans h_this
        have h_this_read := e63
        have h_this_text := (k63 _ (by omega)).trans h_this_text
        refine A_al0 X dX11_takesGood_64 ?_
        refine A_eVi0 X (m_ends (p := p3) hz (by omega) ht h_this h_this_text) h_this knX11_ends mlX11_91 dX11_takesGood_65 (fun h65 p65 => ?_)
        obtain ⟨h_this, hq3⟩ := p65
        have h_this_read := (hq3 _ (by omega)).trans h_this_read
        rw [ev] at h_this_read
        unfold en at e0
        have b3 := sk_b (ft := ft) (show p3 ≤ z by omega)
        by_cases hc : ch ft z (sk ft z p3) = 59
        · rw [if_pos hc] at e0 h_this
          rw [e0] at X
          rw [bI_t hc]
          exact A_retz X dX11_takesGood_68 rfl (Or.inr rfl) ⟨bI_1 rfl, rfl, ⟨_, _, _, h_this, h_this_read, (fun _ q => by cases q), fun fr3 p2 q => by cases q; exact ⟨rfl, rfl⟩⟩, fun q h1 h2 => by rw [hq3 q h1, k63 q h2, hq2 q h1 h2, hq1 q h1 h2, k22 q h1]⟩
        · rw [if_neg hc] at e0 h_this
          rw [e0] at X
          rw [bI_f hc]
          exact A_retz X dX11_takesGood_68 rfl (Or.inl rfl) ⟨bI_0 Bool.false_ne_true, rfl, ⟨_, _, _, h_this, h_this_read, fun f q => by cases q; rfl, fun _ _ q => by cases q⟩, fun q h1 h2 => by rw [hq3 q h1, k63 q h2, hq2 q h1 h2, hq1 q h1 h2, k22 q h1]⟩
      · have e2 : nm ft z p2 0 20 = none := Decidable.byContradiction c49
        rw [e2] at e0
        have h_this_read := hn4 e2
        refine A_iconst X dX11_takesGood_52 ?_
        rw [e0] at X
        exact A_retz X dX11_takesGood_53 rfl (Or.inl rfl) ⟨bI_0 Bool.false_ne_true, rfl, ⟨_, _, _, h_this, h_this_read, fun f q => by cases q; rfl, fun _ _ q => by cases q⟩, fun q h1 h2 => by rw [hq2 q h1 h2, hq1 q h1 h2, k22 q h1]⟩
  · refine A_iconst X dX11_takesGood_13 ?_
    have e : pGood ft z fr s = .inl s := by rw [pGood, if_pos c10]
    rw [e] at X
    exact A_retz X dX11_takesGood_14 rfl (Or.inl rfl) ⟨bI_0 Bool.false_ne_true, rfl, ⟨_, _, _, h_this, h_this_read, fun f q => by cases q; rfl, fun _ _ q => by cases q⟩, fun _ _ _ => rfl⟩
set_option maxRecDepth 100000 in
theorem m_takesOne {G : aG} {d n : Nat} {h : AH} {tm : Nat} {un sm tr mt : Int} {ft fr : Int → Int} {z s : Nat} {place lo hi : Int} (pl : Nat) (hpl : place = (pl : Int)) (hpl2 : 2 ≤ pl ∧ pl < 4) (mm : Nat) (hmt : mt = (mm : Int)) (hmm : mm < 16) (hlo : inR lo) (hhi : inR hi) (hz : z ≤ 200) (hs : s < z) (ht : tOK ft z) (h_this : h tm = some (aOb 11 (mO tm un (z : Int) sm tr (s : Int) (s : Int) mt))) (h_this_text : h (tm + 7) = some (aIa G 200 ft)) (h_this_read : h (tm + 2) = some (aIa G 32 fr)) : aE G (d + 2) kX11_takesOne [.ref tm, aI place, aI lo, aI hi] n h (some (aI (bI (isR (pOne ft z fr s place lo hi (decide (hasB mm pl))) = true)))) (fun h' => ∃ mt2 : Int, (isR (pOne ft z fr s place lo hi (decide (hasB mm pl))) = true → mt2 = ((mm ||| 1 * 2 ^ pl : Nat) : Int)) ∧ itP G tm z un sm tr h (pOne ft z fr s place lo hi (decide (hasB mm pl))) mt2 h') := by
  refine aCt_of (lv := [some (.ref tm), some (aI place), some (aI lo), some (aI hi)]) knX11_takesOne.1 rfl rfl (Nat.le_of_ble_eq_true rfl) (fun x hG hsc X => ?_)
  subst hG
  subst hpl
  have hpw := p2b (show pl ≤ 6 by omega)
  refine A_al0 X dX11_takesOne_0 ?_
  refine A_getf X flX11_94 h_this rfl dX11_takesOne_1 ?_
  refine A_il1 X dX11_takesOne_4 ?_
  refine A_dSi2 X (m_has mm pl hmt rfl (by omega) (by omega)) knX11_has mlX11_97 dX11_takesOne_5 ?_
  refine A_ifb_eq (t := 13) X dX11_takesOne_8 (fun c8 => ?_) (fun c8 => ?_)
  · have e0 : pOne ft z fr s (pl : Int) lo hi (decide (hasB mm pl)) = _ := if_neg (by rw [decide_eq_true_eq]; exact c8)
    refine A_al0 X dX11_takesOne_13 ?_
    refine A_dup X dX11_takesOne_14 ?_
    refine A_getf X flX11_73 h_this rfl dX11_takesOne_15 ?_
    refine A_iconst X dX11_takesOne_18 ?_
    refine A_iadd X dX11_takesOne_19 ?_
    refine A_putf X flX11_73 h_this dX11_takesOne_20 ?_
    refine A_gen (fun h20 e20 k20 q20 => ?_)
    have h_this := e20
    have h_this_read := (k20 _ (by omega)).trans h_this_read
    have h_this_text := (k20 _ (by omega)).trans h_this_text
    refine A_al0 X dX11_takesOne_23 ?_
    refine A_dup X dX11_takesOne_24 ?_
    refine A_getf X flX11_94 h_this rfl dX11_takesOne_25 ?_
    refine A_iconst X dX11_takesOne_28 ?_
    refine A_il1 X dX11_takesOne_29 ?_
    refine A_ishl X 1 pl rfl rfl (by omega) (by omega) dX11_takesOne_30 ?_
    refine A_ior X mm (1 * 2 ^ pl) hmt rfl dX11_takesOne_31 ?_
    refine A_putf X flX11_94 h_this dX11_takesOne_32 ?_
    refine A_gen (fun h32 e32 k32 q32 => ?_)
    have h_this := e32
    have h_this_read := (k32 _ (by omega)).trans h_this_read
    have h_this_text := (k32 _ (by omega)).trans h_this_text
    refine A_al0 X dX11_takesOne_35 ?_
    refine A_il1 X dX11_takesOne_36 ?_
    refine A_il2 X dX11_takesOne_37 ?_
    refine A_il3 X dX11_takesOne_38 ?_
    refine A_eVi3 X (m_number (p := s + 1) hz (by omega) ht (by omega) (by omega) (by omega) h_this h_this_text h_this_read) h_this knX11_number mlX11_87 dX11_takesOne_39 (fun h39 p39 => ?_)
    obtain ⟨⟨ak1, h_this, hn1, hn2⟩, hq1⟩ := p39
    have h_this_text := (hq1 _ (by omega) (by omega)).trans h_this_text
    refine A_ifb_eq (t := 56) X dX11_takesOne_42 (fun c42 => ?_) (fun c42 => ?_)
    · have e1 : nm ft z (s + 1) lo hi = none := Decidable.byContradiction c42
      rw [e1] at e0
      have h_this_read := hn2 e1
      refine A_iconst X dX11_takesOne_56 ?_
      rw [e0] at X
      exact A_retz X dX11_takesOne_57 rfl (Or.inl rfl) ⟨bI_0 Bool.false_ne_true, rfl, _, (fun q => by cases q), ⟨_, _, _, h_this, h_this_read, fun f q => by cases q; rfl, fun _ _ q => by cases q⟩, fun q h1 h2 => by rw [hq1 q h1 h2, k32 q h1, k20 q h1]⟩
    · obtain ⟨v1, p2, e1⟩ := nm_some c42
      rw [e1] at e0
      obtain ⟨rfl, h_this_read⟩ := hn1 v1 p2 e1
      have b1 := nm_b (by omega) e1
      dsimp only at e0
      refine A_al0 X dX11_takesOne_45 ?_
      refine A_eVi0 X (m_ends (p := p2) hz (by omega) ht h_this h_this_text) h_this knX11_ends mlX11_91 dX11_takesOne_46 (fun h46 p46 => ?_)
      obtain ⟨h_this, hq3⟩ := p46
      have h_this_read := (hq3 _ (by omega)).trans h_this_read
      unfold en at e0
      refine A_ifb_eq (t := 56) X dX11_takesOne_49 (fun c49 => ?_) (fun c49 => ?_)
      · refine A_iconst X dX11_takesOne_56 ?_
        rw [if_neg c49] at e0 h_this
        rw [e0] at X
        exact A_retz X dX11_takesOne_57 rfl (Or.inl rfl) ⟨bI_0 Bool.false_ne_true, rfl, _, (fun q => by cases q), ⟨_, _, _, h_this, h_this_read, fun f q => by cases q; rfl, fun _ _ q => by cases q⟩, fun q h1 h2 => by rw [hq3 q h1, hq1 q h1 h2, k32 q h1, k20 q h1]⟩
      · refine A_iconst X dX11_takesOne_52 ?_
        refine A_goto (t := 57) X dX11_takesOne_53 ?_
        rw [if_pos c49] at e0 h_this
        rw [e0] at X
        exact A_retz X dX11_takesOne_57 rfl (Or.inr rfl) ⟨bI_1 rfl, rfl, _, (fun _ => rfl), ⟨_, _, _, h_this, h_this_read, (fun _ q => by cases q), fun fr3 p2 q => by cases q; exact ⟨rfl, rfl⟩⟩, fun q h1 h2 => by rw [hq3 q h1, hq1 q h1 h2, k32 q h1, k20 q h1]⟩
  · refine A_iconst X dX11_takesOne_11 ?_
    have e : pOne ft z fr s (pl : Int) lo hi (decide (hasB mm pl)) = .inl s := by rw [pOne, if_pos (decide_eq_true c8)]
    rw [e] at X
    exact A_retz X dX11_takesOne_12 rfl (Or.inl rfl) ⟨bI_0 Bool.false_ne_true, rfl, _, (fun q => by cases q), ⟨_, _, _, h_this, h_this_read, fun f q => by cases q; rfl, fun _ _ q => by cases q⟩, fun _ _ _ => rfl⟩
set_option maxRecDepth 100000 in
theorem m_takesPair {G : aG} {d n : Nat} {h : AH} {tm : Nat} {un sm tr mt : Int} {ft fr : Int → Int} {z s : Nat} (hg : 0 ≤ fr 0 ∧ fr 0 ≤ 6) (hpp : 0 ≤ fr 1 ∧ fr 1 ≤ 4) (hz : z ≤ 200) (hs : s < z) (ht : tOK ft z) (h_this : h tm = some (aOb 11 (mO tm un (z : Int) sm tr (s : Int) (s : Int) mt))) (h_this_text : h (tm + 7) = some (aIa G 200 ft)) (h_this_read : h (tm + 2) = some (aIa G 32 fr)) : aE G (d + 2) kX11_takesPair [.ref tm] n h (some (aI (bI (isR (pPair ft z fr s) = true)))) (itP G tm z un sm tr h (pPair ft z fr s) mt) := by
  refine aCt_of (lv := [some (.ref tm), none, none]) knX11_takesPair.1 rfl rfl (Nat.le_of_ble_eq_true rfl) (fun x hG hsc X => ?_)
  subst hG
  refine A_al0 X dX11_takesPair_0 ?_
  refine A_getf X flX11_13 h_this rfl dX11_takesPair_1 ?_
  refine A_iconst X dX11_takesPair_4 ?_
  refine A_iald X h_this_read (by omega) dX11_takesPair_5 ?_
  refine A_is1 X dX11_takesPair_6 ?_
  refine A_il1 X dX11_takesPair_7 ?_
  refine A_iconst X dX11_takesPair_8 ?_
  refine A_icmp_ne (t := 14) X (by omega) (by omega) dX11_takesPair_9 (fun c9 => ?_) (fun c9 => ?_)
  · have e0 : pPair ft z fr s = _ := if_neg c9
    refine A_al0 X dX11_takesPair_14 ?_
    refine A_dup X dX11_takesPair_15 ?_
    refine A_getf X flX11_73 h_this rfl dX11_takesPair_16 ?_
    refine A_iconst X dX11_takesPair_19 ?_
    refine A_iadd X dX11_takesPair_20 ?_
    refine A_putf X flX11_73 h_this dX11_takesPair_21 ?_
    refine A_gen (fun h21 e21 k21 q21 => ?_)
    have h_this := e21
    have h_this_read := (k21 _ (by omega)).trans h_this_read
    have h_this_text := (k21 _ (by omega)).trans h_this_text
    refine A_al0 X dX11_takesPair_24 ?_
    refine A_getf X flX11_13 h_this rfl dX11_takesPair_25 ?_
    refine A_iconst X dX11_takesPair_28 ?_
    refine A_iald X h_this_read (by omega) dX11_takesPair_29 ?_
    refine A_iconst X dX11_takesPair_30 ?_
    refine A_isub X dX11_takesPair_31 ?_
    refine A_is2 X dX11_takesPair_32 ?_
    refine A_al0 X dX11_takesPair_33 ?_
    refine A_bipush X dX11_takesPair_34 ?_
    refine A_il1 X dX11_takesPair_36 ?_
    refine A_iadd X dX11_takesPair_37 ?_
    refine A_iconst X dX11_takesPair_38 ?_
    refine A_il2 X dX11_takesPair_39 ?_
    refine A_eVi3 X (m_number (p := s + 1) hz (by omega) ht (by omega) (by omega) (by omega) h_this h_this_text h_this_read) h_this knX11_number mlX11_87 dX11_takesPair_40 (fun h40 p40 => ?_)
    obtain ⟨⟨ak1, h_this, hn1, hn2⟩, hq1⟩ := p40
    have h_this_text := (hq1 _ (by omega) (by omega)).trans h_this_text
    refine A_ifb_eq (t := 108) X dX11_takesPair_43 (fun c43 => ?_) (fun c43 => ?_)
    · have e1 : nm ft z (s + 1) 0 (fr 0 - 1) = none := Decidable.byContradiction c43
      rw [e1] at e0
      have h_this_read := hn2 e1
      refine A_iconst X dX11_takesPair_108 ?_
      rw [e0] at X
      exact A_retz X dX11_takesPair_109 rfl (Or.inl rfl) ⟨bI_0 Bool.false_ne_true, rfl, ⟨_, _, _, h_this, h_this_read, fun f q => by cases q; rfl, fun _ _ q => by cases q⟩, fun q h1 h2 => by rw [hq1 q h1 h2, k21 q h1]⟩
    · obtain ⟨v1, p2, e1⟩ := nm_some c43
      rw [e1] at e0
      obtain ⟨rfl, h_this_read⟩ := hn1 v1 p2 e1
      have b1 := nm_b (by omega) e1
      dsimp only at e0
      refine A_al0 X dX11_takesPair_46 ?_
      refine A_bipush X dX11_takesPair_47 ?_
      refine A_il1 X dX11_takesPair_49 ?_
      refine A_iadd X dX11_takesPair_50 ?_
      refine A_iconst X dX11_takesPair_51 ?_
      refine A_il2 X dX11_takesPair_52 ?_
      refine A_eVi3 X (m_number (p := p2) hz (by omega) ht (by omega) (by omega) (by omega) h_this h_this_text h_this_read) h_this knX11_number mlX11_87 dX11_takesPair_53 (fun h53 p53 => ?_)
      obtain ⟨⟨ak2, h_this, hn3, hn4⟩, hq2⟩ := p53
      have h_this_text := (hq2 _ (by omega) (by omega)).trans h_this_text
      refine A_ifb_eq (t := 108) X dX11_takesPair_56 (fun c56 => ?_) (fun c56 => ?_)
      · have e2 : nm ft z p2 0 (fr 0 - 1) = none := Decidable.byContradiction c56
        rw [e2] at e0
        have h_this_read := hn4 e2
        refine A_iconst X dX11_takesPair_108 ?_
        rw [e0] at X
        exact A_retz X dX11_takesPair_109 rfl (Or.inl rfl) ⟨bI_0 Bool.false_ne_true, rfl, ⟨_, _, _, h_this, h_this_read, fun f q => by cases q; rfl, fun _ _ q => by cases q⟩, fun q h1 h2 => by rw [hq2 q h1 h2, hq1 q h1 h2, k21 q h1]⟩
      · obtain ⟨v2, p3, e2⟩ := nm_some c56
        rw [e2] at e0
        obtain ⟨rfl, h_this_read⟩ := hn3 v2 p3 e2
        have b2 := nm_b (by omega) e2
        dsimp only at e0
        have ea : aiu (aiu fr (16 + fr 1) v1) (20 + fr 1) v2 (20 + fr 1) = v2 := aiu_s _ _ _
        have eb : aiu (aiu fr (16 + fr 1) v1) (20 + fr 1) v2 (16 + fr 1) = v1 := by rw [aiu_n (by omega), aiu_s]
        refine A_al0 X dX11_takesPair_59 ?_
        refine A_getf X flX11_13 h_this rfl dX11_takesPair_60 ?_
        refine A_bipush X dX11_takesPair_63 ?_
        refine A_il1 X dX11_takesPair_65 ?_
        refine A_iadd X dX11_takesPair_66 ?_
        refine A_iald X h_this_read (by omega) dX11_takesPair_67 ?_
        refine A_al0 X dX11_takesPair_68 ?_
        refine A_getf X flX11_13 h_this rfl dX11_takesPair_69 ?_
        refine A_bipush X dX11_takesPair_72 ?_
        refine A_il1 X dX11_takesPair_74 ?_
        refine A_iadd X dX11_takesPair_75 ?_
        refine A_iald X h_this_read (by omega) dX11_takesPair_76 ?_
        refine A_icmp_eq (t := 108) X (by rw [ea]; omega) (by rw [eb]; omega) dX11_takesPair_77 (fun c77 => ?_) (fun c77 => ?_)
        · rw [ea, eb] at c77
          rw [if_pos c77] at e0
          refine A_iconst X dX11_takesPair_108 ?_
          rw [e0] at X
          exact A_retz X dX11_takesPair_109 rfl (Or.inl rfl) ⟨bI_0 Bool.false_ne_true, rfl, ⟨_, _, _, h_this, h_this_read, fun f q => by cases q; rfl, fun _ _ q => by cases q⟩, fun q h1 h2 => by rw [hq2 q h1 h2, hq1 q h1 h2, k21 q h1]⟩
        · rw [ea, eb] at c77
          rw [if_neg c77] at e0
          refine A_al0 X dX11_takesPair_80 ?_
          refine A_bipush X dX11_takesPair_81 ?_
          refine A_il1 X dX11_takesPair_83 ?_
          refine A_iadd X dX11_takesPair_84 ?_
          refine A_iconst X dX11_takesPair_85 ?_
          refine A_bipush X dX11_takesPair_86 ?_
          refine A_eVi3 X (m_number (p := p3) hz (by omega) ht (by omega) (by omega) (by omega) h_this h_this_text h_this_read) h_this knX11_number mlX11_87 dX11_takesPair_88 (fun h88 p88 => ?_)
          obtain ⟨⟨ak3, h_this, hn5, hn6⟩, hq3⟩ := p88
          have h_this_text := (hq3 _ (by omega) (by omega)).trans h_this_text
          refine A_ifb_eq (t := 108) X dX11_takesPair_91 (fun c91 => ?_) (fun c91 => ?_)
          · have e3 : nm ft z p3 0 20 = none := Decidable.byContradiction c91
            rw [e3] at e0
            have h_this_read := hn6 e3
            refine A_iconst X dX11_takesPair_108 ?_
            rw [e0] at X
            exact A_retz X dX11_takesPair_109 rfl (Or.inl rfl) ⟨bI_0 Bool.false_ne_true, rfl, ⟨_, _, _, h_this, h_this_read, fun f q => by cases q; rfl, fun _ _ q => by cases q⟩, fun q h1 h2 => by rw [hq3 q h1 h2, hq2 q h1 h2, hq1 q h1 h2, k21 q h1]⟩
          · obtain ⟨v3, p4, e3⟩ := nm_some c91
            rw [e3] at e0
            obtain ⟨rfl, h_this_read⟩ := hn5 v3 p4 e3
            have b3 := nm_b (by omega) e3
            dsimp only at e0
            refine A_al0 X dX11_takesPair_94 ?_
            refine A_bipush X dX11_takesPair_95 ?_
            refine A_il1 X dX11_takesPair_97 ?_
            refine A_iadd X dX11_takesPair_98 ?_
            refine A_iconst X dX11_takesPair_99 ?_
            refine A_bipush X dX11_takesPair_100 ?_
            refine A_eVi3 X (m_number (p := p4) hz (by omega) ht (by omega) (by omega) (by omega) h_this h_this_text h_this_read) h_this knX11_number mlX11_87 dX11_takesPair_102 (fun h102 p102 => ?_)
            obtain ⟨⟨ak4, h_this, hn7, hn8⟩, hq4⟩ := p102
            have h_this_text := (hq4 _ (by omega) (by omega)).trans h_this_text
            refine A_ifb_ne (t := 110) X dX11_takesPair_105 (fun c105 => ?_) (fun c105 => ?_)
            · obtain ⟨v4, p5, e4⟩ := nm_some c105
              rw [e4] at e0
              obtain ⟨rfl, h_this_read⟩ := hn7 v4 p5 e4
              have b4 := nm_b (by omega) e4
              dsimp only at e0
              have ev : aiu (aiu (aiu (aiu fr (16 + fr 1) v1) (20 + fr 1) v2) (24 + fr 1) v3) (28 + fr 1) v4 1 = fr 1 := by rw [aiu_n (by omega), aiu_n (by omega), aiu_n (by omega), aiu_n (by omega)]
              refine A_al0 X dX11_takesPair_110 ?_
              refine A_getf X flX11_13 h_this rfl dX11_takesPair_111 ?_
              refine A_iconst X dX11_takesPair_114 ?_
              refine A_dup2 X dX11_takesPair_115 ?_
              refine A_iald X h_this_read (by omega) dX11_takesPair_116 ?_
              refine A_iconst X dX11_takesPair_117 ?_
              refine A_iadd X dX11_takesPair_118 ?_
              refine A_iast X h_this_read (by omega) dX11_takesPair_119 ?_
              refine A_gen (fun h119 e119 k119 q119 => ?_)
              have h_this := (k119 _ (by omega)).trans h_this
              have h_this_read := e119
              have h_this_text := (k119 _ (by omega)).trans h_this_text
              refine A_al0 X dX11_takesPair_120 ?_
              refine A_eVi0 X (m_ends (p := p5) hz (by omega) ht h_this h_this_text) h_this knX11_ends mlX11_91 dX11_takesPair_121 (fun h121 p121 => ?_)
              obtain ⟨h_this, hq5⟩ := p121
              have h_this_read := (hq5 _ (by omega)).trans h_this_read
              rw [ev] at h_this_read
              unfold en at e0
              by_cases hc : ch ft z (sk ft z p5) = 59
              · rw [if_pos hc] at e0 h_this
                rw [e0] at X
                rw [bI_t hc]
                exact A_retz X dX11_takesPair_124 rfl (Or.inr rfl) ⟨bI_1 rfl, rfl, ⟨_, _, _, h_this, h_this_read, (fun _ q => by cases q), fun fr3 p2 q => by cases q; exact ⟨rfl, rfl⟩⟩, fun q h1 h2 => by rw [hq5 q h1, k119 q h2, hq4 q h1 h2, hq3 q h1 h2, hq2 q h1 h2, hq1 q h1 h2, k21 q h1]⟩
              · rw [if_neg hc] at e0 h_this
                rw [e0] at X
                rw [bI_f hc]
                exact A_retz X dX11_takesPair_124 rfl (Or.inl rfl) ⟨bI_0 Bool.false_ne_true, rfl, ⟨_, _, _, h_this, h_this_read, fun f q => by cases q; rfl, fun _ _ q => by cases q⟩, fun q h1 h2 => by rw [hq5 q h1, k119 q h2, hq4 q h1 h2, hq3 q h1 h2, hq2 q h1 h2, hq1 q h1 h2, k21 q h1]⟩
            · have e4 : nm ft z p4 0 20 = none := Decidable.byContradiction c105
              rw [e4] at e0
              have h_this_read := hn8 e4
              refine A_iconst X dX11_takesPair_108 ?_
              rw [e0] at X
              exact A_retz X dX11_takesPair_109 rfl (Or.inl rfl) ⟨bI_0 Bool.false_ne_true, rfl, ⟨_, _, _, h_this, h_this_read, fun f q => by cases q; rfl, fun _ _ q => by cases q⟩, fun q h1 h2 => by rw [hq4 q h1 h2, hq3 q h1 h2, hq2 q h1 h2, hq1 q h1 h2, k21 q h1]⟩
  · refine A_iconst X dX11_takesPair_12 ?_
    have e : pPair ft z fr s = .inl s := by rw [pPair, if_pos c9]
    rw [e] at X
    exact A_retz X dX11_takesPair_13 rfl (Or.inl rfl) ⟨bI_0 Bool.false_ne_true, rfl, ⟨_, _, _, h_this, h_this_read, fun f q => by cases q; rfl, fun _ _ q => by cases q⟩, fun _ _ _ => rfl⟩
