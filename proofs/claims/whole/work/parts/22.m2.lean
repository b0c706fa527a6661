/-! the reference: steps, soles -/
def nOK (fn : Int → Int) : Prop := (∀ k : Int, 0 ≤ k → k < 6 → 0 ≤ fn k ∧ fn k ≤ 2) ∧ (0 ≤ fn 6 ∧ fn 6 ≤ 60) ∧ (0 ≤ fn 7 ∧ fn 7 < 1073741824) ∧ (0 ≤ fn 8 ∧ fn 8 < 1073741824)
/-- the foot of a step -/
def mF (fn : Int → Int) (i : Nat) : Int := (((fn (7 + (i : Int) / 30)).toNat / 2 ^ (i % 30) % 2 : Nat) : Int)
theorem mF_b (fn : Int → Int) (i : Nat) : 0 ≤ mF fn i ∧ mF fn i ≤ 1 := by
  unfold mF
  omega
theorem nOK_w {fn : Int → Int} (h : nOK fn) {i : Nat} (hi : i < 60) : 0 ≤ fn (7 + (i : Int) / 30) ∧ fn (7 + (i : Int) / 30) < 1073741824 := by
  rcases (show (i : Int) / 30 = 0 ∨ (i : Int) / 30 = 1 by omega) with e | e <;> rw [e]
  · exact h.2.2.1
  · exact h.2.2.2
def cnt (ft : Nat → Int) (foot : Int) : Nat → Int
  | 0 => 0
  | k + 1 => cnt ft foot k + (if ft k = foot then 1 else 0)
theorem cnt_b (ft : Nat → Int) (foot : Int) : ∀ k : Nat, 0 ≤ cnt ft foot k ∧ cnt ft foot k ≤ (k : Int)
  | 0 => by simp [cnt]
  | k + 1 => by
    have := cnt_b ft foot k
    unfold cnt
    split <;> omega
def wrn (ft : Nat → Int) (c foot cell : Int) : Nat → Int
  | 0 => 0
  | k + 1 => wrn ft c foot cell k + (if ft k = foot ∧ cnt ft foot k % c = cell then 1 else 0)
theorem wrn_b (ft : Nat → Int) (c foot cell : Int) : ∀ k : Nat, 0 ≤ wrn ft c foot cell k ∧ wrn ft c foot cell k ≤ (k : Int)
  | 0 => by simp [wrn]
  | k + 1 => by
    have := wrn_b ft c foot cell k
    unfold wrn
    split <;> omega
def flp (ft : Nat → Int) (o : Int) (i : Nat) : Int := if (i : Int) = o then 1 - ft i else ft i
set_option maxRecDepth 100000 in
theorem m_isGood {G : aG} {d n : Nat} {h : AH} {tm : Nat} {un sz sm tr ak bg mt : Int} {fs : Int → Int} {z : Int} (hz : inR z) (hg : 0 ≤ fs 0 ∧ fs 0 ≤ 6) (h_this : h tm = some (aOb 11 (mO tm un sz sm tr ak bg mt))) (h_this_suit : h (tm + 1) = some (aIa G 32 fs)) : aD G (d + 1) kX11_isGood [.ref tm, aI z] n h (some (aI (bI (0 ≤ z ∧ z ≤ fs 0 - 1)))) := by
  refine aCt_of (lv := [some (.ref tm), some (aI z)]) knX11_isGood.1 rfl rfl (Nat.le_of_ble_eq_true rfl) (fun x hG hsc X => ?_)
  subst hG
  refine A_il1 X dX11_isGood_0 ?_
  refine A_i2l X (by omega) dX11_isGood_1 ?_
  refine A_lconst (z := 0) X dX11_isGood_2 ?_
  refine A_al0 X dX11_isGood_3 ?_
  refine A_getf X flX11_7 h_this rfl dX11_isGood_4 ?_
  refine A_iconst X dX11_isGood_7 ?_
  refine A_iald X h_this_suit (by omega) dX11_isGood_8 ?_
  refine A_iconst X dX11_isGood_9 ?_
  refine A_isub X dX11_isGood_10 ?_
  refine A_i2l X (by omega) dX11_isGood_11 ?_
  refine A_dSi3 X (m_in (by omega) (by omega) (by omega)) knX11_in mlX11_57 dX11_isGood_12 ?_
  exact A_retz X dX11_isGood_15 rfl bI_or ⟨rfl, rfl, rfl⟩
set_option maxRecDepth 100000 in
theorem m_isCell {G : aG} {d n : Nat} {h : AH} {tm : Nat} {un sz sm tr ak bg mt : Int} {fs : Int → Int} {z : Int} (hz : inR z) (hg : 1 ≤ fs 3 ∧ fs 3 ≤ 6) (h_this : h tm = some (aOb 11 (mO tm un sz sm tr ak bg mt))) (h_this_suit : h (tm + 1) = some (aIa G 32 fs)) : aD G (d + 1) kX11_isCell [.ref tm, aI z] n h (some (aI (bI (0 ≤ z ∧ z ≤ fs 3 - 1)))) := by
  refine aCt_of (lv := [some (.ref tm), some (aI z)]) knX11_isCell.1 rfl rfl (Nat.le_of_ble_eq_true rfl) (fun x hG hsc X => ?_)
  subst hG
  refine A_il1 X dX11_isCell_0 ?_
  refine A_i2l X (by omega) dX11_isCell_1 ?_
  refine A_lconst (z := 0) X dX11_isCell_2 ?_
  refine A_al0 X dX11_isCell_3 ?_
  refine A_getf X flX11_7 h_this rfl dX11_isCell_4 ?_
  refine A_iconst X dX11_isCell_7 ?_
  refine A_iald X h_this_suit (by omega) dX11_isCell_8 ?_
  refine A_iconst X dX11_isCell_9 ?_
  refine A_isub X dX11_isCell_10 ?_
  refine A_i2l X (by omega) dX11_isCell_11 ?_
  refine A_dSi3 X (m_in (by omega) (by omega) (by omega)) knX11_in mlX11_57 dX11_isCell_12 ?_
  exact A_retz X dX11_isCell_15 rfl bI_or ⟨rfl, rfl, rfl⟩
set_option maxRecDepth 100000 in
theorem m_footOf {G : aG} {d n : Nat} {h : AH} {tm : Nat} {un sz sm tr ak bg mt : Int} {fn : Int → Int} {z : Int} (i : Nat) (hz : z = (i : Int)) (hi : i < 60) (hok : nOK fn) (h_this : h tm = some (aOb 11 (mO tm un sz sm tr ak bg mt))) (h_this_now : h (tm + 3) = some (aIa G 9 fn)) : aD G d kX11_footOf [.ref tm, aI z] n h (some (aI (mF fn i))) := by
  refine aCt_of (lv := [some (.ref tm), some (aI z)]) knX11_footOf.1 rfl rfl (Nat.le_of_ble_eq_true rfl) (fun x hG hsc X => ?_)
  subst hG
  subst hz
  have hb := nOK_w hok hi
  refine A_al0 X dX11_footOf_0 ?_
  refine A_getf X flX11_16 h_this rfl dX11_footOf_1 ?_
  refine A_bipush X dX11_footOf_4 ?_
  refine A_il1 X dX11_footOf_6 ?_
  refine A_bipush X dX11_footOf_7 ?_
  refine A_idiv X (by omega) (by omega) dX11_footOf_9 ?_
  refine A_iadd X dX11_footOf_10 ?_
  refine A_iald X h_this_now (by omega) dX11_footOf_11 ?_
  refine A_il1 X dX11_footOf_12 ?_
  refine A_bipush X dX11_footOf_13 ?_
  refine A_irem X (by omega) (by omega) dX11_footOf_15 ?_
  refine A_ishr X (fn (7 + (i : Int) / 30)).toNat (i % 30) (by omega) (by omega) (by omega) (by omega) dX11_footOf_16 ?_
  refine A_iconst X dX11_footOf_17 ?_
  refine A_iand X ((fn (7 + (i : Int) / 30)).toNat / 2 ^ (i % 30)) 1 rfl rfl dX11_footOf_18 ?_
  exact A_ret X dX11_footOf_19 rfl ⟨congrArg (fun t => some (aI t)) (by rw [Nat.and_one_is_mod]; rfl), rfl, rfl⟩
set_option maxRecDepth 100000 in
theorem m_stepsOf {G : aG} {d n : Nat} {h : AH} {tm : Nat} {un sz sm tr ak bg mt : Int} {fn : Int → Int} {foot : Int} (k : Nat) (hk : fn 6 = (k : Int)) (hok : nOK fn) (hf : inR foot) (h_this : h tm = some (aOb 11 (mO tm un sz sm tr ak bg mt))) (h_this_now : h (tm + 3) = some (aIa G 9 fn)) : aD G (d + 1) kX11_stepsOf [.ref tm, aI foot] n h (some (aI (cnt (mF fn) foot k))) := by
  refine aCt_of (lv := [some (.ref tm), some (aI foot), none, none]) knX11_stepsOf.1 rfl rfl (Nat.le_of_ble_eq_true rfl) (fun x hG hsc X => ?_)
  subst hG
  have hk6 := hok.2.1
  refine A_iconst X dX11_stepsOf_0 ?_
  refine A_is2 X dX11_stepsOf_1 ?_
  refine A_iconst X dX11_stepsOf_2 ?_
  refine A_is3 X dX11_stepsOf_3 ?_
  refine lp_0 (P := fun i => ∀ s : Int, s = cnt (mF fn) foot i → AW x 0 0 n h 4 [some (.ref tm), some (aI foot), some (aI s), some (aI (i : Int))] []) k ?_ ?_ 0 rfl
  · intro s hs
    refine A_il3 X dX11_stepsOf_4 ?_
    refine A_al0 X dX11_stepsOf_5 ?_
    refine A_getf X flX11_16 h_this rfl dX11_stepsOf_6 ?_
    refine A_bipush X dX11_stepsOf_9 ?_
    refine A_iald X h_this_now (by omega) dX11_stepsOf_11 ?_
    refine A_icmp_ge (t := 38) X (by omega) (by omega) dX11_stepsOf_12 (fun c12 => ?_) (fun c12 => by exfalso; omega)
    refine A_il2 X dX11_stepsOf_38 ?_
    exact A_ret X dX11_stepsOf_39 rfl ⟨congrArg (fun t => some (aI t)) (by rw [hs]), rfl, rfl⟩
  · intro i hi ih s hs
    have hb := mF_b fn i
    refine A_il3 X dX11_stepsOf_4 ?_
    refine A_al0 X dX11_stepsOf_5 ?_
    refine A_getf X flX11_16 h_this rfl dX11_stepsOf_6 ?_
    refine A_bipush X dX11_stepsOf_9 ?_
    refine A_iald X h_this_now (by omega) dX11_stepsOf_11 ?_
    refine A_icmp_ge (t := 38) X (by omega) (by omega) dX11_stepsOf_12 (fun c12 => by exfalso; omega) (fun c12 => ?_)
    refine A_il2 X dX11_stepsOf_15 ?_
    refine A_al0 X dX11_stepsOf_16 ?_
    refine A_il3 X dX11_stepsOf_17 ?_
    refine A_dVi1 X (m_footOf i rfl (by omega) hok h_this h_this_now) h_this knX11_footOf mlX11_140 dX11_stepsOf_18 ?_
    refine A_il1 X dX11_stepsOf_21 ?_
    refine A_icmp_ne (t := 29) X (by omega) (by omega) dX11_stepsOf_22 (fun c22 => ?_) (fun c22 => ?_)
    · refine A_iconst X dX11_stepsOf_29 ?_
      refine A_iadd X dX11_stepsOf_30 ?_
      refine A_is2 X dX11_stepsOf_31 ?_
      refine A_ii3 X dX11_stepsOf_32 ?_
      refine A_goto (t := 4) X dX11_stepsOf_35 ?_
      exact ih _ (by rw [hs, cnt, if_neg c22])
    · refine A_iconst X dX11_stepsOf_25 ?_
      refine A_goto (t := 30) X dX11_stepsOf_26 ?_
      refine A_iadd X dX11_stepsOf_30 ?_
      refine A_is2 X dX11_stepsOf_31 ?_
      refine A_ii3 X dX11_stepsOf_32 ?_
      refine A_goto (t := 4) X dX11_stepsOf_35 ?_
      exact ih _ (by rw [hs, cnt, if_pos c22])
set_option maxRecDepth 100000 in
theorem m_wornBy {G : aG} {d n : Nat} {h : AH} {tm : Nat} {un sz sm tr ak bg mt : Int} {fs fn : Int → Int} {foot cell o : Int} (k : Nat) (hk : fn 6 = (k : Int)) (hok : nOK fn) (hc : 1 ≤ fs 3 ∧ fs 3 ≤ 6) (hf : inR foot) (hce : inR cell) (ho : inR o) (h_this : h tm = some (aOb 11 (mO tm un sz sm tr ak bg mt))) (h_this_suit : h (tm + 1) = some (aIa G 32 fs)) (h_this_now : h (tm + 3) = some (aIa G 9 fn)) : aD G (d + 1) kX11_wornBy [.ref tm, aI foot, aI cell, aI o] n h (some (aI (wrn (flp (mF fn) o) (fs 3) foot cell k))) := by
  refine aCt_of (lv := [some (.ref tm), some (aI foot), some (aI cell), some (aI o), none, none, none, none]) knX11_wornBy.1 rfl rfl (Nat.le_of_ble_eq_true rfl) (fun x hG hsc X => ?_)
  subst hG
  have hk6 := hok.2.1
  refine A_iconst X dX11_wornBy_0 ?_
  refine A_is4 X dX11_wornBy_1 ?_
  refine A_iconst X dX11_wornBy_3 ?_
  refine A_is5 X dX11_wornBy_4 ?_
  refine A_iconst X dX11_wornBy_6 ?_
  refine A_is6 X dX11_wornBy_7 ?_
  refine lp_0 (P := fun i => ∀ (s t : Int) (u : Option Value), lo_c1 [u] = true → s = cnt (flp (mF fn) o) foot i → t = wrn (flp (mF fn) o) (fs 3) foot cell i → AW x 0 0 n h 9 [some (.ref tm), some (aI foot), some (aI cell), some (aI o), some (aI s), some (aI t), some (aI (i : Int)), u] []) k ?_ ?_ 0 0 none rfl rfl rfl
  · intro s t u hu hs ht
    refine A_il6 X dX11_wornBy_9 ?_
    refine A_al0 X dX11_wornBy_11 ?_
    refine A_getf X flX11_16 h_this rfl dX11_wornBy_12 ?_
    refine A_bipush X dX11_wornBy_15 ?_
    refine A_iald X h_this_now (by omega) dX11_wornBy_17 ?_
    refine A_icmp_ge (t := 84) X (by omega) (by omega) dX11_wornBy_18 (fun c18 => ?_) (fun c18 => by exfalso; omega)
    refine A_il5 X dX11_wornBy_84 ?_
    exact A_ret X dX11_wornBy_86 rfl ⟨congrArg (fun t => some (aI t)) (by rw [ht]), rfl, rfl⟩
  · intro i hi ih s t u hu hs ht
    have hb := mF_b fn i
    have hcb := cnt_b (flp (mF fn) o) foot i
    have hwb := wrn_b (flp (mF fn) o) (fs 3) foot cell i
    have hfl : ∀ w : Int, (w = 1 - mF fn i ∧ (i : Int) = o) ∨ (w = mF fn i ∧ (i : Int) ≠ o) → flp (mF fn) o i = w := by
      intro w hw
      unfold flp
      rcases hw with ⟨h1, h2⟩ | ⟨h1, h2⟩
      · rw [if_pos h2, h1]
      · rw [if_neg h2, h1]
    refine A_il6 X dX11_wornBy_9 ?_
    refine A_al0 X dX11_wornBy_11 ?_
    refine A_getf X flX11_16 h_this rfl dX11_wornBy_12 ?_
    refine A_bipush X dX11_wornBy_15 ?_
    refine A_iald X h_this_now (by omega) dX11_wornBy_17 ?_
    refine A_icmp_ge (t := 84) X (by omega) (by omega) dX11_wornBy_18 (fun c18 => by exfalso; omega) (fun c18 => ?_)
    refine A_il6 X dX11_wornBy_21 ?_
    refine A_il3 X dX11_wornBy_23 ?_
    refine A_icmp_ne (t := 38) X (by omega) (by omega) dX11_wornBy_24 (fun c24 => ?_) (fun c24 => ?_)
    · refine A_al0 X dX11_wornBy_38 ?_
      refine A_il6 X dX11_wornBy_39 ?_
      refine A_dVi1 X (m_footOf i rfl (by omega) hok h_this h_this_now) h_this knX11_footOf mlX11_140 dX11_wornBy_41 ?_
      refine A_is7 X dX11_wornBy_44 ?_ (hc := by simp only [lo_c1, List.all_cons, List.all_nil, Bool.and_true] at hu ⊢; exact hu)
      have e := hfl _ (Or.inr ⟨rfl, c24⟩)
      refine A_il7 X dX11_wornBy_46 ?_
      refine A_il1 X dX11_wornBy_48 ?_
      refine A_icmp_ne (t := 78) X (by omega) (by omega) dX11_wornBy_49 (fun c49 => ?_) (fun c49 => ?_)
      · refine A_ii6 X dX11_wornBy_78 ?_
        refine A_goto (t := 9) X dX11_wornBy_81 ?_
        exact ih _ _ _ rfl (by rw [cnt, if_neg (by rw [e]; exact c49), hs, Int.add_zero]) (by rw [wrn, if_neg (by rw [e]; exact fun q => c49 q.1), ht, Int.add_zero])
      · have e2 : cnt (flp (mF fn) o) foot (i + 1) = s + 1 := by rw [cnt, if_pos (e.trans c49), hs]
        refine A_il5 X dX11_wornBy_52 ?_
        refine A_il4 X dX11_wornBy_54 ?_
        refine A_al0 X dX11_wornBy_56 ?_
        refine A_getf X flX11_7 h_this rfl dX11_wornBy_57 ?_
        refine A_iconst X dX11_wornBy_60 ?_
        refine A_iald X h_this_suit (by omega) dX11_wornBy_61 ?_
        refine A_irem X (by omega) (by omega) dX11_wornBy_62 ?_
        refine A_il2 X dX11_wornBy_63 ?_
        refine A_icmp_ne (t := 71) X (by have := Int.emod_nonneg s (show fs 3 ≠ 0 by omega); have := Int.emod_lt_of_pos s (show 0 < fs 3 by omega); omega) (by omega) dX11_wornBy_64 (fun c64 => ?_) (fun c64 => ?_)
        · refine A_iconst X dX11_wornBy_71 ?_
          refine A_iadd X dX11_wornBy_72 ?_
          refine A_is5 X dX11_wornBy_73 ?_
          refine A_ii4 X dX11_wornBy_75 ?_
          refine A_ii6 X dX11_wornBy_78 ?_
          refine A_goto (t := 9) X dX11_wornBy_81 ?_
          exact ih _ _ _ rfl e2.symm (by rw [wrn, if_neg (by rw [← hs]; exact fun q => c64 q.2), ht])
        · refine A_iconst X dX11_wornBy_67 ?_
          refine A_goto (t := 72) X dX11_wornBy_68 ?_
          refine A_iadd X dX11_wornBy_72 ?_
          refine A_is5 X dX11_wornBy_73 ?_
          refine A_ii4 X dX11_wornBy_75 ?_
          refine A_ii6 X dX11_wornBy_78 ?_
          refine A_goto (t := 9) X dX11_wornBy_81 ?_
          exact ih _ _ _ rfl e2.symm (by rw [wrn, if_pos (by rw [← hs]; exact ⟨e.trans c49, c64⟩), ht])
    · refine A_iconst X dX11_wornBy_27 ?_
      refine A_al0 X dX11_wornBy_28 ?_
      refine A_il6 X dX11_wornBy_29 ?_
      refine A_dVi1 X (m_footOf i rfl (by omega) hok h_this h_this_now) h_this knX11_footOf mlX11_140 dX11_wornBy_31 ?_
      refine A_isub X dX11_wornBy_34 ?_
      refine A_goto (t := 44) X dX11_wornBy_35 ?_
      refine A_is7 X dX11_wornBy_44 ?_ (hc := by simp only [lo_c1, List.all_cons, List.all_nil, Bool.and_true] at hu ⊢; exact hu)
      have e := hfl _ (Or.inl ⟨rfl, c24⟩)
      refine A_il7 X dX11_wornBy_46 ?_
      refine A_il1 X dX11_wornBy_48 ?_
      refine A_icmp_ne (t := 78) X (by omega) (by omega) dX11_wornBy_49 (fun c49 => ?_) (fun c49 => ?_)
      · refine A_ii6 X dX11_wornBy_78 ?_
        refine A_goto (t := 9) X dX11_wornBy_81 ?_
        exact ih _ _ _ rfl (by rw [cnt, if_neg (by rw [e]; exact c49), hs, Int.add_zero]) (by rw [wrn, if_neg (by rw [e]; exact fun q => c49 q.1), ht, Int.add_zero])
      · have e2 : cnt (flp (mF fn) o) foot (i + 1) = s + 1 := by rw [cnt, if_pos (e.trans c49), hs]
        refine A_il5 X dX11_wornBy_52 ?_
        refine A_il4 X dX11_wornBy_54 ?_
        refine A_al0 X dX11_wornBy_56 ?_
        refine A_getf X flX11_7 h_this rfl dX11_wornBy_57 ?_
        refine A_iconst X dX11_wornBy_60 ?_
        refine A_iald X h_this_suit (by omega) dX11_wornBy_61 ?_
        refine A_irem X (by omega) (by omega) dX11_wornBy_62 ?_
        refine A_il2 X dX11_wornBy_63 ?_
        refine A_icmp_ne (t := 71) X (by have := Int.emod_nonneg s (show fs 3 ≠ 0 by omega); have := Int.emod_lt_of_pos s (show 0 < fs 3 by omega); omega) (by omega) dX11_wornBy_64 (fun c64 => ?_) (fun c64 => ?_)
        · refine A_iconst X dX11_wornBy_71 ?_
          refine A_iadd X dX11_wornBy_72 ?_
          refine A_is5 X dX11_wornBy_73 ?_
          refine A_ii4 X dX11_wornBy_75 ?_
          refine A_ii6 X dX11_wornBy_78 ?_
          refine A_goto (t := 9) X dX11_wornBy_81 ?_
          exact ih _ _ _ rfl e2.symm (by rw [wrn, if_neg (by rw [← hs]; exact fun q => c64 q.2), ht])
        · refine A_iconst X dX11_wornBy_67 ?_
          refine A_goto (t := 72) X dX11_wornBy_68 ?_
          refine A_iadd X dX11_wornBy_72 ?_
          refine A_is5 X dX11_wornBy_73 ?_
          refine A_ii4 X dX11_wornBy_75 ?_
          refine A_ii6 X dX11_wornBy_78 ?_
          refine A_goto (t := 9) X dX11_wornBy_81 ?_
          exact ih _ _ _ rfl e2.symm (by rw [wrn, if_pos (by rw [← hs]; exact ⟨e.trans c49, c64⟩), ht])
