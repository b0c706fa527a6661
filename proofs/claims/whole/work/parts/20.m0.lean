/-! the reference's small methods -/
abbrev hasB (set i : Nat) : Prop := set / 2 ^ i % 2 = 1
/-- the reference's object: its rows lie behind it -/
def mO (tm : Nat) (un sz sm tr ak bg mt : Int) : List Value := [.ref (tm + 1), .ref (tm + 2), .ref (tm + 3), .ref (tm + 4), aI un, .ref (tm + 5), .ref (tm + 6), .ref (tm + 7), aI sz, .ref (tm + 8), aI sm, aL tr, aI ak, aI bg, aI mt, .ref (tm + 9), .ref (tm + 10), .ref (tm + 11), .ref (tm + 12), .ref (tm + 13)]
set_option maxRecDepth 100000 in
theorem m_in {G : aG} {d n : Nat} {h : AH} {a b c : Int} (ha : inR a) (hb : inR b) (hc : inR c) : aD G d kX11_in [aL a, aL b, aL c] n h (some (aI (bI (b ≤ a ∧ a ≤ c)))) := by
  refine aCt_of (lv := [some (aL a), none, some (aL b), none, some (aL c), none]) knX11_in.1 rfl rfl (Nat.le_of_ble_eq_true rfl) (fun x hG hsc X => ?_)
  subst hG
  refine A_ll0 X dX11_in_0 ?_
  refine A_ll2 X dX11_in_1 ?_
  refine A_lcmpc X (by omega) (by omega) dX11_in_2 ?_
  refine A_ifc_lt (t := 17) X dX11_in_3 (fun c3 => ?_) (fun c3 => ?_)
  · refine A_iconst X dX11_in_17 ?_
    exact A_retz X dX11_in_18 rfl (Or.inl rfl) ⟨bI_0 (by omega), rfl, rfl⟩
  · refine A_ll0 X dX11_in_6 ?_
    refine A_ll4 X dX11_in_7 ?_
    refine A_lcmpc X (by omega) (by omega) dX11_in_9 ?_
    refine A_ifc_gt (t := 17) X dX11_in_10 (fun c10 => ?_) (fun c10 => ?_)
    · refine A_iconst X dX11_in_17 ?_
      exact A_retz X dX11_in_18 rfl (Or.inl rfl) ⟨bI_0 (by omega), rfl, rfl⟩
    · refine A_iconst X dX11_in_13 ?_
      refine A_goto (t := 18) X dX11_in_14 ?_
      exact A_retz X dX11_in_18 rfl (Or.inr rfl) ⟨bI_1 (by omega), rfl, rfl⟩
set_option maxRecDepth 100000 in
theorem m_isTwo {G : aG} {d n : Nat} {h : AH} {a : Int} (ha : inR a) : aD G (d + 1) kX11_isTwo [aI a] n h (some (aI (bI (0 ≤ a ∧ a ≤ 1)))) := by
  refine aCt_of (lv := [some (aI a)]) knX11_isTwo.1 rfl rfl (Nat.le_of_ble_eq_true rfl) (fun x hG hsc X => ?_)
  subst hG
  refine A_il0 X dX11_isTwo_0 ?_
  refine A_i2l X (by omega) dX11_isTwo_1 ?_
  refine A_lconst (z := 0) X dX11_isTwo_2 ?_
  refine A_lconst (z := 1) X dX11_isTwo_3 ?_
  refine A_dSi3 X (m_in (by omega) (by omega) (by omega)) knX11_in mlX11_57 dX11_isTwo_4 ?_
  exact A_retz X dX11_isTwo_7 rfl bI_or ⟨rfl, rfl, rfl⟩
set_option maxRecDepth 100000 in
theorem m_has {G : aG} {d n : Nat} {h : AH} {s z : Int} (set i : Nat) (hs : s = (set : Int)) (hz : z = (i : Int)) (h1 : set < 2147483648) (h2 : i < 32) : aD G d kX11_has [aI s, aI z] n h (some (aI (bI (hasB set i)))) := by
  refine aCt_of (lv := [some (aI s), some (aI z)]) knX11_has.1 rfl rfl (Nat.le_of_ble_eq_true rfl) (fun x hG hsc X => ?_)
  subst hG
  refine A_il0 X dX11_has_0 ?_
  refine A_il1 X dX11_has_1 ?_
  refine A_ishr X set i hs hz h2 h1 dX11_has_2 ?_
  refine A_iconst X dX11_has_3 ?_
  refine A_iand X (set / 2 ^ i) 1 rfl rfl dX11_has_4 ?_
  refine A_iconst X dX11_has_5 ?_
  refine A_icmp_ne (t := 13) X (by rw [Nat.and_one_is_mod]; omega) (by omega) dX11_has_6 (fun c6 => ?_) (fun c6 => ?_)
  · rw [Nat.and_one_is_mod] at c6
    refine A_iconst X dX11_has_13 ?_
    exact A_retz X dX11_has_14 rfl (Or.inl rfl) ⟨bI_0 (by show ¬ _ = _; omega), rfl, rfl⟩
  · rw [Nat.and_one_is_mod] at c6
    refine A_iconst X dX11_has_9 ?_
    refine A_goto (t := 14) X dX11_has_10 ?_
    exact A_retz X dX11_has_14 rfl (Or.inr rfl) ⟨bI_1 (by show _ = _; omega), rfl, rfl⟩
set_option maxRecDepth 100000 in
theorem m_all {G : aG} {d n : Nat} {h : AH} {tm : Nat} {un sz sm tr ak bg mt : Int} {fs : Int → Int} (g : Nat) (hg : fs 0 = (g : Int)) (h6 : g ≤ 6) (h_this : h tm = some (aOb 11 (mO tm un sz sm tr ak bg mt))) (h_this_suit : h (tm + 1) = some (aIa G 32 fs)) : aD G d kX11_all [.ref tm] n h (some (aI ((2 ^ g - 1 : Nat) : Int))) := by
  refine aCt_of (lv := [some (.ref tm)]) knX11_all.1 rfl rfl (Nat.le_of_ble_eq_true rfl) (fun x hG hsc X => ?_)
  subst hG
  refine A_iconst X dX11_all_0 ?_
  refine A_al0 X dX11_all_1 ?_
  refine A_getf X flX11_7 h_this rfl dX11_all_2 ?_
  refine A_iconst X dX11_all_5 ?_
  refine A_iald X h_this_suit (by omega) dX11_all_6 ?_
  refine A_ishl X 1 g rfl hg (by omega) (by have := Nat.pow_le_pow_right (show 0 < 2 by omega) h6; omega) dX11_all_7 ?_
  refine A_iconst X dX11_all_8 ?_
  refine A_isub X dX11_all_9 ?_
  exact A_ret X dX11_all_10 rfl ⟨congrArg (fun t => some (aI t)) (by have := Nat.one_le_two_pow (n := g); omega), rfl, rfl⟩
