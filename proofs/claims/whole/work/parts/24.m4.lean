/-! the reference: partings -/
/-- how many sets there are -/
def al (fs : Int → Int) : Nat := 2 ^ (fs 0).toNat
theorem al_b {fs : Int → Int} (h : 0 ≤ fs 0 ∧ fs 0 ≤ 6) : 1 ≤ al fs ∧ al fs ≤ 64 := p2b (by omega)
/-- a set's rest -/
def cm (fs : Int → Int) (r : Nat) : Nat := (al fs - 1) ^^^ ((al fs - 1) &&& r)
theorem cm_b {fs : Int → Int} (h : 0 ≤ fs 0 ∧ fs 0 ≤ 6) (r : Nat) : cm fs r < 64 := by
  have h1 := al_b h
  unfold cm
  exact Nat.xor_lt_two_pow (n := 6) (by omega) (Nat.lt_of_le_of_lt Nat.and_le_left (by omega))
def nvB (fs : Int → Int) (side : Int) (own others : Nat) : Int := if 0 < vl fs side others - vl fs side own then vl fs side others - vl fs side own else 0
theorem nvB_b {fs : Int → Int} (hok : sOK fs) {side : Int} (h1 : side = 0 ∨ side = 1) (own others : Nat) : 0 ≤ nvB fs side own others ∧ nvB fs side own others ≤ 200 := by
  have a := vl_b hok h1 own
  have b := vl_b hok h1 others
  unfold nvB
  split <;> omega
set_option maxRecDepth 100000 in
theorem m_envyBy {G : aG} {d n : Nat} {h : AH} {tm : Nat} {un sz sm tr ak bg mt : Int} {fs : Int → Int} {side u v : Int} (own others : Nat) (hu : u = (own : Int)) (hv : v = (others : Int)) (h1 : own < 2147483648) (h2 : others < 2147483648) (hsd : side = 0 ∨ side = 1) (hok : sOK fs) (h_this : h tm = some (aOb 11 (mO tm un sz sm tr ak bg mt))) (h_this_suit : h (tm + 1) = some (aIa G 32 fs)) : aD G (d + 2) kX11_envyBy [.ref tm, aI side, aI u, aI v] n h (some (aI (nvB fs side own others))) := by
  refine aCt_of (lv := [some (.ref tm), some (aI side), some (aI u), some (aI v), none]) knX11_envyBy.1 rfl rfl (Nat.le_of_ble_eq_true rfl) (fun x hG hsc X => ?_)
  subst hG
  have b1 := vl_b hok hsd own
  have b2 := vl_b hok hsd others
  refine A_al0 X dX11_envyBy_0 ?_
  refine A_il1 X dX11_envyBy_1 ?_
  refine A_il3 X dX11_envyBy_2 ?_
  refine A_dVi2 X (m_valued others hv h2 hsd hok h_this h_this_suit) h_this knX11_valued mlX11_125 dX11_envyBy_3 ?_
  refine A_al0 X dX11_envyBy_6 ?_
  refine A_il1 X dX11_envyBy_7 ?_
  refine A_il2 X dX11_envyBy_8 ?_
  refine A_dVi2 X (m_valued own hu h1 hsd hok h_this h_this_suit) h_this knX11_valued mlX11_125 dX11_envyBy_9 ?_
  refine A_isub X dX11_envyBy_12 ?_
  refine A_is4 X dX11_envyBy_13 ?_
  refine A_il4 X dX11_envyBy_15 ?_
  refine A_if_le (t := 25) X (by omega) dX11_envyBy_17 (fun c17 => ?_) (fun c17 => ?_)
  · refine A_iconst X dX11_envyBy_25 ?_
    exact A_ret X dX11_envyBy_26 rfl ⟨congrArg (fun t => some (aI t)) (by rw [nvB, if_neg (by omega)]), rfl, rfl⟩
  · refine A_il4 X dX11_envyBy_20 ?_
    refine A_goto (t := 26) X dX11_envyBy_22 ?_
    exact A_ret X dX11_envyBy_26 rfl ⟨congrArg (fun t => some (aI t)) (by rw [nvB, if_pos (by omega)]), rfl, rfl⟩
def qEnvy (fs fn : Int → Int) (side : Int) : Int := if 0 ≤ side ∧ side ≤ 1 then nvB fs side (gO fn side (fs 0).toNat) (gO fn (1 - side) (fs 0).toNat) else -1
theorem gO_6 {fn : Int → Int} {ow : Int} {g : Nat} (h : g ≤ 6) : gO fn ow g < 64 := Nat.lt_of_lt_of_le (gO_b g) (p2b h).2
set_option maxRecDepth 100000 in
theorem m_envy {G : aG} {d n : Nat} {h : AH} {tm : Nat} {un sz sm tr ak bg mt : Int} {fs : Int → Int} {fn : Int → Int} {side : Int} (hsr : inR side) (hn : nOK fn) (hok : sOK fs) (h_this : h tm = some (aOb 11 (mO tm un sz sm tr ak bg mt))) (h_this_suit : h (tm + 1) = some (aIa G 32 fs)) (h_this_now : h (tm + 3) = some (aIa G 9 fn)) : aD G (d + 3) kX11_envy [.ref tm, aI side] n h (some (aI (qEnvy fs fn side))) := by
  refine aCt_of (lv := [some (.ref tm), some (aI side)]) knX11_envy.1 rfl rfl (Nat.le_of_ble_eq_true rfl) (fun x hG hsc X => ?_)
  subst hG
  have hg := hok.1
  have hb1 := gO_6 (fn := fn) (ow := side) (show (fs 0).toNat ≤ 6 by omega)
  have hb2 := gO_6 (fn := fn) (ow := 1 - side) (show (fs 0).toNat ≤ 6 by omega)
  refine A_il1 X dX11_envy_0 ?_
  refine A_dSi1 X (m_isTwo (by omega)) knX11_isTwo mlX11_119 dX11_envy_1 ?_
  refine A_ifb_eq (t := 27) X dX11_envy_4 (fun c4 => ?_) (fun c4 => ?_)
  · refine A_iconst X dX11_envy_27 ?_
    exact A_ret X dX11_envy_28 rfl ⟨congrArg (fun t => some (aI t)) (by rw [qEnvy, if_neg c4]), rfl, rfl⟩
  · refine A_al0 X dX11_envy_7 ?_
    refine A_il1 X dX11_envy_8 ?_
    refine A_al0 X dX11_envy_9 ?_
    refine A_il1 X dX11_envy_10 ?_
    refine A_dVi1 X (m_goodsOf (fs 0).toNat (by omega) (by omega) hn.1 (by omega) h_this h_this_suit h_this_now) h_this knX11_goodsOf mlX11_129 dX11_envy_11 ?_
    refine A_al0 X dX11_envy_14 ?_
    refine A_iconst X dX11_envy_15 ?_
    refine A_il1 X dX11_envy_16 ?_
    refine A_isub X dX11_envy_17 ?_
    refine A_dVi1 X (m_goodsOf (fs 0).toNat (by omega) (by omega) hn.1 (by omega) h_this h_this_suit h_this_now) h_this knX11_goodsOf mlX11_129 dX11_envy_18 ?_
    refine A_dVi3 X (m_envyBy _ _ rfl rfl (by omega) (by omega) (by omega) hok h_this h_this_suit) h_this knX11_envyBy mlX11_150 dX11_envy_21 ?_
    refine A_goto (t := 28) X dX11_envy_24 ?_
    exact A_ret X dX11_envy_28 rfl ⟨congrArg (fun t => some (aI t)) (by rw [qEnvy, if_pos c4]), rfl, rfl⟩
abbrev frQ (fs : Int → Int) (r : Nat) : Prop := vl fs 0 r ≤ vl fs 0 (cm fs r) ∧ vl fs 1 (cm fs r) ≤ vl fs 1 r
theorem nvB_0 {fs : Int → Int} {side : Int} {own others : Nat} : nvB fs side own others = 0 ↔ vl fs side others ≤ vl fs side own := by
  unfold nvB
  split <;> omega
theorem m_all2 {G : aG} {d n : Nat} {h : AH} {tm : Nat} {un sz sm tr ak bg mt : Int} {fs : Int → Int} (hg : 0 ≤ fs 0 ∧ fs 0 ≤ 6) (h_this : h tm = some (aOb 11 (mO tm un sz sm tr ak bg mt))) (h_this_suit : h (tm + 1) = some (aIa G 32 fs)) : aD G d kX11_all [.ref tm] n h (some (aI ((al fs - 1 : Nat) : Int))) := m_all (fs 0).toNat (by omega) (by omega) h_this h_this_suit
set_option maxRecDepth 100000 in
theorem m_isFair {G : aG} {d n : Nat} {h : AH} {tm : Nat} {un sz sm tr ak bg mt : Int} {fs : Int → Int} {z : Int} (r : Nat) (hz : z = (r : Int)) (hr : r < 64) (hok : sOK fs) (h_this : h tm = some (aOb 11 (mO tm un sz sm tr ak bg mt))) (h_this_suit : h (tm + 1) = some (aIa G 32 fs)) : aD G (d + 3) kX11_isFair [.ref tm, aI z] n h (some (aI (bI (frQ fs r)))) := by
  refine aCt_of (lv := [some (.ref tm), some (aI z), none]) knX11_isFair.1 rfl rfl (Nat.le_of_ble_eq_true rfl) (fun x hG hsc X => ?_)
  subst hG
  have hg := hok.1
  have hc := cm_b hg r
  have n0 := nvB_b hok (Or.inl rfl) (cm fs r) r
  have n1 := nvB_b hok (Or.inr rfl) r (cm fs r)
  refine A_al0 X dX11_isFair_0 ?_
  refine A_dVi0 X (m_all2 hg h_this h_this_suit) h_this knX11_all mlX11_122 dX11_isFair_1 ?_
  refine A_il1 X dX11_isFair_4 ?_
  refine A_iconst X dX11_isFair_5 ?_
  refine A_ixorr X dX11_isFair_6 ?_
  refine A_iandn X (al fs - 1) r rfl hz dX11_isFair_7 ?_
  refine A_is2 X dX11_isFair_8 ?_
  refine A_al0 X dX11_isFair_9 ?_
  refine A_iconst X dX11_isFair_10 ?_
  refine A_il2 X dX11_isFair_11 ?_
  refine A_il1 X dX11_isFair_12 ?_
  refine A_dVi3 X (m_envyBy (cm fs r) r rfl hz (by omega) (by omega) (Or.inl rfl) hok h_this h_this_suit) h_this knX11_envyBy mlX11_150 dX11_isFair_13 ?_
  refine A_if_ne (t := 33) X (by omega) dX11_isFair_16 (fun c16 => ?_) (fun c16 => ?_)
  · refine A_iconst X dX11_isFair_33 ?_
    exact A_retz X dX11_isFair_34 rfl (Or.inl rfl) ⟨bI_0 (fun q => c16 (nvB_0.mpr q.1)), rfl, rfl⟩
  · refine A_al0 X dX11_isFair_19 ?_
    refine A_iconst X dX11_isFair_20 ?_
    refine A_il1 X dX11_isFair_21 ?_
    refine A_il2 X dX11_isFair_22 ?_
    refine A_dVi3 X (m_envyBy r (cm fs r) hz rfl (by omega) (by omega) (Or.inr rfl) hok h_this h_this_suit) h_this knX11_envyBy mlX11_150 dX11_isFair_23 ?_
    refine A_if_ne (t := 33) X (by omega) dX11_isFair_26 (fun c26 => ?_) (fun c26 => ?_)
    · refine A_iconst X dX11_isFair_33 ?_
      exact A_retz X dX11_isFair_34 rfl (Or.inl rfl) ⟨bI_0 (fun q => c26 (nvB_0.mpr q.2)), rfl, rfl⟩
    · refine A_iconst X dX11_isFair_29 ?_
      refine A_goto (t := 34) X dX11_isFair_30 ?_
      exact A_retz X dX11_isFair_34 rfl (Or.inr rfl) ⟨bI_1 (⟨nvB_0.mp c16, nvB_0.mp c26⟩), rfl, rfl⟩
def tg (fs : Int → Int) (r : Nat) : Int := vl fs 0 (cm fs r) + vl fs 1 r
theorem tg_b {fs : Int → Int} (hok : sOK fs) (r : Nat) : 0 ≤ tg fs r ∧ tg fs r ≤ 400 := by
  have a := vl_b hok (Or.inl rfl) (cm fs r)
  have b := vl_b hok (Or.inr rfl) r
  unfold tg
  omega
set_option maxRecDepth 100000 in
theorem m_together {G : aG} {d n : Nat} {h : AH} {tm : Nat} {un sz sm tr ak bg mt : Int} {fs : Int → Int} {z : Int} (r : Nat) (hz : z = (r : Int)) (hr : r < 64) (hok : sOK fs) (h_this : h tm = some (aOb 11 (mO tm un sz sm tr ak bg mt))) (h_this_suit : h (tm + 1) = some (aIa G 32 fs)) : aD G (d + 2) kX11_together [.ref tm, aI z] n h (some (aI (tg fs r))) := by
  refine aCt_of (lv := [some (.ref tm), some (aI z)]) knX11_together.1 rfl rfl (Nat.le_of_ble_eq_true rfl) (fun x hG hsc X => ?_)
  subst hG
  have hg := hok.1
  have hc := cm_b hg r
  refine A_al0 X dX11_together_0 ?_
  refine A_iconst X dX11_together_1 ?_
  refine A_al0 X dX11_together_2 ?_
  refine A_dVi0 X (m_all2 hg h_this h_this_suit) h_this knX11_all mlX11_122 dX11_together_3 ?_
  refine A_il1 X dX11_together_6 ?_
  refine A_iconst X dX11_together_7 ?_
  refine A_ixorr X dX11_together_8 ?_
  refine A_iandn X (al fs - 1) r rfl hz dX11_together_9 ?_
  refine A_dVi2 X (m_valued (cm fs r) rfl (by omega) (Or.inl rfl) hok h_this h_this_suit) h_this knX11_valued mlX11_125 dX11_together_10 ?_
  refine A_al0 X dX11_together_13 ?_
  refine A_iconst X dX11_together_14 ?_
  refine A_il1 X dX11_together_15 ?_
  refine A_dVi2 X (m_valued r hz (by omega) (Or.inr rfl) hok h_this h_this_suit) h_this knX11_valued mlX11_125 dX11_together_16 ?_
  refine A_iadd X dX11_together_19 ?_
  exact A_ret X dX11_together_20 rfl ⟨rfl, rfl, rfl⟩
/-- the best parting among the first ones (fair ones alone: 1) -/
def bs (fs : Int → Int) (fair : Int) : Nat → Int
  | 0 => -9
  | k + 1 => if (fair = 0 ∨ frQ fs k) ∧ (bs fs fair k = -9 ∨ tg fs (bs fs fair k).toNat < tg fs k) then (k : Int) else bs fs fair k
theorem bs_b (fs : Int → Int) (fair : Int) : ∀ k : Nat, bs fs fair k = -9 ∨ (0 ≤ bs fs fair k ∧ bs fs fair k < (k : Int))
  | 0 => Or.inl rfl
  | k + 1 => by
    have := bs_b fs fair k
    unfold bs
    split <;> omega
theorem bs_0 (fs : Int → Int) : ∀ k : Nat, 0 ≤ bs fs 0 (k + 1)
  | 0 => by simp [bs]
  | k + 1 => by
    have := bs_0 fs k
    unfold bs
    split <;> omega
set_option maxRecDepth 100000 in
theorem m_best {G : aG} {d n : Nat} {h : AH} {tm : Nat} {un sz sm tr ak bg mt : Int} {fs : Int → Int} {fair : Int} (hf : fair = 0 ∨ fair = 1) (hok : sOK fs) (h_this : h tm = some (aOb 11 (mO tm un sz sm tr ak bg mt))) (h_this_suit : h (tm + 1) = some (aIa G 32 fs)) : aD G (d + 4) kX11_best [.ref tm, aI fair] n h (some (aI (bs fs fair (al fs)))) := by
  refine aCt_of (lv := [some (.ref tm), some (aI fair), none, none, none]) knX11_best.1 rfl rfl (Nat.le_of_ble_eq_true rfl) (fun x hG hsc X => ?_)
  subst hG
  have hg := hok.1
  have h2 := al_b hg
  refine A_bipush X dX11_best_0 ?_
  refine A_is2 X dX11_best_2 ?_
  refine A_iconst X dX11_best_3 ?_
  refine A_is3 X dX11_best_4 ?_
  refine lp_0 (P := fun i => ∀ (s : Int) (u : Option Value), lo_c1 [u] = true → s = bs fs fair i → AW x 0 0 n h 5 [some (.ref tm), some (aI fair), some (aI s), some (aI (i : Int)), u] []) (al fs) ?_ ?_ (-9) none rfl rfl
  · intro s u hu hs
    refine A_il3 X dX11_best_5 ?_
    refine A_al0 X dX11_best_6 ?_
    refine A_dVi0 X (m_all2 hg h_this h_this_suit) h_this knX11_all mlX11_122 dX11_best_7 ?_
    refine A_icmp_gt (t := 68) X (by omega) (by omega) dX11_best_10 (fun c10 => ?_) (fun c10 => by exfalso; omega)
    refine A_il2 X dX11_best_68 ?_
    exact A_ret X dX11_best_69 rfl ⟨congrArg (fun t => some (aI t)) (by rw [hs]), rfl, rfl⟩
  · intro i hi ih s u hu hs
    have hbs := bs_b fs fair i
    have t1 := tg_b hok i
    have t2 := tg_b hok s.toNat
    have hs2 : (bs fs fair i).toNat = s.toNat := by rw [hs]
    have hlo : lo_c1 [some (.ref tm), some (aI fair), some (aI s), some (aI (i : Int)), u] = true := by
      simp only [lo_c1, List.all_cons, List.all_nil, Bool.and_true] at hu ⊢
      exact hu
    refine A_il3 X dX11_best_5 ?_
    refine A_al0 X dX11_best_6 ?_
    refine A_dVi0 X (m_all2 hg h_this h_this_suit) h_this knX11_all mlX11_122 dX11_best_7 ?_
    refine A_icmp_gt (t := 68) X (by omega) (by omega) dX11_best_10 (fun c10 => by exfalso; omega) (fun c10 => ?_)
    refine A_il1 X dX11_best_13 ?_
    refine A_if_eq (t := 25) X (by omega) dX11_best_14 (fun c14 => ?_) (fun c14 => ?_)
    · refine A_iconst X dX11_best_25 ?_
      refine A_goto (t := 30) X dX11_best_26 ?_
      refine A_is4 X dX11_best_30 ?_ (hc := hlo)
      refine A_il4 X dX11_best_32 ?_
      refine A_if_eq (t := 60) X (by omega) dX11_best_34 (fun c34 => by exfalso; omega) (fun c34 => ?_)
      have e : fair = 0 ∨ frQ fs i := Or.inl c14
      refine A_il2 X dX11_best_37 ?_
      refine A_bipush X dX11_best_38 ?_
      refine A_icmp_eq (t := 56) X (by omega) (by omega) dX11_best_40 (fun c40 => ?_) (fun c40 => ?_)
      · refine A_il3 X dX11_best_56 ?_
        refine A_goto (t := 61) X dX11_best_57 ?_
        refine A_is2 X dX11_best_61 ?_
        refine A_ii3 X dX11_best_62 ?_
        refine A_goto (t := 5) X dX11_best_65 ?_
        exact ih _ _ rfl (by rw [bs, if_pos ⟨e, Or.inl (by omega)⟩])
      · refine A_al0 X dX11_best_43 ?_
        refine A_il3 X dX11_best_44 ?_
        refine A_dVi1 X (m_together i rfl (by omega) hok h_this h_this_suit) h_this knX11_together mlX11_156 dX11_best_45 ?_
        refine A_al0 X dX11_best_48 ?_
        refine A_il2 X dX11_best_49 ?_
        refine A_dVi1 X (m_together s.toNat (by omega) (by omega) hok h_this h_this_suit) h_this knX11_together mlX11_156 dX11_best_50 ?_
        refine A_icmp_le (t := 60) X (by omega) (by omega) dX11_best_53 (fun c53 => ?_) (fun c53 => ?_)
        · refine A_il2 X dX11_best_60 ?_
          refine A_is2 X dX11_best_61 ?_
          refine A_ii3 X dX11_best_62 ?_
          refine A_goto (t := 5) X dX11_best_65 ?_
          exact ih _ _ rfl (by rw [bs, if_neg (by rw [hs2]; omega), hs])
        · refine A_il3 X dX11_best_56 ?_
          refine A_goto (t := 61) X dX11_best_57 ?_
          refine A_is2 X dX11_best_61 ?_
          refine A_ii3 X dX11_best_62 ?_
          refine A_goto (t := 5) X dX11_best_65 ?_
          exact ih _ _ rfl (by rw [bs, if_pos ⟨e, Or.inr (by rw [hs2]; omega)⟩])
    · refine A_al0 X dX11_best_17 ?_
      refine A_il3 X dX11_best_18 ?_
      refine A_dVi1 X (m_isFair i rfl (by omega) hok h_this h_this_suit) h_this knX11_isFair mlX11_153 dX11_best_19 ?_
      refine A_ifb_eq (t := 29) X dX11_best_22 (fun c22 => ?_) (fun c22 => ?_)
      · refine A_iconst X dX11_best_29 ?_
        refine A_is4 X dX11_best_30 ?_ (hc := hlo)
        refine A_il4 X dX11_best_32 ?_
        refine A_if_eq (t := 60) X (by omega) dX11_best_34 (fun c34 => ?_) (fun c34 => by exfalso; omega)
        refine A_il2 X dX11_best_60 ?_
        refine A_is2 X dX11_best_61 ?_
        refine A_ii3 X dX11_best_62 ?_
        refine A_goto (t := 5) X dX11_best_65 ?_
        exact ih _ _ rfl (by rw [bs, if_neg (fun q => q.1.elim c14 c22), hs])
      · refine A_iconst X dX11_best_25 ?_
        refine A_goto (t := 30) X dX11_best_26 ?_
        refine A_is4 X dX11_best_30 ?_ (hc := hlo)
        refine A_il4 X dX11_best_32 ?_
        refine A_if_eq (t := 60) X (by omega) dX11_best_34 (fun c34 => by exfalso; omega) (fun c34 => ?_)
        have e : fair = 0 ∨ frQ fs i := Or.inr c22
        refine A_il2 X dX11_best_37 ?_
        refine A_bipush X dX11_best_38 ?_
        refine A_icmp_eq (t := 56) X (by omega) (by omega) dX11_best_40 (fun c40 => ?_) (fun c40 => ?_)
        · refine A_il3 X dX11_best_56 ?_
          refine A_goto (t := 61) X dX11_best_57 ?_
          refine A_is2 X dX11_best_61 ?_
          refine A_ii3 X dX11_best_62 ?_
          refine A_goto (t := 5) X dX11_best_65 ?_
          exact ih _ _ rfl (by rw [bs, if_pos ⟨e, Or.inl (by omega)⟩])
        · refine A_al0 X dX11_best_43 ?_
          refine A_il3 X dX11_best_44 ?_
          refine A_dVi1 X (m_together i rfl (by omega) hok h_this h_this_suit) h_this knX11_together mlX11_156 dX11_best_45 ?_
          refine A_al0 X dX11_best_48 ?_
          refine A_il2 X dX11_best_49 ?_
          refine A_dVi1 X (m_together s.toNat (by omega) (by omega) hok h_this h_this_suit) h_this knX11_together mlX11_156 dX11_best_50 ?_
          refine A_icmp_le (t := 60) X (by omega) (by omega) dX11_best_53 (fun c53 => ?_) (fun c53 => ?_)
          · refine A_il2 X dX11_best_60 ?_
            refine A_is2 X dX11_best_61 ?_
            refine A_ii3 X dX11_best_62 ?_
            refine A_goto (t := 5) X dX11_best_65 ?_
            exact ih _ _ rfl (by rw [bs, if_neg (by rw [hs2]; omega), hs])
          · refine A_il3 X dX11_best_56 ?_
            refine A_goto (t := 61) X dX11_best_57 ?_
            refine A_is2 X dX11_best_61 ?_
            refine A_ii3 X dX11_best_62 ?_
            refine A_goto (t := 5) X dX11_best_65 ?_
            exact ih _ _ rfl (by rw [bs, if_pos ⟨e, Or.inr (by rw [hs2]; omega)⟩])
def fc (fs : Int → Int) : Nat → Int
  | 0 => 0
  | k + 1 => fc fs k + (if frQ fs k then 1 else 0)
def qFair (fs : Int → Int) (w : Int) : Int := if 0 ≤ w ∧ w ≤ 3 then (if w = 0 then fc fs (al fs) else if bs fs 1 (al fs) = -9 ∨ w = 1 then bs fs 1 (al fs) else if w = 2 then tg fs (bs fs 1 (al fs)).toNat else tg fs (bs fs 0 (al fs)).toNat - tg fs (bs fs 1 (al fs)).toNat) else -1
set_option maxRecDepth 100000 in
theorem m_fair {G : aG} {d n : Nat} {h : AH} {tm : Nat} {un sz sm tr ak bg mt : Int} {fs : Int → Int} {w : Int} (hw : inR w) (hok : sOK fs) (h_this : h tm = some (aOb 11 (mO tm un sz sm tr ak bg mt))) (h_this_suit : h (tm + 1) = some (aIa G 32 fs)) : aD G (d + 5) kX11_fair [.ref tm, aI w] n h (some (aI (qFair fs w))) := by
  refine aCt_of (lv := [some (.ref tm), some (aI w), none, none]) knX11_fair.1 rfl rfl (Nat.le_of_ble_eq_true rfl) (fun x hG hsc X => ?_)
  subst hG
  have hg := hok.1
  have h2 := al_b hg
  have hb1 := bs_b fs 1 (al fs)
  have hb0 := bs_b fs 0 (al fs)
  have hb00 := bs_0 fs (al fs - 1)
  rw [show al fs - 1 + 1 = al fs by omega] at hb00
  refine A_il1 X dX11_fair_0 ?_
  refine A_i2l X (by omega) dX11_fair_1 ?_
  refine A_lconst (z := 0) X dX11_fair_2 ?_
  refine A_ldc2 (z := 3) X kcX11_159 dX11_fair_3 ?_
  refine A_dSi3 X (m_in (by omega) (by omega) (by omega)) knX11_in mlX11_57 dX11_fair_6 ?_
  refine A_ifb_ne (t := 14) X dX11_fair_9 (fun c9 => ?_) (fun c9 => by exact A_iconst X dX11_fair_12 (A_ret X dX11_fair_13 rfl ⟨congrArg (fun t => some (aI t)) (by rw [qFair, if_neg c9]), rfl, rfl⟩))
  refine A_il1 X dX11_fair_14 ?_
  refine A_if_ne (t := 54) X (by omega) dX11_fair_15 (fun c15 => ?_) (fun c15 => ?_)
  · refine A_al0 X dX11_fair_54 ?_
    refine A_iconst X dX11_fair_55 ?_
    refine A_dVi1 X (m_best (Or.inr rfl) hok h_this h_this_suit) h_this knX11_best mlX11_161 dX11_fair_56 ?_
    refine A_is2 X dX11_fair_59 ?_
    refine A_il2 X dX11_fair_60 ?_
    refine A_bipush X dX11_fair_61 ?_
    refine A_icmp_eq (t := 71) X (by omega) (by omega) dX11_fair_63 (fun c63 => ?_) (fun c63 => ?_)
    · refine A_il2 X dX11_fair_71 ?_
      exact A_ret X dX11_fair_72 rfl ⟨congrArg (fun t => some (aI t)) (by rw [qFair, if_pos c9, if_neg c15, if_pos (Or.inl c63)]), rfl, rfl⟩
    · refine A_il1 X dX11_fair_66 ?_
      refine A_iconst X dX11_fair_67 ?_
      refine A_icmp_ne (t := 73) X (by omega) (by omega) dX11_fair_68 (fun c68 => ?_) (fun c68 => ?_)
      · refine A_il1 X dX11_fair_73 ?_
        refine A_iconst X dX11_fair_74 ?_
        refine A_icmp_ne (t := 86) X (by omega) (by omega) dX11_fair_75 (fun c75 => ?_) (fun c75 => ?_)
        · refine A_al0 X dX11_fair_86 ?_
          refine A_al0 X dX11_fair_87 ?_
          refine A_iconst X dX11_fair_88 ?_
          refine A_dVi1 X (m_best (Or.inl rfl) hok h_this h_this_suit) h_this knX11_best mlX11_161 dX11_fair_89 ?_
          refine A_dVi1 X (m_together (bs fs 0 (al fs)).toNat (by omega) (by omega) hok h_this h_this_suit) h_this knX11_together mlX11_156 dX11_fair_92 ?_
          refine A_al0 X dX11_fair_95 ?_
          refine A_il2 X dX11_fair_96 ?_
          refine A_dVi1 X (m_together (bs fs 1 (al fs)).toNat (by omega) (by omega) hok h_this h_this_suit) h_this knX11_together mlX11_156 dX11_fair_97 ?_
          refine A_isub X dX11_fair_100 ?_
          exact A_ret X dX11_fair_101 rfl ⟨congrArg (fun t => some (aI t)) (by rw [qFair, if_pos c9, if_neg c15, if_neg (by omega), if_neg (by omega)]), rfl, rfl⟩
        · refine A_al0 X dX11_fair_78 ?_
          refine A_il2 X dX11_fair_79 ?_
          refine A_dVi1 X (m_together (bs fs 1 (al fs)).toNat (by omega) (by omega) hok h_this h_this_suit) h_this knX11_together mlX11_156 dX11_fair_80 ?_
          refine A_goto (t := 101) X dX11_fair_83 ?_
          exact A_ret X dX11_fair_101 rfl ⟨congrArg (fun t => some (aI t)) (by rw [qFair, if_pos c9, if_neg c15, if_neg (by omega), if_pos (by omega)]), rfl, rfl⟩
      · refine A_il2 X dX11_fair_71 ?_
        exact A_ret X dX11_fair_72 rfl ⟨congrArg (fun t => some (aI t)) (by rw [qFair, if_pos c9, if_neg c15, if_pos (Or.inr c68)]), rfl, rfl⟩
  · refine A_iconst X dX11_fair_18 ?_
    refine A_is2 X dX11_fair_19 ?_
    refine A_iconst X dX11_fair_20 ?_
    refine A_is3 X dX11_fair_21 ?_
    refine lp_0 (P := fun i => ∀ (s : Int), s = fc fs i → AW x 0 0 n h 22 [some (.ref tm), some (aI w), some (aI s), some (aI (i : Int))] []) (al fs) ?_ ?_ 0 rfl
    · intro s hs
      refine A_il3 X dX11_fair_22 ?_
      refine A_al0 X dX11_fair_23 ?_
      refine A_dVi0 X (m_all2 hg h_this h_this_suit) h_this knX11_all mlX11_122 dX11_fair_24 ?_
      refine A_icmp_gt (t := 52) X (by omega) (by omega) dX11_fair_27 (fun c27 => ?_) (fun c27 => by exfalso; omega)
      refine A_il2 X dX11_fair_52 ?_
      exact A_ret X dX11_fair_53 rfl ⟨congrArg (fun t => some (aI t)) (by rw [qFair, if_pos c9, if_pos c15, hs]), rfl, rfl⟩
    · intro i hi ih s hs
      refine A_il3 X dX11_fair_22 ?_
      refine A_al0 X dX11_fair_23 ?_
      refine A_dVi0 X (m_all2 hg h_this h_this_suit) h_this knX11_all mlX11_122 dX11_fair_24 ?_
      refine A_icmp_gt (t := 52) X (by omega) (by omega) dX11_fair_27 (fun c27 => by exfalso; omega) (fun c27 => ?_)
      refine A_il2 X dX11_fair_30 ?_
      refine A_al0 X dX11_fair_31 ?_
      refine A_il3 X dX11_fair_32 ?_
      refine A_dVi1 X (m_isFair i rfl (by omega) hok h_this h_this_suit) h_this knX11_isFair mlX11_153 dX11_fair_33 ?_
      refine A_ifb_eq (t := 43) X dX11_fair_36 (fun c36 => ?_) (fun c36 => ?_)
      · refine A_iconst X dX11_fair_43 ?_
        refine A_iadd X dX11_fair_44 ?_
        refine A_is2 X dX11_fair_45 ?_
        refine A_ii3 X dX11_fair_46 ?_
        refine A_goto (t := 22) X dX11_fair_49 ?_
        exact ih _ (by rw [hs, fc, if_neg c36])
      · refine A_iconst X dX11_fair_39 ?_
        refine A_goto (t := 44) X dX11_fair_40 ?_
        refine A_iadd X dX11_fair_44 ?_
        refine A_is2 X dX11_fair_45 ?_
        refine A_ii3 X dX11_fair_46 ?_
        refine A_goto (t := 22) X dX11_fair_49 ?_
        exact ih _ (by rw [hs, fc, if_pos c36])
def ow (fs : Int → Int) (side : Int) (set : Nat) : Int := vl fs side (if vl fs (1 - side) (cm fs set) < vl fs (1 - side) set then cm fs set else set)
def ctM (fs : Int → Int) (side : Int) : Nat → Int
  | 0 => -1
  | k + 1 => if ctM fs side k < ow fs side k then ow fs side k else ctM fs side k
def ctB (fs : Int → Int) (side : Int) : Nat → Int
  | 0 => 0
  | k + 1 => if ctM fs side k < ow fs side k then (k : Int) else ctB fs side k
theorem ctM_b {fs : Int → Int} (hok : sOK fs) {side : Int} (h1 : side = 0 ∨ side = 1) : ∀ k : Nat, -1 ≤ ctM fs side k ∧ ctM fs side k ≤ 200
  | 0 => by simp [ctM]
  | k + 1 => by
    have a := ctM_b hok h1 k
    have b : 0 ≤ ow fs side k ∧ ow fs side k ≤ 200 := vl_b hok h1 _
    unfold ctM
    split <;> omega
def qCut (fs : Int → Int) (side w : Int) : Int := if (0 ≤ side ∧ side ≤ 1) ∧ (0 ≤ w ∧ w ≤ 1) then (if w = 0 then ctM fs side (al fs) else ctB fs side (al fs)) else -1
set_option maxRecDepth 100000 in
theorem m_cut {G : aG} {d n : Nat} {h : AH} {tm : Nat} {un sz sm tr ak bg mt : Int} {fs : Int → Int} {side w : Int} (hsr : inR side) (hw : inR w) (hok : sOK fs) (h_this : h tm = some (aOb 11 (mO tm un sz sm tr ak bg mt))) (h_this_suit : h (tm + 1) = some (aIa G 32 fs)) : aD G (d + 2) kX11_cut [.ref tm, aI side, aI w] n h (some (aI (qCut fs side w))) := by
  refine aCt_of (lv := [some (.ref tm), some (aI side), some (aI w), none, none, none, none, none, none]) knX11_cut.1 rfl rfl (Nat.le_of_ble_eq_true rfl) (fun x hG hsc X => ?_)
  subst hG
  have hg := hok.1
  have h2 := al_b hg
  refine A_il1 X dX11_cut_0 ?_
  refine A_dSi1 X (m_isTwo (by omega)) knX11_isTwo mlX11_119 dX11_cut_1 ?_
  refine A_ifb_eq (t := 14) X dX11_cut_4 (fun c4 => by exact A_iconst X dX11_cut_14 (A_ret X dX11_cut_15 rfl ⟨congrArg (fun t => some (aI t)) (by rw [qCut, if_neg (fun q => c4 q.1)]), rfl, rfl⟩)) (fun c4 => ?_)
  refine A_il2 X dX11_cut_7 ?_
  refine A_dSi1 X (m_isTwo (by omega)) knX11_isTwo mlX11_119 dX11_cut_8 ?_
  refine A_ifb_ne (t := 16) X dX11_cut_11 (fun c11 => ?_) (fun c11 => by exact A_iconst X dX11_cut_14 (A_ret X dX11_cut_15 rfl ⟨congrArg (fun t => some (aI t)) (by rw [qCut, if_neg (fun q => c11 q.2)]), rfl, rfl⟩))
  rw [qCut, if_pos ⟨c4, c11⟩] at X
  refine A_iconst X dX11_cut_16 ?_
  refine A_is3 X dX11_cut_17 ?_
  refine A_iconst X dX11_cut_18 ?_
  refine A_is4 X dX11_cut_19 ?_
  refine A_iconst X dX11_cut_21 ?_
  refine A_is5 X dX11_cut_22 ?_
  refine lp_0 (P := fun i => ∀ (s t : Int), s = ctB fs side i → t = ctM fs side i → AW x 0 0 n h 24 [some (.ref tm), some (aI side), some (aI w), some (aI s), some (aI t), some (aI (i : Int)), none, none, none] []) (al fs) ?_ ?_ 0 (-1) rfl rfl
  · intro s t hs ht
    refine A_il5 X dX11_cut_24 ?_
    refine A_al0 X dX11_cut_26 ?_
    refine A_dVi0 X (m_all2 hg h_this h_this_suit) h_this knX11_all mlX11_122 dX11_cut_27 ?_
    refine A_icmp_gt (t := 127) X (by omega) (by omega) dX11_cut_30 (fun c30 => ?_) (fun c30 => by exfalso; omega)
    refine A_il2 X dX11_cut_127 ?_
    refine A_if_ne (t := 136) X (by omega) dX11_cut_128 (fun c128 => ?_) (fun c128 => ?_)
    · refine A_il3 X dX11_cut_136 ?_
      exact A_ret X dX11_cut_137 rfl ⟨congrArg (fun t => some (aI t)) (by rw [if_neg c128, hs]), rfl, rfl⟩
    · refine A_il4 X dX11_cut_131 ?_
      refine A_goto (t := 137) X dX11_cut_133 ?_
      exact A_ret X dX11_cut_137 rfl ⟨congrArg (fun t => some (aI t)) (by rw [if_pos c128, ht]), rfl, rfl⟩
  · intro i hi ih s t hs ht
    have hsd : side = 0 ∨ side = 1 := by omega
    have hsd2 : 1 - side = 0 ∨ 1 - side = 1 := by omega
    have b1 := vl_b hok hsd2 i
    have b2 := vl_b hok hsd2 (cm fs i)
    have b3 := vl_b hok hsd i
    have b4 := vl_b hok hsd (cm fs i)
    have b5 := ctM_b hok hsd i
    have hc := cm_b hg i
    refine A_il5 X dX11_cut_24 ?_
    refine A_al0 X dX11_cut_26 ?_
    refine A_dVi0 X (m_all2 hg h_this h_this_suit) h_this knX11_all mlX11_122 dX11_cut_27 ?_
    refine A_icmp_gt (t := 127) X (by omega) (by omega) dX11_cut_30 (fun c30 => by exfalso; omega) (fun c30 => ?_)
    refine A_al0 X dX11_cut_33 ?_
    refine A_dVi0 X (m_all2 hg h_this h_this_suit) h_this knX11_all mlX11_122 dX11_cut_34 ?_
    refine A_il5 X dX11_cut_37 ?_
    refine A_iconst X dX11_cut_39 ?_
    refine A_ixorr X dX11_cut_40 ?_
    refine A_iandn X (al fs - 1) i rfl rfl dX11_cut_41 ?_
    refine A_is6 X dX11_cut_42 ?_
    refine A_al0 X dX11_cut_44 ?_
    refine A_iconst X dX11_cut_45 ?_
    refine A_il1 X dX11_cut_46 ?_
    refine A_isub X dX11_cut_47 ?_
    refine A_il5 X dX11_cut_48 ?_
    refine A_dVi2 X (m_valued i rfl (by omega) hsd2 hok h_this h_this_suit) h_this knX11_valued mlX11_125 dX11_cut_50 ?_
    refine A_al0 X dX11_cut_53 ?_
    refine A_iconst X dX11_cut_54 ?_
    refine A_il1 X dX11_cut_55 ?_
    refine A_isub X dX11_cut_56 ?_
    refine A_il6 X dX11_cut_57 ?_
    refine A_dVi2 X (m_valued (cm fs i) rfl (by omega) hsd2 hok h_this h_this_suit) h_this knX11_valued mlX11_125 dX11_cut_59 ?_
    refine A_icmp_le (t := 69) X (by omega) (by omega) dX11_cut_62 (fun c62 => ?_) (fun c62 => ?_)
    · refine A_iconst X dX11_cut_69 ?_
      refine A_is7 X dX11_cut_70 ?_
      refine A_al0 X dX11_cut_72 ?_
      refine A_il1 X dX11_cut_73 ?_
      refine A_il7 X dX11_cut_74 ?_
      refine A_if_eq (t := 84) X (by omega) dX11_cut_76 (fun c76 => ?_) (fun c76 => by exfalso; omega)
      refine A_il5 X dX11_cut_84 ?_
      refine A_dVi2 X (m_valued i rfl (by omega) hsd hok h_this h_this_suit) h_this knX11_valued mlX11_125 dX11_cut_86 ?_
      refine A_is8 X dX11_cut_89 ?_
      have e : ow fs side i = vl fs side i := by rw [ow, if_neg (by omega)]
      refine A_il8 X dX11_cut_91 ?_
      refine A_il4 X dX11_cut_93 ?_
      refine A_icmp_le (t := 103) X (by omega) (by omega) dX11_cut_95 (fun c95 => ?_) (fun c95 => ?_)
      · refine A_il3 X dX11_cut_103 ?_
        refine A_is3 X dX11_cut_104 ?_
        refine A_il8 X dX11_cut_105 ?_
        refine A_il4 X dX11_cut_107 ?_
        refine A_icmp_le (t := 117) X (by omega) (by omega) dX11_cut_109 (fun c109 => ?_) (fun c109 => ?_)
        · refine A_il4 X dX11_cut_117 ?_
          refine A_is4 X dX11_cut_119 ?_
          refine A_ii5 X dX11_cut_121 ?_
          refine A_goto (t := 24) X dX11_cut_124 ?_
          exact A_fg6 (A_fg7 (A_fg8 (ih _ _ (by rw [ctB, e]; split <;> omega) (by rw [ctM, e]; split <;> omega))))
        · refine A_il8 X dX11_cut_112 ?_
          refine A_goto (t := 119) X dX11_cut_114 ?_
          refine A_is4 X dX11_cut_119 ?_
          refine A_ii5 X dX11_cut_121 ?_
          refine A_goto (t := 24) X dX11_cut_124 ?_
          exact A_fg6 (A_fg7 (A_fg8 (ih _ _ (by rw [ctB, e]; split <;> omega) (by rw [ctM, e]; split <;> omega))))
      · refine A_il5 X dX11_cut_98 ?_
        refine A_goto (t := 104) X dX11_cut_100 ?_
        refine A_is3 X dX11_cut_104 ?_
        refine A_il8 X dX11_cut_105 ?_
        refine A_il4 X dX11_cut_107 ?_
        refine A_icmp_le (t := 117) X (by omega) (by omega) dX11_cut_109 (fun c109 => ?_) (fun c109 => ?_)
        · refine A_il4 X dX11_cut_117 ?_
          refine A_is4 X dX11_cut_119 ?_
          refine A_ii5 X dX11_cut_121 ?_
          refine A_goto (t := 24) X dX11_cut_124 ?_
          exact A_fg6 (A_fg7 (A_fg8 (ih _ _ (by rw [ctB, e]; split <;> omega) (by rw [ctM, e]; split <;> omega))))
        · refine A_il8 X dX11_cut_112 ?_
          refine A_goto (t := 119) X dX11_cut_114 ?_
          refine A_is4 X dX11_cut_119 ?_
          refine A_ii5 X dX11_cut_121 ?_
          refine A_goto (t := 24) X dX11_cut_124 ?_
          exact A_fg6 (A_fg7 (A_fg8 (ih _ _ (by rw [ctB, e]; split <;> omega) (by rw [ctM, e]; split <;> omega))))
    · refine A_iconst X dX11_cut_65 ?_
      refine A_goto (t := 70) X dX11_cut_66 ?_
      refine A_is7 X dX11_cut_70 ?_
      refine A_al0 X dX11_cut_72 ?_
      refine A_il1 X dX11_cut_73 ?_
      refine A_il7 X dX11_cut_74 ?_
      refine A_if_eq (t := 84) X (by omega) dX11_cut_76 (fun c76 => by exfalso; omega) (fun c76 => ?_)
      refine A_il6 X dX11_cut_79 ?_
      refine A_goto (t := 86) X dX11_cut_81 ?_
      refine A_dVi2 X (m_valued (cm fs i) rfl (by omega) hsd hok h_this h_this_suit) h_this knX11_valued mlX11_125 dX11_cut_86 ?_
      refine A_is8 X dX11_cut_89 ?_
      have e : ow fs side i = vl fs side (cm fs i) := by rw [ow, if_pos (by omega)]
      refine A_il8 X dX11_cut_91 ?_
      refine A_il4 X dX11_cut_93 ?_
      refine A_icmp_le (t := 103) X (by omega) (by omega) dX11_cut_95 (fun c95 => ?_) (fun c95 => ?_)
      · refine A_il3 X dX11_cut_103 ?_
        refine A_is3 X dX11_cut_104 ?_
        refine A_il8 X dX11_cut_105 ?_
        refine A_il4 X dX11_cut_107 ?_
        refine A_icmp_le (t := 117) X (by omega) (by omega) dX11_cut_109 (fun c109 => ?_) (fun c109 => ?_)
        · refine A_il4 X dX11_cut_117 ?_
          refine A_is4 X dX11_cut_119 ?_
          refine A_ii5 X dX11_cut_121 ?_
          refine A_goto (t := 24) X dX11_cut_124 ?_
          exact A_fg6 (A_fg7 (A_fg8 (ih _ _ (by rw [ctB, e]; split <;> omega) (by rw [ctM, e]; split <;> omega))))
        · refine A_il8 X dX11_cut_112 ?_
          refine A_goto (t := 119) X dX11_cut_114 ?_
          refine A_is4 X dX11_cut_119 ?_
          refine A_ii5 X dX11_cut_121 ?_
          refine A_goto (t := 24) X dX11_cut_124 ?_
          exact A_fg6 (A_fg7 (A_fg8 (ih _ _ (by rw [ctB, e]; split <;> omega) (by rw [ctM, e]; split <;> omega))))
      · refine A_il5 X dX11_cut_98 ?_
        refine A_goto (t := 104) X dX11_cut_100 ?_
        refine A_is3 X dX11_cut_104 ?_
        refine A_il8 X dX11_cut_105 ?_
        refine A_il4 X dX11_cut_107 ?_
        refine A_icmp_le (t := 117) X (by omega) (by omega) dX11_cut_109 (fun c109 => ?_) (fun c109 => ?_)
        · refine A_il4 X dX11_cut_117 ?_
          refine A_is4 X dX11_cut_119 ?_
          refine A_ii5 X dX11_cut_121 ?_
          refine A_goto (t := 24) X dX11_cut_124 ?_
          exact A_fg6 (A_fg7 (A_fg8 (ih _ _ (by rw [ctB, e]; split <;> omega) (by rw [ctM, e]; split <;> omega))))
        · refine A_il8 X dX11_cut_112 ?_
          refine A_goto (t := 119) X dX11_cut_114 ?_
          refine A_is4 X dX11_cut_119 ?_
          refine A_ii5 X dX11_cut_121 ?_
          refine A_goto (t := 24) X dX11_cut_124 ?_
          exact A_fg6 (A_fg7 (A_fg8 (ih _ _ (by rw [ctB, e]; split <;> omega) (by rw [ctM, e]; split <;> omega))))
def slB (fs : Int → Int) (c : Int) : Nat → Nat
  | 0 => 0
  | k + 1 => if (vl fs 0 k ≤ c * (pct k : Int) ∧ vl fs 1 k ≤ c * (pct k : Int)) ∧ pct (slB fs c k) < pct k then k else slB fs c k
theorem slB_b (fs : Int → Int) (c : Int) : ∀ k : Nat, slB fs c k ≤ k
  | 0 => Nat.le_refl 0
  | k + 1 => by
    have := slB_b fs c k
    unfold slB
    split <;> omega
theorem pct_b (s : Nat) : pct s ≤ 6 := by
  unfold pct
  omega
def qSell (fs : Int → Int) (c : Int) : Int := if 0 ≤ c ∧ c ≤ 9 then (slB fs c (al fs) : Int) else -1
set_option maxRecDepth 100000 in
theorem m_sell {G : aG} {d n : Nat} {h : AH} {tm : Nat} {un sz sm tr ak bg mt : Int} {fs : Int → Int} {c : Int} (hcr : inR c) (hok : sOK fs) (h_this : h tm = some (aOb 11 (mO tm un sz sm tr ak bg mt))) (h_this_suit : h (tm + 1) = some (aIa G 32 fs)) : aD G (d + 2) kX11_sell [.ref tm, aI c] n h (some (aI (qSell fs c))) := by
  refine aCt_of (lv := [some (.ref tm), some (aI c), none, none, none, none]) knX11_sell.1 rfl rfl (Nat.le_of_ble_eq_true rfl) (fun x hG hsc X => ?_)
  subst hG
  have hg := hok.1
  have h2 := al_b hg
  refine A_il1 X dX11_sell_0 ?_
  refine A_i2l X (by omega) dX11_sell_1 ?_
  refine A_lconst (z := 0) X dX11_sell_2 ?_
  refine A_ldc2 (z := 9) X kcX11_179 dX11_sell_3 ?_
  refine A_dSi3 X (m_in (by omega) (by omega) (by omega)) knX11_in mlX11_57 dX11_sell_6 ?_
  refine A_ifb_ne (t := 14) X dX11_sell_9 (fun c9 => ?_) (fun c9 => by exact A_iconst X dX11_sell_12 (A_ret X dX11_sell_13 rfl ⟨congrArg (fun t => some (aI t)) (by rw [qSell, if_neg c9]), rfl, rfl⟩))
  rw [qSell, if_pos c9] at X
  refine A_iconst X dX11_sell_14 ?_
  refine A_is2 X dX11_sell_15 ?_
  refine A_iconst X dX11_sell_16 ?_
  refine A_is3 X dX11_sell_17 ?_
  refine lp_0 (P := fun i => ∀ (s : Nat), s = slB fs c i → AW x 0 0 n h 18 [some (.ref tm), some (aI c), some (aI (s : Int)), some (aI (i : Int)), none, none] []) (al fs) ?_ ?_ 0 rfl
  · intro s hs
    refine A_il3 X dX11_sell_18 ?_
    refine A_al0 X dX11_sell_19 ?_
    refine A_dVi0 X (m_all2 hg h_this h_this_suit) h_this knX11_all mlX11_122 dX11_sell_20 ?_
    refine A_icmp_gt (t := 91) X (by omega) (by omega) dX11_sell_23 (fun c23 => ?_) (fun c23 => by exfalso; omega)
    refine A_il2 X dX11_sell_91 ?_
    exact A_ret X dX11_sell_92 rfl ⟨congrArg (fun t => some (aI t)) (by rw [hs]), rfl, rfl⟩
  · intro i hi ih s hs
    have b1 := vl_b hok (Or.inl rfl) i
    have b2 := vl_b hok (Or.inr rfl) i
    have b3 := slB_b fs c i
    have b4 := pct_b i
    have b5 := pct_b s
    have b6 : 0 ≤ c * (pct i : Int) ∧ c * (pct i : Int) ≤ 54 := by
      rcases (show c = 0 ∨ c = 1 ∨ c = 2 ∨ c = 3 ∨ c = 4 ∨ c = 5 ∨ c = 6 ∨ c = 7 ∨ c = 8 ∨ c = 9 by omega) with e | e | e | e | e | e | e | e | e | e <;> subst e <;> omega
    have hs2 : pct (slB fs c i) = pct s := by rw [hs]
    refine A_il3 X dX11_sell_18 ?_
    refine A_al0 X dX11_sell_19 ?_
    refine A_dVi0 X (m_all2 hg h_this h_this_suit) h_this knX11_all mlX11_122 dX11_sell_20 ?_
    refine A_icmp_gt (t := 91) X (by omega) (by omega) dX11_sell_23 (fun c23 => by exfalso; omega) (fun c23 => ?_)
    refine A_il1 X dX11_sell_26 ?_
    refine A_il3 X dX11_sell_27 ?_
    refine A_dSi1 X (m_bits i rfl (by omega)) knX11_bits mlX11_165 dX11_sell_28 ?_
    refine A_imul X dX11_sell_31 ?_
    refine A_is4 X dX11_sell_32 ?_
    refine A_al0 X dX11_sell_34 ?_
    refine A_iconst X dX11_sell_35 ?_
    refine A_il3 X dX11_sell_36 ?_
    refine A_dVi2 X (m_valued i rfl (by omega) (Or.inl rfl) hok h_this h_this_suit) h_this knX11_valued mlX11_125 dX11_sell_37 ?_
    refine A_il4 X dX11_sell_40 ?_
    refine A_icmp_gt (t := 60) X (by omega) (by omega) dX11_sell_42 (fun c42 => ?_) (fun c42 => ?_)
    · refine A_iconst X dX11_sell_60 ?_
      refine A_is5 X dX11_sell_61 ?_
      refine A_il5 X dX11_sell_63 ?_
      refine A_if_eq (t := 83) X (by omega) dX11_sell_65 (fun c65 => ?_) (fun c65 => by exfalso; omega)
      refine A_il2 X dX11_sell_83 ?_
      refine A_is2 X dX11_sell_84 ?_
      refine A_ii3 X dX11_sell_85 ?_
      refine A_goto (t := 18) X dX11_sell_88 ?_
      exact A_fg4 (A_fg5 (ih _ (by rw [slB, hs2]; split <;> omega)))
    · refine A_al0 X dX11_sell_45 ?_
      refine A_iconst X dX11_sell_46 ?_
      refine A_il3 X dX11_sell_47 ?_
      refine A_dVi2 X (m_valued i rfl (by omega) (Or.inr rfl) hok h_this h_this_suit) h_this knX11_valued mlX11_125 dX11_sell_48 ?_
      refine A_il4 X dX11_sell_51 ?_
      refine A_icmp_gt (t := 60) X (by omega) (by omega) dX11_sell_53 (fun c53 => ?_) (fun c53 => ?_)
      · refine A_iconst X dX11_sell_60 ?_
        refine A_is5 X dX11_sell_61 ?_
        refine A_il5 X dX11_sell_63 ?_
        refine A_if_eq (t := 83) X (by omega) dX11_sell_65 (fun c65 => ?_) (fun c65 => by exfalso; omega)
        refine A_il2 X dX11_sell_83 ?_
        refine A_is2 X dX11_sell_84 ?_
        refine A_ii3 X dX11_sell_85 ?_
        refine A_goto (t := 18) X dX11_sell_88 ?_
        exact A_fg4 (A_fg5 (ih _ (by rw [slB, hs2]; split <;> omega)))
      · refine A_iconst X dX11_sell_56 ?_
        refine A_goto (t := 61) X dX11_sell_57 ?_
        refine A_is5 X dX11_sell_61 ?_
        refine A_il5 X dX11_sell_63 ?_
        refine A_if_eq (t := 83) X (by omega) dX11_sell_65 (fun c65 => by exfalso; omega) (fun c65 => ?_)
        refine A_il3 X dX11_sell_68 ?_
        refine A_dSi1 X (m_bits i rfl (by omega)) knX11_bits mlX11_165 dX11_sell_69 ?_
        refine A_il2 X dX11_sell_72 ?_
        refine A_dSi1 X (m_bits s rfl (by omega)) knX11_bits mlX11_165 dX11_sell_73 ?_
        refine A_icmp_le (t := 83) X (by omega) (by omega) dX11_sell_76 (fun c76 => ?_) (fun c76 => ?_)
        · refine A_il2 X dX11_sell_83 ?_
          refine A_is2 X dX11_sell_84 ?_
          refine A_ii3 X dX11_sell_85 ?_
          refine A_goto (t := 18) X dX11_sell_88 ?_
          exact A_fg4 (A_fg5 (ih _ (by rw [slB, hs2]; split <;> omega)))
        · refine A_il3 X dX11_sell_79 ?_
          refine A_goto (t := 84) X dX11_sell_80 ?_
          refine A_is2 X dX11_sell_84 ?_
          refine A_ii3 X dX11_sell_85 ?_
          refine A_goto (t := 18) X dX11_sell_88 ?_
          exact A_fg4 (A_fg5 (ih _ (by rw [slB, hs2]; split <;> omega)))
def aS (fs : Int → Int) (side : Int) : Nat → Int
  | 0 => 0
  | k + 1 => aS fs side k + fs (4 + 6 * side + (k : Int))
theorem aS_b {fs : Int → Int} (hok : sOK fs) {side : Int} (h1 : side = 0 ∨ side = 1) : ∀ k : Nat, k ≤ 6 → 0 ≤ aS fs side k ∧ aS fs side k ≤ 20 * (k : Int)
  | 0, _ => by simp [aS]
  | k + 1, hk => by
    have a := aS_b hok h1 k (by omega)
    have b := hok.2.2.2.2.1 (4 + 6 * side + (k : Int)) (by omega) (by omega)
    unfold aS
    omega
def qAdds (fs : Int → Int) (side : Int) : Int := if 0 ≤ side ∧ side ≤ 1 then bI (vl fs side (al fs - 1) ≤ aS fs side (fs 0).toNat) else -1
set_option maxRecDepth 100000 in
theorem m_adds {G : aG} {d n : Nat} {h : AH} {tm : Nat} {un sz sm tr ak bg mt : Int} {fs : Int → Int} {side : Int} (hsr : inR side) (hok : sOK fs) (h_this : h tm = some (aOb 11 (mO tm un sz sm tr ak bg mt))) (h_this_suit : h (tm + 1) = some (aIa G 32 fs)) : aD G (d + 2) kX11_adds [.ref tm, aI side] n h (some (aI (qAdds fs side))) := by
  refine aCt_of (lv := [some (.ref tm), some (aI side), none, none]) knX11_adds.1 rfl rfl (Nat.le_of_ble_eq_true rfl) (fun x hG hsc X => ?_)
  subst hG
  have hg := hok.1
  have h2 := al_b hg
  obtain ⟨g, hgn⟩ := Int.eq_ofNat_of_zero_le hg.1
  have hgt : (fs 0).toNat = g := by omega
  refine A_il1 X dX11_adds_0 ?_
  refine A_dSi1 X (m_isTwo (by omega)) knX11_isTwo mlX11_119 dX11_adds_1 ?_
  refine A_ifb_ne (t := 9) X dX11_adds_4 (fun c4 => ?_) (fun c4 => by exact A_iconst X dX11_adds_7 (A_ret X dX11_adds_8 rfl ⟨congrArg (fun t => some (aI t)) (by rw [qAdds, if_neg c4]), rfl, rfl⟩))
  rw [qAdds, if_pos c4] at X
  refine A_iconst X dX11_adds_9 ?_
  refine A_is2 X dX11_adds_10 ?_
  refine A_iconst X dX11_adds_11 ?_
  refine A_is3 X dX11_adds_12 ?_
  refine lp_0 (P := fun i => ∀ (s : Int), s = aS fs side i → AW x 0 0 n h 13 [some (.ref tm), some (aI side), some (aI s), some (aI (i : Int))] []) g ?_ ?_ 0 rfl
  · intro s hs
    have hsd : side = 0 ∨ side = 1 := by omega
    have b1 := vl_b hok hsd (al fs - 1)
    have b2 := aS_b hok hsd g (by omega)
    refine A_il3 X dX11_adds_13 ?_
    refine A_al0 X dX11_adds_14 ?_
    refine A_getf X flX11_7 h_this rfl dX11_adds_15 ?_
    refine A_iconst X dX11_adds_18 ?_
    refine A_iald X h_this_suit (by omega) dX11_adds_19 ?_
    refine A_icmp_ge (t := 45) X (by omega) (by omega) dX11_adds_20 (fun c20 => ?_) (fun c20 => by exfalso; omega)
    refine A_al0 X dX11_adds_45 ?_
    refine A_il1 X dX11_adds_46 ?_
    refine A_al0 X dX11_adds_47 ?_
    refine A_dVi0 X (m_all2 hg h_this h_this_suit) h_this knX11_all mlX11_122 dX11_adds_48 ?_
    refine A_dVi2 X (m_valued _ rfl (by omega) hsd hok h_this h_this_suit) h_this knX11_valued mlX11_125 dX11_adds_51 ?_
    refine A_il2 X dX11_adds_54 ?_
    refine A_icmp_gt (t := 62) X (by omega) (by omega) dX11_adds_55 (fun c55 => ?_) (fun c55 => ?_)
    · refine A_iconst X dX11_adds_62 ?_
      exact A_ret X dX11_adds_63 rfl ⟨bI_0 (by rw [hgt, ← hs]; show ¬ vl fs side (al fs - 1) ≤ s; omega), rfl, rfl⟩
    · refine A_iconst X dX11_adds_58 ?_
      refine A_goto (t := 63) X dX11_adds_59 ?_
      exact A_ret X dX11_adds_63 rfl ⟨bI_1 (by rw [hgt, ← hs]; show vl fs side (al fs - 1) ≤ s; omega), rfl, rfl⟩
  · intro i hi ih s hs
    have hsd : side = 0 ∨ side = 1 := by omega
    have b := hok.2.2.2.2.1 (4 + 6 * side + (i : Int)) (by omega) (by omega)
    refine A_il3 X dX11_adds_13 ?_
    refine A_al0 X dX11_adds_14 ?_
    refine A_getf X flX11_7 h_this rfl dX11_adds_15 ?_
    refine A_iconst X dX11_adds_18 ?_
    refine A_iald X h_this_suit (by omega) dX11_adds_19 ?_
    refine A_icmp_ge (t := 45) X (by omega) (by omega) dX11_adds_20 (fun c20 => by exfalso; omega) (fun c20 => ?_)
    refine A_il2 X dX11_adds_23 ?_
    refine A_al0 X dX11_adds_24 ?_
    refine A_getf X flX11_7 h_this rfl dX11_adds_25 ?_
    refine A_iconst X dX11_adds_28 ?_
    refine A_bipush X dX11_adds_29 ?_
    refine A_il1 X dX11_adds_31 ?_
    refine A_imul X dX11_adds_32 ?_
    refine A_iadd X dX11_adds_33 ?_
    refine A_il3 X dX11_adds_34 ?_
    refine A_iadd X dX11_adds_35 ?_
    refine A_iald X h_this_suit (by omega) dX11_adds_36 ?_
    refine A_iadd X dX11_adds_37 ?_
    refine A_is2 X dX11_adds_38 ?_
    refine A_ii3 X dX11_adds_39 ?_
    refine A_goto (t := 13) X dX11_adds_42 ?_
    exact ih _ (by rw [hs, aS])
