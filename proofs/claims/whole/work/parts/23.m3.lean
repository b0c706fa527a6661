/-! the reference: what is seen, judged, asked -/
def eOK (fe : Int → Int) : Prop := ∀ k : Int, 0 ≤ k → k < 18 → 0 ≤ fe k ∧ fe k ≤ 60
/-- whether all that is seen is so, a step being told the other way -/
def soQ (ft : Nat → Int) (c : Int) (fe : Int → Int) (o : Int) (st : Nat) : Nat → Bool
  | 0 => true
  | k + 1 => soQ ft c fe o st k && decide (wrn (flp ft o) c (fe (3 * (k : Int))) (fe (3 * (k : Int) + 1)) st = fe (3 * (k : Int) + 2))
set_option maxRecDepth 100000 in
theorem m_isSo {G : aG} {d n : Nat} {h : AH} {tm : Nat} {un sz sm tr ak bg mt : Int} {fs fn fe : Int → Int} {o : Int} (k m : Nat) (hk : fn 6 = (k : Int)) (hm : sm = (m : Int)) (hm6 : m ≤ 6) (hok : nOK fn) (hc : 1 ≤ fs 3 ∧ fs 3 ≤ 6) (he : eOK fe) (ho : inR o) (h_this : h tm = some (aOb 11 (mO tm un sz sm tr ak bg mt))) (h_this_suit : h (tm + 1) = some (aIa G 32 fs)) (h_this_now : h (tm + 3) = some (aIa G 9 fn)) (h_this_seen : h (tm + 8) = some (aIa G 18 fe)) : aD G (d + 2) kX11_isSo [.ref tm, aI o] n h (some (aI (bI (soQ (mF fn) (fs 3) fe o k m = true)))) := by
  refine aCt_of (lv := [some (.ref tm), some (aI o), none, none]) knX11_isSo.1 rfl rfl (Nat.le_of_ble_eq_true rfl) (fun x hG hsc X => ?_)
  subst hG
  have hk6 := hok.2.1
  refine A_iconst X dX11_isSo_0 ?_
  refine A_is2 X dX11_isSo_1 ?_
  refine A_iconst X dX11_isSo_2 ?_
  refine A_is3 X dX11_isSo_3 ?_
  refine lp_0 (P := fun i => ∀ s : Int, s = bI (soQ (mF fn) (fs 3) fe o k i = true) → AW x 0 0 n h 4 [some (.ref tm), some (aI o), some (aI s), some (aI (i : Int))] []) m ?_ ?_ 1 rfl
  · intro s hs
    have h01 := bI_or (p := soQ (mF fn) (fs 3) fe o k m = true)
    rw [← hs] at h01
    refine A_il3 X dX11_isSo_4 ?_
    refine A_al0 X dX11_isSo_5 ?_
    refine A_getf X flX11_65 h_this rfl dX11_isSo_6 ?_
    refine A_icmp_ge (t := 64) X (by omega) (by omega) dX11_isSo_9 (fun c9 => ?_) (fun c9 => by exfalso; omega)
    refine A_il2 X dX11_isSo_64 ?_
    exact A_retz X dX11_isSo_65 rfl (h01) ⟨congrArg (fun t => some (aI t)) hs, rfl, rfl⟩
  · intro i hi ih s hs
    have h01 := bI_or (p := soQ (mF fn) (fs 3) fe o k i = true)
    rw [← hs] at h01
    have b0 := he (3 * (i : Int)) (by omega) (by omega)
    have b1 := he (3 * (i : Int) + 1) (by omega) (by omega)
    have b2 := he (3 * (i : Int) + 2) (by omega) (by omega)
    have hwb := wrn_b (flp (mF fn) o) (fs 3) (fe (3 * (i : Int))) (fe (3 * (i : Int) + 1)) k
    refine A_il3 X dX11_isSo_4 ?_
    refine A_al0 X dX11_isSo_5 ?_
    refine A_getf X flX11_65 h_this rfl dX11_isSo_6 ?_
    refine A_icmp_ge (t := 64) X (by omega) (by omega) dX11_isSo_9 (fun c9 => by exfalso; omega) (fun c9 => ?_)
    refine A_il2 X dX11_isSo_12 ?_
    refine A_if_eq (t := 56) X (by omega) dX11_isSo_13 (fun c13 => ?_) (fun c13 => ?_)
    · refine A_iconst X dX11_isSo_56 ?_
      refine A_is2 X dX11_isSo_57 ?_
      refine A_ii3 X dX11_isSo_58 ?_
      refine A_goto (t := 4) X dX11_isSo_61 ?_
      exact ih _ (by
        have e : ¬ soQ (mF fn) (fs 3) fe o k i = true := fun q => by rw [bI_t q] at hs; omega
        rw [bI_f]; simp only [soQ, Bool.and_eq_true, not_and]; exact fun q => absurd q e)
    · refine A_al0 X dX11_isSo_16 ?_
      refine A_al0 X dX11_isSo_17 ?_
      refine A_getf X flX11_32 h_this rfl dX11_isSo_18 ?_
      refine A_iconst X dX11_isSo_21 ?_
      refine A_il3 X dX11_isSo_22 ?_
      refine A_imul X dX11_isSo_23 ?_
      refine A_iald X h_this_seen (by omega) dX11_isSo_24 ?_
      refine A_al0 X dX11_isSo_25 ?_
      refine A_getf X flX11_32 h_this rfl dX11_isSo_26 ?_
      refine A_iconst X dX11_isSo_29 ?_
      refine A_il3 X dX11_isSo_30 ?_
      refine A_imul X dX11_isSo_31 ?_
      refine A_iconst X dX11_isSo_32 ?_
      refine A_iadd X dX11_isSo_33 ?_
      refine A_iald X h_this_seen (by omega) dX11_isSo_34 ?_
      refine A_il1 X dX11_isSo_35 ?_
      refine A_dVi3 X (m_wornBy k hk hok hc (by omega) (by omega) ho h_this h_this_suit h_this_now) h_this knX11_wornBy mlX11_146 dX11_isSo_36 ?_
      refine A_al0 X dX11_isSo_39 ?_
      refine A_getf X flX11_32 h_this rfl dX11_isSo_40 ?_
      refine A_iconst X dX11_isSo_43 ?_
      refine A_il3 X dX11_isSo_44 ?_
      refine A_imul X dX11_isSo_45 ?_
      refine A_iconst X dX11_isSo_46 ?_
      refine A_iadd X dX11_isSo_47 ?_
      refine A_iald X h_this_seen (by omega) dX11_isSo_48 ?_
      refine A_icmp_ne (t := 56) X (by omega) (by omega) dX11_isSo_49 (fun c49 => ?_) (fun c49 => ?_)
      · refine A_iconst X dX11_isSo_56 ?_
        refine A_is2 X dX11_isSo_57 ?_
        refine A_ii3 X dX11_isSo_58 ?_
        refine A_goto (t := 4) X dX11_isSo_61 ?_
        exact ih _ (by rw [bI_f]; simp only [soQ, Bool.and_eq_true, decide_eq_true_eq, not_and]; exact fun _ => c49)
      · refine A_iconst X dX11_isSo_52 ?_
        refine A_goto (t := 57) X dX11_isSo_53 ?_
        refine A_is2 X dX11_isSo_57 ?_
        refine A_ii3 X dX11_isSo_58 ?_
        refine A_goto (t := 4) X dX11_isSo_61 ?_
        exact ih _ (by
          have e : soQ (mF fn) (fs 3) fe o k i = true := Decidable.byContradiction fun q => by rw [bI_f q] at hs; omega
          rw [bI_t]; simp only [soQ, Bool.and_eq_true, decide_eq_true_eq]; exact ⟨e, c49⟩)
set_option maxRecDepth 100000 in
theorem m_asTold {G : aG} {d n : Nat} {h : AH} {tm : Nat} {un sz sm tr ak bg mt : Int} {fs fn fe : Int → Int} (k m : Nat) (hk : fn 6 = (k : Int)) (hm : sm = (m : Int)) (hm6 : m ≤ 6) (hok : nOK fn) (hc : 1 ≤ fs 3 ∧ fs 3 ≤ 6) (he : eOK fe) (h_this : h tm = some (aOb 11 (mO tm un sz sm tr ak bg mt))) (h_this_suit : h (tm + 1) = some (aIa G 32 fs)) (h_this_now : h (tm + 3) = some (aIa G 9 fn)) (h_this_seen : h (tm + 8) = some (aIa G 18 fe)) : aD G (d + 3) kX11_asTold [.ref tm] n h (some (aI (bI (soQ (mF fn) (fs 3) fe (-1) k m = true)))) := by
  refine aCt_of (lv := [some (.ref tm)]) knX11_asTold.1 rfl rfl (Nat.le_of_ble_eq_true rfl) (fun x hG hsc X => ?_)
  subst hG
  refine A_al0 X dX11_asTold_0 ?_
  refine A_iconst X dX11_asTold_1 ?_
  refine A_dVi1 X (m_isSo k m hk hm hm6 hok hc he (by omega) h_this h_this_suit h_this_now h_this_seen) h_this knX11_isSo mlX11_188 dX11_asTold_2 ?_
  refine A_ifb_eq (t := 12) X dX11_asTold_5 (fun c5 => ?_) (fun c5 => ?_)
  · refine A_iconst X dX11_asTold_12 ?_
    exact A_ret X dX11_asTold_13 rfl ⟨bI_0 c5, rfl, rfl⟩
  · refine A_iconst X dX11_asTold_8 ?_
    refine A_goto (t := 13) X dX11_asTold_9 ?_
    exact A_ret X dX11_asTold_13 rfl ⟨bI_1 c5, rfl, rfl⟩
/-- the steps that may be wrong, as bits of a part -/
def wrS (ft : Nat → Int) (c : Int) (fe : Int → Int) (st m : Nat) (part : Int) : Nat → Nat
  | 0 => 0
  | k + 1 => wrS ft c fe st m part k ||| (if 30 * part + (k : Int) < (st : Int) ∧ soQ ft c fe (30 * part + (k : Int)) st m = true then 1 * 2 ^ k else 0)
def qWrong (fs fn fe : Int → Int) (sm part : Int) : Int := if 0 ≤ part ∧ part ≤ 1 then ((wrS (mF fn) (fs 3) fe (fn 6).toNat sm.toNat part 30 : Nat) : Int) else -1
theorem p2k {k : Nat} (h : k ≤ 30) : 2 ^ k ≤ 1073741824 := Nat.pow_le_pow_right (by omega) h
set_option maxRecDepth 100000 in
theorem m_wrong {G : aG} {d n : Nat} {h : AH} {tm : Nat} {un sz sm tr ak bg mt : Int} {fs fn fe : Int → Int} {part : Int} (hp : inR part) (hm6 : 0 ≤ sm ∧ sm ≤ 6) (hok : nOK fn) (hc : 1 ≤ fs 3 ∧ fs 3 ≤ 6) (he : eOK fe) (h_this : h tm = some (aOb 11 (mO tm un sz sm tr ak bg mt))) (h_this_suit : h (tm + 1) = some (aIa G 32 fs)) (h_this_now : h (tm + 3) = some (aIa G 9 fn)) (h_this_seen : h (tm + 8) = some (aIa G 18 fe)) : aD G (d + 3) kX11_wrong [.ref tm, aI part] n h (some (aI (qWrong fs fn fe sm part))) := by
  refine aCt_of (lv := [some (.ref tm), some (aI part), none, none, none]) knX11_wrong.1 rfl rfl (Nat.le_of_ble_eq_true rfl) (fun x hG hsc X => ?_)
  subst hG
  have hk6 := hok.2.1
  obtain ⟨k, hk⟩ := Int.eq_ofNat_of_zero_le hk6.1
  obtain ⟨m, rfl⟩ := Int.eq_ofNat_of_zero_le hm6.1
  have hq : qWrong fs fn fe (m : Int) part = if 0 ≤ part ∧ part ≤ 1 then ((wrS (mF fn) (fs 3) fe k m part 30 : Nat) : Int) else -1 := by
    unfold qWrong
    rw [hk]
    rfl
  rw [hq] at X
  refine A_il1 X dX11_wrong_0 ?_
  refine A_dSi1 X (m_isTwo (by omega)) knX11_isTwo mlX11_119 dX11_wrong_1 ?_
  refine A_ifb_ne (t := 9) X dX11_wrong_4 (fun c4 => ?_) (fun c4 => by exact A_iconst X dX11_wrong_7 (A_ret X dX11_wrong_8 rfl ⟨congrArg (fun t => some (aI t)) (by rw [if_neg c4]), rfl, rfl⟩))
  rw [if_pos c4] at X
  refine A_iconst X dX11_wrong_9 ?_
  refine A_is2 X dX11_wrong_10 ?_
  refine A_iconst X dX11_wrong_11 ?_
  refine A_is3 X dX11_wrong_12 ?_
  refine lp_0 (P := fun i => ∀ (s : Nat) (u : Option Value), lo_c1 [u] = true → s = wrS (mF fn) (fs 3) fe k m part i → AW x 0 0 n h 13 [some (.ref tm), some (aI part), some (aI (s : Int)), some (aI (i : Int)), u] []) 30 ?_ ?_ 0 none rfl rfl
  · intro s u hu hs
    refine A_il3 X dX11_wrong_13 ?_
    refine A_bipush X dX11_wrong_14 ?_
    refine A_icmp_ge (t := 64) X (by omega) (by omega) dX11_wrong_16 (fun c16 => ?_) (fun c16 => by exfalso; omega)
    refine A_il2 X dX11_wrong_64 ?_
    exact A_ret X dX11_wrong_65 rfl ⟨congrArg (fun t => some (aI t)) (by rw [hs]), rfl, rfl⟩
  · intro i hi ih s u hu hs
    refine A_il3 X dX11_wrong_13 ?_
    refine A_bipush X dX11_wrong_14 ?_
    refine A_icmp_ge (t := 64) X (by omega) (by omega) dX11_wrong_16 (fun c16 => by exfalso; omega) (fun c16 => ?_)
    refine A_bipush X dX11_wrong_19 ?_
    refine A_il1 X dX11_wrong_21 ?_
    refine A_imul X dX11_wrong_22 ?_
    refine A_il3 X dX11_wrong_23 ?_
    refine A_iadd X dX11_wrong_24 ?_
    refine A_is4 X dX11_wrong_25 ?_ (hc := by simp only [lo_c1, List.all_cons, List.all_nil, Bool.and_true] at hu ⊢; exact hu)
    refine A_il2 X dX11_wrong_27 ?_
    refine A_il4 X dX11_wrong_28 ?_
    refine A_al0 X dX11_wrong_30 ?_
    refine A_getf X flX11_16 h_this rfl dX11_wrong_31 ?_
    refine A_bipush X dX11_wrong_34 ?_
    refine A_iald X h_this_now (by omega) dX11_wrong_36 ?_
    refine A_icmp_ge (t := 55) X (by omega) (by omega) dX11_wrong_37 (fun c37 => ?_) (fun c37 => ?_)
    · refine A_iconst X dX11_wrong_55 ?_
      refine A_ior X s 0 rfl rfl dX11_wrong_56 ?_
      refine A_is2 X dX11_wrong_57 ?_
      refine A_ii3 X dX11_wrong_58 ?_
      refine A_goto (t := 13) X dX11_wrong_61 ?_
      exact ih _ _ rfl (by rw [hs, wrS, if_neg (fun q => by omega)])
    · refine A_al0 X dX11_wrong_40 ?_
      refine A_il4 X dX11_wrong_41 ?_
      refine A_dVi1 X (m_isSo k m hk rfl (by omega) hok hc he (by omega) h_this h_this_suit h_this_now h_this_seen) h_this knX11_isSo mlX11_188 dX11_wrong_43 ?_
      refine A_ifb_eq (t := 55) X dX11_wrong_46 (fun c46 => ?_) (fun c46 => ?_)
      · refine A_iconst X dX11_wrong_55 ?_
        refine A_ior X s 0 rfl rfl dX11_wrong_56 ?_
        refine A_is2 X dX11_wrong_57 ?_
        refine A_ii3 X dX11_wrong_58 ?_
        refine A_goto (t := 13) X dX11_wrong_61 ?_
        exact ih _ _ rfl (by rw [hs, wrS, if_neg (fun q => c46 q.2)])
      · refine A_iconst X dX11_wrong_49 ?_
        refine A_il3 X dX11_wrong_50 ?_
        refine A_ishl X 1 i rfl rfl (by omega) (by have := p2k (show i ≤ 30 by omega); omega) dX11_wrong_51 ?_
        refine A_goto (t := 56) X dX11_wrong_52 ?_
        refine A_ior X s (1 * 2 ^ i) rfl rfl dX11_wrong_56 ?_
        refine A_is2 X dX11_wrong_57 ?_
        refine A_ii3 X dX11_wrong_58 ?_
        refine A_goto (t := 13) X dX11_wrong_61 ?_
        exact ih _ _ rfl (by rw [hs, wrS, if_pos ⟨by omega, c46⟩])
def qFoot (fn : Int → Int) (i : Int) : Int := if 0 ≤ i ∧ i ≤ fn 6 - 1 then mF fn i.toNat else -1
set_option maxRecDepth 100000 in
theorem m_foot {G : aG} {d n : Nat} {h : AH} {tm : Nat} {un sz sm tr ak bg mt : Int} {fn : Int → Int} {i : Int} (hi : inR i) (hok : nOK fn) (h_this : h tm = some (aOb 11 (mO tm un sz sm tr ak bg mt))) (h_this_now : h (tm + 3) = some (aIa G 9 fn)) : aD G (d + 1) kX11_foot [.ref tm, aI i] n h (some (aI (qFoot fn i))) := by
  refine aCt_of (lv := [some (.ref tm), some (aI i)]) knX11_foot.1 rfl rfl (Nat.le_of_ble_eq_true rfl) (fun x hG hsc X => ?_)
  subst hG
  have hk6 := hok.2.1
  refine A_il1 X dX11_foot_0 ?_
  refine A_i2l X (by omega) dX11_foot_1 ?_
  refine A_lconst (z := 0) X dX11_foot_2 ?_
  refine A_al0 X dX11_foot_3 ?_
  refine A_getf X flX11_16 h_this rfl dX11_foot_4 ?_
  refine A_bipush X dX11_foot_7 ?_
  refine A_iald X h_this_now (by omega) dX11_foot_9 ?_
  refine A_iconst X dX11_foot_10 ?_
  refine A_isub X dX11_foot_11 ?_
  refine A_i2l X (by omega) dX11_foot_12 ?_
  refine A_dSi3 X (m_in (by omega) (by omega) (by omega)) knX11_in mlX11_57 dX11_foot_13 ?_
  refine A_ifb_eq (t := 27) X dX11_foot_16 (fun c16 => ?_) (fun c16 => ?_)
  · refine A_iconst X dX11_foot_27 ?_
    exact A_ret X dX11_foot_28 rfl ⟨congrArg (fun t => some (aI t)) (by rw [qFoot, if_neg c16]), rfl, rfl⟩
  · refine A_al0 X dX11_foot_19 ?_
    refine A_il1 X dX11_foot_20 ?_
    refine A_dVi1 X (m_footOf i.toNat (by omega) (by omega) hok h_this h_this_now) h_this knX11_footOf mlX11_140 dX11_foot_21 ?_
    refine A_goto (t := 28) X dX11_foot_24 ?_
    exact A_ret X dX11_foot_28 rfl ⟨congrArg (fun t => some (aI t)) (by rw [qFoot, if_pos c16]), rfl, rfl⟩
def qWorn (fs fn : Int → Int) (foot cell : Int) : Int := if (0 ≤ foot ∧ foot ≤ 1) ∧ (0 ≤ cell ∧ cell ≤ fs 3 - 1) then wrn (flp (mF fn) (-1)) (fs 3) foot cell (fn 6).toNat else -1
set_option maxRecDepth 100000 in
theorem m_worn {G : aG} {d n : Nat} {h : AH} {tm : Nat} {un sz sm tr ak bg mt : Int} {fs fn : Int → Int} {foot cell : Int} (hf : inR foot) (hce : inR cell) (hok : nOK fn) (hc : 1 ≤ fs 3 ∧ fs 3 ≤ 6) (h_this : h tm = some (aOb 11 (mO tm un sz sm tr ak bg mt))) (h_this_suit : h (tm + 1) = some (aIa G 32 fs)) (h_this_now : h (tm + 3) = some (aIa G 9 fn)) : aD G (d + 2) kX11_worn [.ref tm, aI foot, aI cell] n h (some (aI (qWorn fs fn foot cell))) := by
  refine aCt_of (lv := [some (.ref tm), some (aI foot), some (aI cell)]) knX11_worn.1 rfl rfl (Nat.le_of_ble_eq_true rfl) (fun x hG hsc X => ?_)
  subst hG
  have hk6 := hok.2.1
  refine A_il1 X dX11_worn_0 ?_
  refine A_dSi1 X (m_isTwo (by omega)) knX11_isTwo mlX11_119 dX11_worn_1 ?_
  refine A_ifb_eq (t := 25) X dX11_worn_4 (fun c4 => ?_) (fun c4 => ?_)
  · refine A_iconst X dX11_worn_25 ?_
    exact A_ret X dX11_worn_26 rfl ⟨congrArg (fun t => some (aI t)) (by rw [qWorn, if_neg (fun q => c4 q.1)]), rfl, rfl⟩
  · refine A_al0 X dX11_worn_7 ?_
    refine A_il2 X dX11_worn_8 ?_
    refine A_dVi1 X (m_isCell (by omega) hc h_this h_this_suit) h_this knX11_isCell mlX11_183 dX11_worn_9 ?_
    refine A_ifb_eq (t := 25) X dX11_worn_12 (fun c12 => ?_) (fun c12 => ?_)
    · refine A_iconst X dX11_worn_25 ?_
      exact A_ret X dX11_worn_26 rfl ⟨congrArg (fun t => some (aI t)) (by rw [qWorn, if_neg (fun q => c12 q.2)]), rfl, rfl⟩
    · refine A_al0 X dX11_worn_15 ?_
      refine A_il1 X dX11_worn_16 ?_
      refine A_il2 X dX11_worn_17 ?_
      refine A_iconst X dX11_worn_18 ?_
      refine A_dVi3 X (m_wornBy (fn 6).toNat (by omega) hok hc hf hce (by omega) h_this h_this_suit h_this_now) h_this knX11_wornBy mlX11_146 dX11_worn_19 ?_
      refine A_goto (t := 26) X dX11_worn_22 ?_
      exact A_ret X dX11_worn_26 rfl ⟨congrArg (fun t => some (aI t)) (by rw [qWorn, if_pos ⟨c4, c12⟩]), rfl, rfl⟩
/-- runs of steps -/
abbrev smB (ft : Nat → Int) (i : Nat) : Prop := 0 < i ∧ ft i = ft (i - 1)
def rnL (ft : Nat → Int) : Nat → Int
  | 0 => 0
  | k + 1 => if smB ft k then rnL ft k + 1 else 1
def rnC (ft : Nat → Int) (hp : Int) : Nat → Int
  | 0 => -9
  | k + 1 => if rnC ft hp k = -9 ∧ smB ft k ∧ hp < rnL ft k then (k : Int) else rnC ft hp k
def rnM (ft : Nat → Int) : Nat → Int
  | 0 => 0
  | k + 1 => if rnM ft k < rnL ft (k + 1) then rnL ft (k + 1) else rnM ft k
def rnD (ft : Nat → Int) : Nat → Int
  | 0 => 0
  | k + 1 => rnD ft k + (if 0 < k ∧ ¬ smB ft k then 1 else 0)
theorem rn_b (ft : Nat → Int) (hp : Int) : ∀ k : Nat, (0 ≤ rnL ft k ∧ rnL ft k ≤ (k : Int)) ∧ (-9 ≤ rnC ft hp k ∧ rnC ft hp k ≤ (k : Int)) ∧ (0 ≤ rnM ft k ∧ rnM ft k ≤ (k : Int)) ∧ (0 ≤ rnD ft k ∧ rnD ft k ≤ (k : Int))
  | 0 => by simp [rnL, rnC, rnM, rnD]
  | k + 1 => by
    obtain ⟨h1, h2, h3, h4⟩ := rn_b ft hp k
    have g1 : 0 ≤ rnL ft (k + 1) ∧ rnL ft (k + 1) ≤ ((k + 1 : Nat) : Int) := by unfold rnL; split <;> omega
    refine ⟨g1, ?_, ?_, ?_⟩
    · unfold rnC; split <;> omega
    · unfold rnM; split <;> omega
    · unfold rnD; split <;> omega
def qJudge (fs fn : Int → Int) (w : Int) : Int := if 0 ≤ w ∧ w ≤ 2 then (if w = 0 then rnC (mF fn) (fs 2) (fn 6).toNat else if w = 1 then rnM (mF fn) (fn 6).toNat else rnD (mF fn) (fn 6).toNat) else -1
set_option maxRecDepth 100000 in
theorem m_judge {G : aG} {d n : Nat} {h : AH} {tm : Nat} {un sz sm tr ak bg mt : Int} {fs fn : Int → Int} {w : Int} (hw : inR w) (hok : nOK fn) (hc : 0 ≤ fs 2 ∧ fs 2 ≤ 3) (h_this : h tm = some (aOb 11 (mO tm un sz sm tr ak bg mt))) (h_this_suit : h (tm + 1) = some (aIa G 32 fs)) (h_this_now : h (tm + 3) = some (aIa G 9 fn)) : aD G (d + 1) kX11_judge [.ref tm, aI w] n h (some (aI (qJudge fs fn w))) := by
  refine aCt_of (lv := [some (.ref tm), some (aI w), none, none, none, none, none, none]) knX11_judge.1 rfl rfl (Nat.le_of_ble_eq_true rfl) (fun x hG hsc X => ?_)
  subst hG
  have hk6 := hok.2.1
  obtain ⟨k, hk⟩ := Int.eq_ofNat_of_zero_le hk6.1
  have hkn : (fn 6).toNat = k := by omega
  refine A_il1 X dX11_judge_0 ?_
  refine A_i2l X (by omega) dX11_judge_1 ?_
  refine A_lconst (z := 0) X dX11_judge_2 ?_
  refine A_ldc2 (z := 2) X kcX11_117 dX11_judge_3 ?_
  refine A_dSi3 X (m_in (by omega) (by omega) (by omega)) knX11_in mlX11_57 dX11_judge_6 ?_
  refine A_ifb_ne (t := 14) X dX11_judge_9 (fun c9 => ?_) (fun c9 => by exact A_iconst X dX11_judge_12 (A_ret X dX11_judge_13 rfl ⟨congrArg (fun t => some (aI t)) (by rw [qJudge, if_neg c9]), rfl, rfl⟩))
  rw [qJudge, if_pos c9, hkn] at X
  refine A_bipush X dX11_judge_14 ?_
  refine A_is2 X dX11_judge_16 ?_
  refine A_iconst X dX11_judge_17 ?_
  refine A_is3 X dX11_judge_18 ?_
  refine A_iconst X dX11_judge_19 ?_
  refine A_is4 X dX11_judge_20 ?_
  refine A_iconst X dX11_judge_22 ?_
  refine A_is5 X dX11_judge_23 ?_
  refine A_iconst X dX11_judge_25 ?_
  refine A_is6 X dX11_judge_26 ?_
  refine lp_0 (P := fun i => ∀ (a b c e : Int) (u : Option Value), lo_c1 [u] = true → a = rnC (mF fn) (fs 2) i → b = rnM (mF fn) i → c = rnD (mF fn) i → e = rnL (mF fn) i → AW x 0 0 n h 28 [some (.ref tm), some (aI w), some (aI a), some (aI b), some (aI c), some (aI e), some (aI (i : Int)), u] []) k ?_ ?_ (-9) 0 0 0 none rfl rfl rfl rfl rfl
  · intro a b c e u hu ha hb hc2 he
    refine A_il6 X dX11_judge_28 ?_
    refine A_al0 X dX11_judge_30 ?_
    refine A_getf X flX11_16 h_this rfl dX11_judge_31 ?_
    refine A_bipush X dX11_judge_34 ?_
    refine A_iald X h_this_now (by omega) dX11_judge_36 ?_
    refine A_icmp_ge (t := 152) X (by omega) (by omega) dX11_judge_37 (fun c37 => ?_) (fun c37 => by exfalso; omega)
    refine A_il1 X dX11_judge_152 ?_
    refine A_if_ne (t := 160) X (by omega) dX11_judge_153 (fun c153 => ?_) (fun c153 => ?_)
    · refine A_il1 X dX11_judge_160 ?_
      refine A_iconst X dX11_judge_161 ?_
      refine A_icmp_ne (t := 169) X (by omega) (by omega) dX11_judge_162 (fun c162 => ?_) (fun c162 => ?_)
      · refine A_il4 X dX11_judge_169 ?_
        exact A_ret X dX11_judge_171 rfl ⟨congrArg (fun t => some (aI t)) (by rw [if_neg (by omega), if_neg c162, hc2]), rfl, rfl⟩
      · refine A_il3 X dX11_judge_165 ?_
        refine A_goto (t := 171) X dX11_judge_166 ?_
        exact A_ret X dX11_judge_171 rfl ⟨congrArg (fun t => some (aI t)) (by rw [if_neg (by omega), if_pos c162, hb]), rfl, rfl⟩
    · refine A_il2 X dX11_judge_156 ?_
      refine A_goto (t := 171) X dX11_judge_157 ?_
      exact A_ret X dX11_judge_171 rfl ⟨congrArg (fun t => some (aI t)) (by rw [if_pos c153, ha]), rfl, rfl⟩
  · intro i hi ih a b c e u hu ha hb hc2 he
    obtain ⟨b1, b2, b3, b4⟩ := rn_b (mF fn) (fs 2) i
    have hf1 := mF_b fn i
    have hf2 := mF_b fn (i - 1)
    refine A_il6 X dX11_judge_28 ?_
    refine A_al0 X dX11_judge_30 ?_
    refine A_getf X flX11_16 h_this rfl dX11_judge_31 ?_
    refine A_bipush X dX11_judge_34 ?_
    refine A_iald X h_this_now (by omega) dX11_judge_36 ?_
    refine A_icmp_ge (t := 152) X (by omega) (by omega) dX11_judge_37 (fun c37 => by exfalso; omega) (fun c37 => ?_)
    refine A_il6 X dX11_judge_40 ?_
    refine A_if_le (t := 66) X (by omega) dX11_judge_42 (fun c42 => ?_) (fun c42 => ?_)
    · refine A_iconst X dX11_judge_66 ?_
      refine A_is7 X dX11_judge_67 ?_ (hc := by simp only [lo_c1, List.all_cons, List.all_nil, Bool.and_true] at hu ⊢; exact hu)
      refine A_il2 X dX11_judge_69 ?_
      refine A_bipush X dX11_judge_70 ?_
      refine A_icmp_ne (t := 96) X (by omega) (by omega) dX11_judge_72 (fun c72 => ?_) (fun c72 => ?_)
      · refine A_il2 X dX11_judge_96 ?_
        refine A_is2 X dX11_judge_97 ?_
        refine A_il7 X dX11_judge_98 ?_
        refine A_if_eq (t := 110) X (by omega) dX11_judge_100 (fun c100 => ?_) (fun c100 => by exfalso; omega)
        refine A_iconst X dX11_judge_110 ?_
        refine A_is5 X dX11_judge_111 ?_
        refine A_il5 X dX11_judge_113 ?_
        refine A_il3 X dX11_judge_115 ?_
        refine A_icmp_le (t := 124) X (by omega) (by omega) dX11_judge_116 (fun c116 => ?_) (fun c116 => ?_)
        · refine A_il3 X dX11_judge_124 ?_
          refine A_is3 X dX11_judge_125 ?_
          refine A_il4 X dX11_judge_126 ?_
          refine A_il6 X dX11_judge_128 ?_
          refine A_if_le (t := 142) X (by omega) dX11_judge_130 (fun c130 => ?_) (fun c130 => ?_)
          · refine A_iconst X dX11_judge_142 ?_
            refine A_iadd X dX11_judge_143 ?_
            refine A_is4 X dX11_judge_144 ?_
            refine A_ii6 X dX11_judge_146 ?_
            refine A_goto (t := 28) X dX11_judge_149 ?_
            exact ih _ _ _ _ _ rfl (by simp only [rnC]; (repeat' split) <;> omega) (by simp only [rnM, rnL]; (repeat' split) <;> omega) (by simp only [rnD]; (repeat' split) <;> omega) (by simp only [rnL]; (repeat' split) <;> omega)
          · refine A_il7 X dX11_judge_133 ?_
            refine A_if_ne (t := 142) X (by omega) dX11_judge_135 (fun c135 => by exfalso; omega) (fun c135 => ?_)
            refine A_iconst X dX11_judge_138 ?_
            refine A_goto (t := 143) X dX11_judge_139 ?_
            refine A_iadd X dX11_judge_143 ?_
            refine A_is4 X dX11_judge_144 ?_
            refine A_ii6 X dX11_judge_146 ?_
            refine A_goto (t := 28) X dX11_judge_149 ?_
            exact ih _ _ _ _ _ rfl (by simp only [rnC]; (repeat' split) <;> omega) (by simp only [rnM, rnL]; (repeat' split) <;> omega) (by simp only [rnD]; (repeat' split) <;> omega) (by simp only [rnL]; (repeat' split) <;> omega)
        · refine A_il5 X dX11_judge_119 ?_
          refine A_goto (t := 125) X dX11_judge_121 ?_
          refine A_is3 X dX11_judge_125 ?_
          refine A_il4 X dX11_judge_126 ?_
          refine A_il6 X dX11_judge_128 ?_
          refine A_if_le (t := 142) X (by omega) dX11_judge_130 (fun c130 => ?_) (fun c130 => ?_)
          · refine A_iconst X dX11_judge_142 ?_
            refine A_iadd X dX11_judge_143 ?_
            refine A_is4 X dX11_judge_144 ?_
            refine A_ii6 X dX11_judge_146 ?_
            refine A_goto (t := 28) X dX11_judge_149 ?_
            exact ih _ _ _ _ _ rfl (by simp only [rnC]; (repeat' split) <;> omega) (by simp only [rnM, rnL]; (repeat' split) <;> omega) (by simp only [rnD]; (repeat' split) <;> omega) (by simp only [rnL]; (repeat' split) <;> omega)
          · refine A_il7 X dX11_judge_133 ?_
            refine A_if_ne (t := 142) X (by omega) dX11_judge_135 (fun c135 => by exfalso; omega) (fun c135 => ?_)
            refine A_iconst X dX11_judge_138 ?_
            refine A_goto (t := 143) X dX11_judge_139 ?_
            refine A_iadd X dX11_judge_143 ?_
            refine A_is4 X dX11_judge_144 ?_
            refine A_ii6 X dX11_judge_146 ?_
            refine A_goto (t := 28) X dX11_judge_149 ?_
            exact ih _ _ _ _ _ rfl (by simp only [rnC]; (repeat' split) <;> omega) (by simp only [rnM, rnL]; (repeat' split) <;> omega) (by simp only [rnD]; (repeat' split) <;> omega) (by simp only [rnL]; (repeat' split) <;> omega)
      · refine A_il7 X dX11_judge_75 ?_
        refine A_if_eq (t := 96) X (by omega) dX11_judge_77 (fun c77 => ?_) (fun c77 => by exfalso; omega)
        refine A_il2 X dX11_judge_96 ?_
        refine A_is2 X dX11_judge_97 ?_
        refine A_il7 X dX11_judge_98 ?_
        refine A_if_eq (t := 110) X (by omega) dX11_judge_100 (fun c100 => ?_) (fun c100 => by exfalso; omega)
        refine A_iconst X dX11_judge_110 ?_
        refine A_is5 X dX11_judge_111 ?_
        refine A_il5 X dX11_judge_113 ?_
        refine A_il3 X dX11_judge_115 ?_
        refine A_icmp_le (t := 124) X (by omega) (by omega) dX11_judge_116 (fun c116 => ?_) (fun c116 => ?_)
        · refine A_il3 X dX11_judge_124 ?_
          refine A_is3 X dX11_judge_125 ?_
          refine A_il4 X dX11_judge_126 ?_
          refine A_il6 X dX11_judge_128 ?_
          refine A_if_le (t := 142) X (by omega) dX11_judge_130 (fun c130 => ?_) (fun c130 => ?_)
          · refine A_iconst X dX11_judge_142 ?_
            refine A_iadd X dX11_judge_143 ?_
            refine A_is4 X dX11_judge_144 ?_
            refine A_ii6 X dX11_judge_146 ?_
            refine A_goto (t := 28) X dX11_judge_149 ?_
            exact ih _ _ _ _ _ rfl (by simp only [rnC]; (repeat' split) <;> omega) (by simp only [rnM, rnL]; (repeat' split) <;> omega) (by simp only [rnD]; (repeat' split) <;> omega) (by simp only [rnL]; (repeat' split) <;> omega)
          · refine A_il7 X dX11_judge_133 ?_
            refine A_if_ne (t := 142) X (by omega) dX11_judge_135 (fun c135 => by exfalso; omega) (fun c135 => ?_)
            refine A_iconst X dX11_judge_138 ?_
            refine A_goto (t := 143) X dX11_judge_139 ?_
            refine A_iadd X dX11_judge_143 ?_
            refine A_is4 X dX11_judge_144 ?_
            refine A_ii6 X dX11_judge_146 ?_
            refine A_goto (t := 28) X dX11_judge_149 ?_
            exact ih _ _ _ _ _ rfl (by simp only [rnC]; (repeat' split) <;> omega) (by simp only [rnM, rnL]; (repeat' split) <;> omega) (by simp only [rnD]; (repeat' split) <;> omega) (by simp only [rnL]; (repeat' split) <;> omega)
        · refine A_il5 X dX11_judge_119 ?_
          refine A_goto (t := 125) X dX11_judge_121 ?_
          refine A_is3 X dX11_judge_125 ?_
          refine A_il4 X dX11_judge_126 ?_
          refine A_il6 X dX11_judge_128 ?_
          refine A_if_le (t := 142) X (by omega) dX11_judge_130 (fun c130 => ?_) (fun c130 => ?_)
          · refine A_iconst X dX11_judge_142 ?_
            refine A_iadd X dX11_judge_143 ?_
            refine A_is4 X dX11_judge_144 ?_
            refine A_ii6 X dX11_judge_146 ?_
            refine A_goto (t := 28) X dX11_judge_149 ?_
            exact ih _ _ _ _ _ rfl (by simp only [rnC]; (repeat' split) <;> omega) (by simp only [rnM, rnL]; (repeat' split) <;> omega) (by simp only [rnD]; (repeat' split) <;> omega) (by simp only [rnL]; (repeat' split) <;> omega)
          · refine A_il7 X dX11_judge_133 ?_
            refine A_if_ne (t := 142) X (by omega) dX11_judge_135 (fun c135 => by exfalso; omega) (fun c135 => ?_)
            refine A_iconst X dX11_judge_138 ?_
            refine A_goto (t := 143) X dX11_judge_139 ?_
            refine A_iadd X dX11_judge_143 ?_
            refine A_is4 X dX11_judge_144 ?_
            refine A_ii6 X dX11_judge_146 ?_
            refine A_goto (t := 28) X dX11_judge_149 ?_
            exact ih _ _ _ _ _ rfl (by simp only [rnC]; (repeat' split) <;> omega) (by simp only [rnM, rnL]; (repeat' split) <;> omega) (by simp only [rnD]; (repeat' split) <;> omega) (by simp only [rnL]; (repeat' split) <;> omega)
    · refine A_al0 X dX11_judge_45 ?_
      refine A_il6 X dX11_judge_46 ?_
      refine A_dVi1 X (m_footOf i rfl (by omega) hok h_this h_this_now) h_this knX11_footOf mlX11_140 dX11_judge_48 ?_
      refine A_al0 X dX11_judge_51 ?_
      refine A_il6 X dX11_judge_52 ?_
      refine A_iconst X dX11_judge_54 ?_
      refine A_isub X dX11_judge_55 ?_
      refine A_dVi1 X (m_footOf (i - 1) (by omega) (by omega) hok h_this h_this_now) h_this knX11_footOf mlX11_140 dX11_judge_56 ?_
      refine A_icmp_ne (t := 66) X (by omega) (by omega) dX11_judge_59 (fun c59 => ?_) (fun c59 => ?_)
      · refine A_iconst X dX11_judge_66 ?_
        refine A_is7 X dX11_judge_67 ?_ (hc := by simp only [lo_c1, List.all_cons, List.all_nil, Bool.and_true] at hu ⊢; exact hu)
        refine A_il2 X dX11_judge_69 ?_
        refine A_bipush X dX11_judge_70 ?_
        refine A_icmp_ne (t := 96) X (by omega) (by omega) dX11_judge_72 (fun c72 => ?_) (fun c72 => ?_)
        · refine A_il2 X dX11_judge_96 ?_
          refine A_is2 X dX11_judge_97 ?_
          refine A_il7 X dX11_judge_98 ?_
          refine A_if_eq (t := 110) X (by omega) dX11_judge_100 (fun c100 => ?_) (fun c100 => by exfalso; omega)
          refine A_iconst X dX11_judge_110 ?_
          refine A_is5 X dX11_judge_111 ?_
          refine A_il5 X dX11_judge_113 ?_
          refine A_il3 X dX11_judge_115 ?_
          refine A_icmp_le (t := 124) X (by omega) (by omega) dX11_judge_116 (fun c116 => ?_) (fun c116 => ?_)
          · refine A_il3 X dX11_judge_124 ?_
            refine A_is3 X dX11_judge_125 ?_
            refine A_il4 X dX11_judge_126 ?_
            refine A_il6 X dX11_judge_128 ?_
            refine A_if_le (t := 142) X (by omega) dX11_judge_130 (fun c130 => ?_) (fun c130 => ?_)
            · refine A_iconst X dX11_judge_142 ?_
              refine A_iadd X dX11_judge_143 ?_
              refine A_is4 X dX11_judge_144 ?_
              refine A_ii6 X dX11_judge_146 ?_
              refine A_goto (t := 28) X dX11_judge_149 ?_
              exact ih _ _ _ _ _ rfl (by simp only [rnC]; (repeat' split) <;> omega) (by simp only [rnM, rnL]; (repeat' split) <;> omega) (by simp only [rnD]; (repeat' split) <;> omega) (by simp only [rnL]; (repeat' split) <;> omega)
            · refine A_il7 X dX11_judge_133 ?_
              refine A_if_ne (t := 142) X (by omega) dX11_judge_135 (fun c135 => by exfalso; omega) (fun c135 => ?_)
              refine A_iconst X dX11_judge_138 ?_
              refine A_goto (t := 143) X dX11_judge_139 ?_
              refine A_iadd X dX11_judge_143 ?_
              refine A_is4 X dX11_judge_144 ?_
              refine A_ii6 X dX11_judge_146 ?_
              refine A_goto (t := 28) X dX11_judge_149 ?_
              exact ih _ _ _ _ _ rfl (by simp only [rnC]; (repeat' split) <;> omega) (by simp only [rnM, rnL]; (repeat' split) <;> omega) (by simp only [rnD]; (repeat' split) <;> omega) (by simp only [rnL]; (repeat' split) <;> omega)
          · refine A_il5 X dX11_judge_119 ?_
            refine A_goto (t := 125) X dX11_judge_121 ?_
            refine A_is3 X dX11_judge_125 ?_
            refine A_il4 X dX11_judge_126 ?_
            refine A_il6 X dX11_judge_128 ?_
            refine A_if_le (t := 142) X (by omega) dX11_judge_130 (fun c130 => ?_) (fun c130 => ?_)
            · refine A_iconst X dX11_judge_142 ?_
              refine A_iadd X dX11_judge_143 ?_
              refine A_is4 X dX11_judge_144 ?_
              refine A_ii6 X dX11_judge_146 ?_
              refine A_goto (t := 28) X dX11_judge_149 ?_
              exact ih _ _ _ _ _ rfl (by simp only [rnC]; (repeat' split) <;> omega) (by simp only [rnM, rnL]; (repeat' split) <;> omega) (by simp only [rnD]; (repeat' split) <;> omega) (by simp only [rnL]; (repeat' split) <;> omega)
            · refine A_il7 X dX11_judge_133 ?_
              refine A_if_ne (t := 142) X (by omega) dX11_judge_135 (fun c135 => by exfalso; omega) (fun c135 => ?_)
              refine A_iconst X dX11_judge_138 ?_
              refine A_goto (t := 143) X dX11_judge_139 ?_
              refine A_iadd X dX11_judge_143 ?_
              refine A_is4 X dX11_judge_144 ?_
              refine A_ii6 X dX11_judge_146 ?_
              refine A_goto (t := 28) X dX11_judge_149 ?_
              exact ih _ _ _ _ _ rfl (by simp only [rnC]; (repeat' split) <;> omega) (by simp only [rnM, rnL]; (repeat' split) <;> omega) (by simp only [rnD]; (repeat' split) <;> omega) (by simp only [rnL]; (repeat' split) <;> omega)
        · refine A_il7 X dX11_judge_75 ?_
          refine A_if_eq (t := 96) X (by omega) dX11_judge_77 (fun c77 => ?_) (fun c77 => by exfalso; omega)
          refine A_il2 X dX11_judge_96 ?_
          refine A_is2 X dX11_judge_97 ?_
          refine A_il7 X dX11_judge_98 ?_
          refine A_if_eq (t := 110) X (by omega) dX11_judge_100 (fun c100 => ?_) (fun c100 => by exfalso; omega)
          refine A_iconst X dX11_judge_110 ?_
          refine A_is5 X dX11_judge_111 ?_
          refine A_il5 X dX11_judge_113 ?_
          refine A_il3 X dX11_judge_115 ?_
          refine A_icmp_le (t := 124) X (by omega) (by omega) dX11_judge_116 (fun c116 => ?_) (fun c116 => ?_)
          · refine A_il3 X dX11_judge_124 ?_
            refine A_is3 X dX11_judge_125 ?_
            refine A_il4 X dX11_judge_126 ?_
            refine A_il6 X dX11_judge_128 ?_
            refine A_if_le (t := 142) X (by omega) dX11_judge_130 (fun c130 => ?_) (fun c130 => ?_)
            · refine A_iconst X dX11_judge_142 ?_
              refine A_iadd X dX11_judge_143 ?_
              refine A_is4 X dX11_judge_144 ?_
              refine A_ii6 X dX11_judge_146 ?_
              refine A_goto (t := 28) X dX11_judge_149 ?_
              exact ih _ _ _ _ _ rfl (by simp only [rnC]; (repeat' split) <;> omega) (by simp only [rnM, rnL]; (repeat' split) <;> omega) (by simp only [rnD]; (repeat' split) <;> omega) (by simp only [rnL]; (repeat' split) <;> omega)
            · refine A_il7 X dX11_judge_133 ?_
              refine A_if_ne (t := 142) X (by omega) dX11_judge_135 (fun c135 => by exfalso; omega) (fun c135 => ?_)
              refine A_iconst X dX11_judge_138 ?_
              refine A_goto (t := 143) X dX11_judge_139 ?_
              refine A_iadd X dX11_judge_143 ?_
              refine A_is4 X dX11_judge_144 ?_
              refine A_ii6 X dX11_judge_146 ?_
              refine A_goto (t := 28) X dX11_judge_149 ?_
              exact ih _ _ _ _ _ rfl (by simp only [rnC]; (repeat' split) <;> omega) (by simp only [rnM, rnL]; (repeat' split) <;> omega) (by simp only [rnD]; (repeat' split) <;> omega) (by simp only [rnL]; (repeat' split) <;> omega)
          · refine A_il5 X dX11_judge_119 ?_
            refine A_goto (t := 125) X dX11_judge_121 ?_
            refine A_is3 X dX11_judge_125 ?_
            refine A_il4 X dX11_judge_126 ?_
            refine A_il6 X dX11_judge_128 ?_
            refine A_if_le (t := 142) X (by omega) dX11_judge_130 (fun c130 => ?_) (fun c130 => ?_)
            · refine A_iconst X dX11_judge_142 ?_
              refine A_iadd X dX11_judge_143 ?_
              refine A_is4 X dX11_judge_144 ?_
              refine A_ii6 X dX11_judge_146 ?_
              refine A_goto (t := 28) X dX11_judge_149 ?_
              exact ih _ _ _ _ _ rfl (by simp only [rnC]; (repeat' split) <;> omega) (by simp only [rnM, rnL]; (repeat' split) <;> omega) (by simp only [rnD]; (repeat' split) <;> omega) (by simp only [rnL]; (repeat' split) <;> omega)
            · refine A_il7 X dX11_judge_133 ?_
              refine A_if_ne (t := 142) X (by omega) dX11_judge_135 (fun c135 => by exfalso; omega) (fun c135 => ?_)
              refine A_iconst X dX11_judge_138 ?_
              refine A_goto (t := 143) X dX11_judge_139 ?_
              refine A_iadd X dX11_judge_143 ?_
              refine A_is4 X dX11_judge_144 ?_
              refine A_ii6 X dX11_judge_146 ?_
              refine A_goto (t := 28) X dX11_judge_149 ?_
              exact ih _ _ _ _ _ rfl (by simp only [rnC]; (repeat' split) <;> omega) (by simp only [rnM, rnL]; (repeat' split) <;> omega) (by simp only [rnD]; (repeat' split) <;> omega) (by simp only [rnL]; (repeat' split) <;> omega)
      · refine A_iconst X dX11_judge_62 ?_
        refine A_goto (t := 67) X dX11_judge_63 ?_
        refine A_is7 X dX11_judge_67 ?_ (hc := by simp only [lo_c1, List.all_cons, List.all_nil, Bool.and_true] at hu ⊢; exact hu)
        refine A_il2 X dX11_judge_69 ?_
        refine A_bipush X dX11_judge_70 ?_
        refine A_icmp_ne (t := 96) X (by omega) (by omega) dX11_judge_72 (fun c72 => ?_) (fun c72 => ?_)
        · refine A_il2 X dX11_judge_96 ?_
          refine A_is2 X dX11_judge_97 ?_
          refine A_il7 X dX11_judge_98 ?_
          refine A_if_eq (t := 110) X (by omega) dX11_judge_100 (fun c100 => by exfalso; omega) (fun c100 => ?_)
          refine A_il5 X dX11_judge_103 ?_
          refine A_iconst X dX11_judge_105 ?_
          refine A_iadd X dX11_judge_106 ?_
          refine A_goto (t := 111) X dX11_judge_107 ?_
          refine A_is5 X dX11_judge_111 ?_
          refine A_il5 X dX11_judge_113 ?_
          refine A_il3 X dX11_judge_115 ?_
          refine A_icmp_le (t := 124) X (by omega) (by omega) dX11_judge_116 (fun c116 => ?_) (fun c116 => ?_)
          · refine A_il3 X dX11_judge_124 ?_
            refine A_is3 X dX11_judge_125 ?_
            refine A_il4 X dX11_judge_126 ?_
            refine A_il6 X dX11_judge_128 ?_
            refine A_if_le (t := 142) X (by omega) dX11_judge_130 (fun c130 => ?_) (fun c130 => ?_)
            · refine A_iconst X dX11_judge_142 ?_
              refine A_iadd X dX11_judge_143 ?_
              refine A_is4 X dX11_judge_144 ?_
              refine A_ii6 X dX11_judge_146 ?_
              refine A_goto (t := 28) X dX11_judge_149 ?_
              exact ih _ _ _ _ _ rfl (by simp only [rnC]; (repeat' split) <;> omega) (by simp only [rnM, rnL]; (repeat' split) <;> omega) (by simp only [rnD]; (repeat' split) <;> omega) (by simp only [rnL]; (repeat' split) <;> omega)
            · refine A_il7 X dX11_judge_133 ?_
              refine A_if_ne (t := 142) X (by omega) dX11_judge_135 (fun c135 => ?_) (fun c135 => by exfalso; omega)
              refine A_iconst X dX11_judge_142 ?_
              refine A_iadd X dX11_judge_143 ?_
              refine A_is4 X dX11_judge_144 ?_
              refine A_ii6 X dX11_judge_146 ?_
              refine A_goto (t := 28) X dX11_judge_149 ?_
              exact ih _ _ _ _ _ rfl (by simp only [rnC]; (repeat' split) <;> omega) (by simp only [rnM, rnL]; (repeat' split) <;> omega) (by simp only [rnD]; (repeat' split) <;> omega) (by simp only [rnL]; (repeat' split) <;> omega)
          · refine A_il5 X dX11_judge_119 ?_
            refine A_goto (t := 125) X dX11_judge_121 ?_
            refine A_is3 X dX11_judge_125 ?_
            refine A_il4 X dX11_judge_126 ?_
            refine A_il6 X dX11_judge_128 ?_
            refine A_if_le (t := 142) X (by omega) dX11_judge_130 (fun c130 => ?_) (fun c130 => ?_)
            · refine A_iconst X dX11_judge_142 ?_
              refine A_iadd X dX11_judge_143 ?_
              refine A_is4 X dX11_judge_144 ?_
              refine A_ii6 X dX11_judge_146 ?_
              refine A_goto (t := 28) X dX11_judge_149 ?_
              exact ih _ _ _ _ _ rfl (by simp only [rnC]; (repeat' split) <;> omega) (by simp only [rnM, rnL]; (repeat' split) <;> omega) (by simp only [rnD]; (repeat' split) <;> omega) (by simp only [rnL]; (repeat' split) <;> omega)
            · refine A_il7 X dX11_judge_133 ?_
              refine A_if_ne (t := 142) X (by omega) dX11_judge_135 (fun c135 => ?_) (fun c135 => by exfalso; omega)
              refine A_iconst X dX11_judge_142 ?_
              refine A_iadd X dX11_judge_143 ?_
              refine A_is4 X dX11_judge_144 ?_
              refine A_ii6 X dX11_judge_146 ?_
              refine A_goto (t := 28) X dX11_judge_149 ?_
              exact ih _ _ _ _ _ rfl (by simp only [rnC]; (repeat' split) <;> omega) (by simp only [rnM, rnL]; (repeat' split) <;> omega) (by simp only [rnD]; (repeat' split) <;> omega) (by simp only [rnL]; (repeat' split) <;> omega)
        · refine A_il7 X dX11_judge_75 ?_
          refine A_if_eq (t := 96) X (by omega) dX11_judge_77 (fun c77 => by exfalso; omega) (fun c77 => ?_)
          refine A_il5 X dX11_judge_80 ?_
          refine A_al0 X dX11_judge_82 ?_
          refine A_getf X flX11_7 h_this rfl dX11_judge_83 ?_
          refine A_iconst X dX11_judge_86 ?_
          refine A_iald X h_this_suit (by omega) dX11_judge_87 ?_
          refine A_icmp_le (t := 96) X (by omega) (by omega) dX11_judge_88 (fun c88 => ?_) (fun c88 => ?_)
          · refine A_il2 X dX11_judge_96 ?_
            refine A_is2 X dX11_judge_97 ?_
            refine A_il7 X dX11_judge_98 ?_
            refine A_if_eq (t := 110) X (by omega) dX11_judge_100 (fun c100 => by exfalso; omega) (fun c100 => ?_)
            refine A_il5 X dX11_judge_103 ?_
            refine A_iconst X dX11_judge_105 ?_
            refine A_iadd X dX11_judge_106 ?_
            refine A_goto (t := 111) X dX11_judge_107 ?_
            refine A_is5 X dX11_judge_111 ?_
            refine A_il5 X dX11_judge_113 ?_
            refine A_il3 X dX11_judge_115 ?_
            refine A_icmp_le (t := 124) X (by omega) (by omega) dX11_judge_116 (fun c116 => ?_) (fun c116 => ?_)
            · refine A_il3 X dX11_judge_124 ?_
              refine A_is3 X dX11_judge_125 ?_
              refine A_il4 X dX11_judge_126 ?_
              refine A_il6 X dX11_judge_128 ?_
              refine A_if_le (t := 142) X (by omega) dX11_judge_130 (fun c130 => ?_) (fun c130 => ?_)
              · refine A_iconst X dX11_judge_142 ?_
                refine A_iadd X dX11_judge_143 ?_
                refine A_is4 X dX11_judge_144 ?_
                refine A_ii6 X dX11_judge_146 ?_
                refine A_goto (t := 28) X dX11_judge_149 ?_
                exact ih _ _ _ _ _ rfl (by simp only [rnC]; (repeat' split) <;> omega) (by simp only [rnM, rnL]; (repeat' split) <;> omega) (by simp only [rnD]; (repeat' split) <;> omega) (by simp only [rnL]; (repeat' split) <;> omega)
              · refine A_il7 X dX11_judge_133 ?_
                refine A_if_ne (t := 142) X (by omega) dX11_judge_135 (fun c135 => ?_) (fun c135 => by exfalso; omega)
                refine A_iconst X dX11_judge_142 ?_
                refine A_iadd X dX11_judge_143 ?_
                refine A_is4 X dX11_judge_144 ?_
                refine A_ii6 X dX11_judge_146 ?_
                refine A_goto (t := 28) X dX11_judge_149 ?_
                exact ih _ _ _ _ _ rfl (by simp only [rnC]; (repeat' split) <;> omega) (by simp only [rnM, rnL]; (repeat' split) <;> omega) (by simp only [rnD]; (repeat' split) <;> omega) (by simp only [rnL]; (repeat' split) <;> omega)
            · refine A_il5 X dX11_judge_119 ?_
              refine A_goto (t := 125) X dX11_judge_121 ?_
              refine A_is3 X dX11_judge_125 ?_
              refine A_il4 X dX11_judge_126 ?_
              refine A_il6 X dX11_judge_128 ?_
              refine A_if_le (t := 142) X (by omega) dX11_judge_130 (fun c130 => ?_) (fun c130 => ?_)
              · refine A_iconst X dX11_judge_142 ?_
                refine A_iadd X dX11_judge_143 ?_
                refine A_is4 X dX11_judge_144 ?_
                refine A_ii6 X dX11_judge_146 ?_
                refine A_goto (t := 28) X dX11_judge_149 ?_
                exact ih _ _ _ _ _ rfl (by simp only [rnC]; (repeat' split) <;> omega) (by simp only [rnM, rnL]; (repeat' split) <;> omega) (by simp only [rnD]; (repeat' split) <;> omega) (by simp only [rnL]; (repeat' split) <;> omega)
              · refine A_il7 X dX11_judge_133 ?_
                refine A_if_ne (t := 142) X (by omega) dX11_judge_135 (fun c135 => ?_) (fun c135 => by exfalso; omega)
                refine A_iconst X dX11_judge_142 ?_
                refine A_iadd X dX11_judge_143 ?_
                refine A_is4 X dX11_judge_144 ?_
                refine A_ii6 X dX11_judge_146 ?_
                refine A_goto (t := 28) X dX11_judge_149 ?_
                exact ih _ _ _ _ _ rfl (by simp only [rnC]; (repeat' split) <;> omega) (by simp only [rnM, rnL]; (repeat' split) <;> omega) (by simp only [rnD]; (repeat' split) <;> omega) (by simp only [rnL]; (repeat' split) <;> omega)
          · refine A_il6 X dX11_judge_91 ?_
            refine A_goto (t := 97) X dX11_judge_93 ?_
            refine A_is2 X dX11_judge_97 ?_
            refine A_il7 X dX11_judge_98 ?_
            refine A_if_eq (t := 110) X (by omega) dX11_judge_100 (fun c100 => by exfalso; omega) (fun c100 => ?_)
            refine A_il5 X dX11_judge_103 ?_
            refine A_iconst X dX11_judge_105 ?_
            refine A_iadd X dX11_judge_106 ?_
            refine A_goto (t := 111) X dX11_judge_107 ?_
            refine A_is5 X dX11_judge_111 ?_
            refine A_il5 X dX11_judge_113 ?_
            refine A_il3 X dX11_judge_115 ?_
            refine A_icmp_le (t := 124) X (by omega) (by omega) dX11_judge_116 (fun c116 => ?_) (fun c116 => ?_)
            · refine A_il3 X dX11_judge_124 ?_
              refine A_is3 X dX11_judge_125 ?_
              refine A_il4 X dX11_judge_126 ?_
              refine A_il6 X dX11_judge_128 ?_
              refine A_if_le (t := 142) X (by omega) dX11_judge_130 (fun c130 => ?_) (fun c130 => ?_)
              · refine A_iconst X dX11_judge_142 ?_
                refine A_iadd X dX11_judge_143 ?_
                refine A_is4 X dX11_judge_144 ?_
                refine A_ii6 X dX11_judge_146 ?_
                refine A_goto (t := 28) X dX11_judge_149 ?_
                exact ih _ _ _ _ _ rfl (by simp only [rnC]; (repeat' split) <;> omega) (by simp only [rnM, rnL]; (repeat' split) <;> omega) (by simp only [rnD]; (repeat' split) <;> omega) (by simp only [rnL]; (repeat' split) <;> omega)
              · refine A_il7 X dX11_judge_133 ?_
                refine A_if_ne (t := 142) X (by omega) dX11_judge_135 (fun c135 => ?_) (fun c135 => by exfalso; omega)
                refine A_iconst X dX11_judge_142 ?_
                refine A_iadd X dX11_judge_143 ?_
                refine A_is4 X dX11_judge_144 ?_
                refine A_ii6 X dX11_judge_146 ?_
                refine A_goto (t := 28) X dX11_judge_149 ?_
                exact ih _ _ _ _ _ rfl (by simp only [rnC]; (repeat' split) <;> omega) (by simp only [rnM, rnL]; (repeat' split) <;> omega) (by simp only [rnD]; (repeat' split) <;> omega) (by simp only [rnL]; (repeat' split) <;> omega)
            · refine A_il5 X dX11_judge_119 ?_
              refine A_goto (t := 125) X dX11_judge_121 ?_
              refine A_is3 X dX11_judge_125 ?_
              refine A_il4 X dX11_judge_126 ?_
              refine A_il6 X dX11_judge_128 ?_
              refine A_if_le (t := 142) X (by omega) dX11_judge_130 (fun c130 => ?_) (fun c130 => ?_)
              · refine A_iconst X dX11_judge_142 ?_
                refine A_iadd X dX11_judge_143 ?_
                refine A_is4 X dX11_judge_144 ?_
                refine A_ii6 X dX11_judge_146 ?_
                refine A_goto (t := 28) X dX11_judge_149 ?_
                exact ih _ _ _ _ _ rfl (by simp only [rnC]; (repeat' split) <;> omega) (by simp only [rnM, rnL]; (repeat' split) <;> omega) (by simp only [rnD]; (repeat' split) <;> omega) (by simp only [rnL]; (repeat' split) <;> omega)
              · refine A_il7 X dX11_judge_133 ?_
                refine A_if_ne (t := 142) X (by omega) dX11_judge_135 (fun c135 => ?_) (fun c135 => by exfalso; omega)
                refine A_iconst X dX11_judge_142 ?_
                refine A_iadd X dX11_judge_143 ?_
                refine A_is4 X dX11_judge_144 ?_
                refine A_ii6 X dX11_judge_146 ?_
                refine A_goto (t := 28) X dX11_judge_149 ?_
                exact ih _ _ _ _ _ rfl (by simp only [rnC]; (repeat' split) <;> omega) (by simp only [rnM, rnL]; (repeat' split) <;> omega) (by simp only [rnD]; (repeat' split) <;> omega) (by simp only [rnL]; (repeat' split) <;> omega)
