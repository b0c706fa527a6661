/-! the class: suits -/
def sO (su : Nat) (g p hp c : Int) : List Value := [aI g, aI p, aI hp, aI c, .ref (su + 1), .ref (su + 2), .ref (su + 3), .ref (su + 4)]
def suA (G : aG) (h : AH) (su : Nat) (fs fw fq fm fv : Int → Int) : Prop := h su = some (aOb 6 (sO su (fs 0) (fs 1) (fs 2) (fs 3))) ∧ h (su + 1) = some (aIa G 12 fw) ∧ h (su + 2) = some (aIa G 4 fq) ∧ h (su + 3) = some (aIa G 8 fm) ∧ h (su + 4) = some (aIa G 128 fv)
def suR (fs fw fq fm : Int → Int) : Prop := (∀ side k : Int, (side = 0 ∨ side = 1) → 0 ≤ k → k < fs 0 → fw (side * 6 + k) = fs (4 + 6 * side + k)) ∧ (∀ p : Int, 0 ≤ p → p < fs 1 → fq p = ((2 ^ (fs (16 + p)).toNat ||| 2 ^ (fs (20 + p)).toNat : Nat) : Int)) ∧ (∀ side p : Int, (side = 0 ∨ side = 1) → 0 ≤ p → p < fs 1 → fm (4 * side + p) = fs (24 + 4 * side + p))
def suV (fs fv : Int → Int) : Prop := ∀ (side : Int) (set : Nat), (side = 0 ∨ side = 1) → set < al fs → fv (side * 64 + (set : Int)) = vl fs side set
def suC (G : aG) (h : AH) (su : Nat) (fs : Int → Int) : Prop := ∃ fw fq fm fv : Int → Int, suA G h su fs fw fq fm fv ∧ suR fs fw fq fm ∧ suV fs fv
set_option maxRecDepth 100000 in
theorem c_isSide {G : aG} {d n : Nat} {h : AH} {a : Int} (ha : inR a) : aD G d kX10_isSide [aI a] n h (some (aI (bI (a = 0 ∨ a = 1)))) := by
  refine aCt_of (lv := [some (aI a)]) knX10_isSide.1 rfl rfl (Nat.le_of_ble_eq_true rfl) (fun x hG hsc X => ?_)
  subst hG
  refine A_il0 X dX10_isSide_0 ?_
  refine A_if_eq (t := 9) X (by omega) dX10_isSide_1 (fun c1 => ?_) (fun c1 => ?_)
  · refine A_iconst X dX10_isSide_9 ?_
    refine A_goto (t := 14) X dX10_isSide_10 ?_
    exact A_retz X dX10_isSide_14 rfl (Or.inr rfl) ⟨bI_1 (by omega), rfl, rfl⟩
  · refine A_il0 X dX10_isSide_4 ?_
    refine A_iconst X dX10_isSide_5 ?_
    refine A_icmp_ne (t := 13) X (by omega) (by omega) dX10_isSide_6 (fun c6 => ?_) (fun c6 => ?_)
    · refine A_iconst X dX10_isSide_13 ?_
      exact A_retz X dX10_isSide_14 rfl (Or.inl rfl) ⟨bI_0 (by omega), rfl, rfl⟩
    · refine A_iconst X dX10_isSide_9 ?_
      refine A_goto (t := 14) X dX10_isSide_10 ?_
      exact A_retz X dX10_isSide_14 rfl (Or.inr rfl) ⟨bI_1 (by omega), rfl, rfl⟩
set_option maxRecDepth 100000 in
theorem c_all {G : aG} {d n : Nat} {h : AH} {su : Nat} {fs fw fq fm fv : Int → Int} (hg : 0 ≤ fs 0 ∧ fs 0 ≤ 6) (hA : suA G h su fs fw fq fm fv) : aD G d kX6_all [.ref su] n h (some (aI ((al fs - 1 : Nat) : Int))) := by
  obtain ⟨h_this, h_this_worth, h_this_pairSet, h_this_more, h_this_value⟩ := hA
  have hb := al_b hg
  refine aCt_of (lv := [some (.ref su)]) knX6_all.1 rfl rfl (Nat.le_of_ble_eq_true rfl) (fun x hG hsc X => ?_)
  subst hG
  refine A_iconst X dX6_all_0 ?_
  refine A_al0 X dX6_all_1 ?_
  refine A_getf X flX6_27 h_this rfl dX6_all_2 ?_
  refine A_ishl X 1 (fs 0).toNat rfl (by omega) (by omega) (by have := p2b (show (fs 0).toNat ≤ 6 by omega); omega) dX6_all_5 ?_
  refine A_iconst X dX6_all_6 ?_
  refine A_isub X dX6_all_7 ?_
  exact A_ret X dX6_all_8 rfl ⟨congrArg (fun t => some (aI t)) (by have e : al fs = 2 ^ (fs 0).toNat := rfl; omega), rfl, rfl⟩
set_option maxRecDepth 100000 in
theorem c_worthOf {G : aG} {d n : Nat} {h : AH} {su : Nat} {fs fw fq fm fv : Int → Int} {side k : Int} (hs : side = 0 ∨ side = 1) (hk : 0 ≤ k ∧ k < 6) (hA : suA G h su fs fw fq fm fv) : aD G (d + 1) kX6_worthOf [.ref su, aI side, aI k] n h (some (aI (fw (side * 6 + k)))) := by
  obtain ⟨h_this, h_this_worth, h_this_pairSet, h_this_more, h_this_value⟩ := hA
  refine aCt_of (lv := [some (.ref su), some (aI side), some (aI k)]) knX6_worthOf.1 rfl rfl (Nat.le_of_ble_eq_true rfl) (fun x hG hsc X => ?_)
  subst hG
  refine A_il1 X dX6_worthOf_0 ?_
  refine A_dSNi1 X (c_isSide (by omega)) knX10_isSide mlX6_51 dX6_worthOf_1 ?_
  refine A_ifb_eq (t := 31) X dX6_worthOf_4 (fun c4 => by exact absurd hs c4) (fun c4 => ?_)
  refine A_il2 X dX6_worthOf_7 ?_
  refine A_if_lt (t := 31) X (by omega) dX6_worthOf_8 (fun c8 => by exfalso; omega) (fun c8 => ?_)
  refine A_il2 X dX6_worthOf_11 ?_
  refine A_bipush X dX6_worthOf_12 ?_
  refine A_icmp_ge (t := 31) X (by omega) (by omega) dX6_worthOf_14 (fun c14 => by exfalso; omega) (fun c14 => ?_)
  refine A_al0 X dX6_worthOf_17 ?_
  refine A_getf X flX6_9 h_this rfl dX6_worthOf_18 ?_
  refine A_il1 X dX6_worthOf_21 ?_
  refine A_bipush X dX6_worthOf_22 ?_
  refine A_imul X dX6_worthOf_24 ?_
  refine A_il2 X dX6_worthOf_25 ?_
  refine A_iadd X dX6_worthOf_26 ?_
  refine A_iald X h_this_worth (by omega) dX6_worthOf_27 ?_
  refine A_goto (t := 32) X dX6_worthOf_28 ?_
  exact A_ret X dX6_worthOf_32 rfl ⟨rfl, rfl, rfl⟩
set_option maxRecDepth 100000 in
theorem c_worthAlone {G : aG} {d n : Nat} {h : AH} {su : Nat} {fs fw fq fm fv : Int → Int} {side s : Int} (set : Nat) (hsv : s = (set : Int)) (hset : set < 2147483648) (hs : side = 0 ∨ side = 1) (hg : 0 ≤ fs 0 ∧ fs 0 ≤ 6) (hr : suR fs fw fq fm) (hA : suA G h su fs fw fq fm fv) : aD G (d + 2) kX6_worthAlone [.ref su, aI side, aI s] n h (some (aI (vW fs side set (fs 0).toNat))) := by
  have hA0 := hA
  obtain ⟨h_this, h_this_worth, h_this_pairSet, h_this_more, h_this_value⟩ := hA
  subst hsv
  obtain ⟨g, hgn⟩ := Int.eq_ofNat_of_zero_le hg.1
  have hgt : (fs 0).toNat = g := by omega
  refine aCt_of (lv := [some (.ref su), some (aI side), some (aI (set : Int)), none, none]) knX6_worthAlone.1 rfl rfl (Nat.le_of_ble_eq_true rfl) (fun x hG hsc X => ?_)
  subst hG
  rw [hgt] at X
  refine A_iconst X dX6_worthAlone_0 ?_
  refine A_is3 X dX6_worthAlone_1 ?_
  refine A_iconst X dX6_worthAlone_2 ?_
  refine A_is4 X dX6_worthAlone_3 ?_
  refine lp_0 (P := fun i => ∀ t : Int, t = vW fs side set i → AW x 0 0 n h 5 [some (.ref su), some (aI side), some (aI (set : Int)), some (aI t), some (aI (i : Int))] []) g ?_ ?_ 0 rfl
  · intro t ht
    refine A_il4 X dX6_worthAlone_5 ?_
    refine A_al0 X dX6_worthAlone_7 ?_
    refine A_getf X flX6_27 h_this rfl dX6_worthAlone_8 ?_
    refine A_icmp_ge (t := 40) X (by omega) (by omega) dX6_worthAlone_11 (fun c11 => ?_) (fun c11 => by exfalso; omega)
    refine A_il3 X dX6_worthAlone_40 ?_
    exact A_ret X dX6_worthAlone_41 rfl ⟨congrArg (fun t => some (aI t)) (by rw [ht]), rfl, rfl⟩
  · intro i hi ih t ht
    have hw := hr.1 side (i : Int) hs (by omega) (by omega)
    refine A_il4 X dX6_worthAlone_5 ?_
    refine A_al0 X dX6_worthAlone_7 ?_
    refine A_getf X flX6_27 h_this rfl dX6_worthAlone_8 ?_
    refine A_icmp_ge (t := 40) X (by omega) (by omega) dX6_worthAlone_11 (fun c11 => by exfalso; omega) (fun c11 => ?_)
    refine A_il2 X dX6_worthAlone_14 ?_
    refine A_il4 X dX6_worthAlone_15 ?_
    refine A_ishr X set i rfl rfl (by omega) hset dX6_worthAlone_17 ?_
    refine A_iconst X dX6_worthAlone_18 ?_
    refine A_iand X (set / 2 ^ i) 1 rfl rfl dX6_worthAlone_19 ?_
    refine A_iconst X dX6_worthAlone_20 ?_
    refine A_icmp_ne (t := 34) X (by rw [Nat.and_one_is_mod]; omega) (by omega) dX6_worthAlone_21 (fun c21 => ?_) (fun c21 => ?_)
    · rw [Nat.and_one_is_mod] at c21
      refine A_ii4 X dX6_worthAlone_34 ?_
      refine A_goto (t := 5) X dX6_worthAlone_37 ?_
      exact ih _ (by rw [ht, vW, if_neg (by show ¬ _ = _; omega), Int.add_zero])
    · rw [Nat.and_one_is_mod] at c21
      have hb : hasB set i := by show _ = _; omega
      refine A_il3 X dX6_worthAlone_24 ?_
      refine A_al0 X dX6_worthAlone_25 ?_
      refine A_il1 X dX6_worthAlone_26 ?_
      refine A_il4 X dX6_worthAlone_27 ?_
      refine A_dVi2 X (c_worthOf hs (by omega) hA0) h_this knX6_worthOf mlX6_55 dX6_worthAlone_29 ?_
      refine A_iadd X dX6_worthAlone_32 ?_
      refine A_is3 X dX6_worthAlone_33 ?_
      refine A_ii4 X dX6_worthAlone_34 ?_
      refine A_goto (t := 5) X dX6_worthAlone_37 ?_
      exact ih _ (by rw [ht, vW, if_pos hb, hw])
theorem bt8 : ∀ s, s < 64 → ∀ a, a < 6 → ∀ b, b < 6 → (s &&& (2 ^ a ||| 2 ^ b) = (2 ^ a ||| 2 ^ b) ↔ hasB s a ∧ hasB s b) := by decide +kernel
set_option maxRecDepth 100000 in
theorem c_moreOf {G : aG} {d n : Nat} {h : AH} {su : Nat} {fs fw fq fm fv : Int → Int} {side s : Int} (set : Nat) (hsv : s = (set : Int)) (hset : set < 64) (hs : side = 0 ∨ side = 1) (hok : sOK fs) (hr : suR fs fw fq fm) (hA : suA G h su fs fw fq fm fv) : aD G d kX6_moreOf [.ref su, aI side, aI s] n h (some (aI (vP fs side set (fs 1).toNat))) := by
  obtain ⟨h_this, h_this_worth, h_this_pairSet, h_this_more, h_this_value⟩ := hA
  subst hsv
  have hp := hok.2.1
  obtain ⟨g, hgn⟩ := Int.eq_ofNat_of_zero_le hp.1
  have hgt : (fs 1).toNat = g := by omega
  refine aCt_of (lv := [some (.ref su), some (aI side), some (aI (set : Int)), none, none]) knX6_moreOf.1 rfl rfl (Nat.le_of_ble_eq_true rfl) (fun x hG hsc X => ?_)
  subst hG
  rw [hgt] at X
  refine A_iconst X dX6_moreOf_0 ?_
  refine A_is3 X dX6_moreOf_1 ?_
  refine A_iconst X dX6_moreOf_2 ?_
  refine A_is4 X dX6_moreOf_3 ?_
  refine lp_0 (P := fun i => ∀ t : Int, t = vP fs side set i → AW x 0 0 n h 5 [some (.ref su), some (aI side), some (aI (set : Int)), some (aI t), some (aI (i : Int))] []) g ?_ ?_ 0 rfl
  · intro t ht
    refine A_il4 X dX6_moreOf_5 ?_
    refine A_al0 X dX6_moreOf_7 ?_
    refine A_getf X flX6_31 h_this rfl dX6_moreOf_8 ?_
    refine A_icmp_ge (t := 67) X (by omega) (by omega) dX6_moreOf_11 (fun c11 => ?_) (fun c11 => by exfalso; omega)
    refine A_il3 X dX6_moreOf_67 ?_
    exact A_ret X dX6_moreOf_68 rfl ⟨congrArg (fun t => some (aI t)) (by rw [ht]), rfl, rfl⟩
  · intro i hi ih t ht
    have h1 := hok.2.2.2.2.2.1 (i : Int) (by omega) (by omega)
    have h6 := hok.1
    have hq := hr.2.1 (i : Int) (by omega) (by omega)
    have hm := hr.2.2 side (i : Int) hs (by omega) (by omega)
    generalize ea : (fs (16 + (i : Int))).toNat = a at *
    generalize eb : (fs (20 + (i : Int))).toNat = b at *
    have hb8 := bt8 set hset a (by omega) b (by omega)
    have hab : (2 ^ a ||| 2 ^ b) < 64 := or64 (by have := Nat.pow_le_pow_right (n := 2) (by omega) (show a ≤ 5 by omega); omega) (by have := Nat.pow_le_pow_right (n := 2) (by omega) (show b ≤ 5 by omega); omega)
    have hand := Nat.and_le_left (n := set) (m := 2 ^ a ||| 2 ^ b)
    have e1 : hasB set a ∧ hasB set b → vP fs side set (i + 1) = t + fm (4 * side + (i : Int)) := fun q => by rw [vP, ea, eb, if_pos q, hm, ht]
    have e2 : ¬ (hasB set a ∧ hasB set b) → vP fs side set (i + 1) = t := fun q => by rw [vP, ea, eb, if_neg q, ht, Int.add_zero]
    refine A_il4 X dX6_moreOf_5 ?_
    refine A_al0 X dX6_moreOf_7 ?_
    refine A_getf X flX6_31 h_this rfl dX6_moreOf_8 ?_
    refine A_icmp_ge (t := 67) X (by omega) (by omega) dX6_moreOf_11 (fun c11 => by exfalso; omega) (fun c11 => ?_)
    refine A_il4 X dX6_moreOf_14 ?_
    refine A_iconst X dX6_moreOf_16 ?_
    refine A_icmp_ge (t := 67) X (by omega) (by omega) dX6_moreOf_17 (fun c17 => by exfalso; omega) (fun c17 => ?_)
    refine A_il2 X dX6_moreOf_20 ?_
    refine A_al0 X dX6_moreOf_21 ?_
    refine A_getf X flX6_15 h_this rfl dX6_moreOf_22 ?_
    refine A_il4 X dX6_moreOf_25 ?_
    refine A_iald X h_this_pairSet (by omega) dX6_moreOf_27 ?_
    refine A_iand X set (2 ^ a ||| 2 ^ b) rfl hq dX6_moreOf_28 ?_
    refine A_al0 X dX6_moreOf_29 ?_
    refine A_getf X flX6_15 h_this rfl dX6_moreOf_30 ?_
    refine A_il4 X dX6_moreOf_33 ?_
    refine A_iald X h_this_pairSet (by omega) dX6_moreOf_35 ?_
    refine A_icmp_ne (t := 61) X (by omega) (by rw [hq]; omega) dX6_moreOf_36 (fun c36 => ?_) (fun c36 => ?_)
    · refine A_ii4 X dX6_moreOf_61 ?_
      refine A_goto (t := 5) X dX6_moreOf_64 ?_
      exact ih _ (by rw [hq] at c36; exact (e2 (fun q => c36 (by rw [hb8.mpr q]))).symm)
    · rw [hq] at c36
      have hin := hb8.mp (by omega)
      refine A_il3 X dX6_moreOf_39 ?_
      refine A_al0 X dX6_moreOf_40 ?_
      refine A_getf X flX6_18 h_this rfl dX6_moreOf_41 ?_
      refine A_il1 X dX6_moreOf_44 ?_
      refine A_iconst X dX6_moreOf_45 ?_
      refine A_icmp_ne (t := 56) X (by omega) (by omega) dX6_moreOf_46 (fun c46 => ?_) (fun c46 => ?_)
      · refine A_il4 X dX6_moreOf_56 ?_
        refine A_iald X h_this_more (by omega) dX6_moreOf_58 ?_
        refine A_iadd X dX6_moreOf_59 ?_
        refine A_is3 X dX6_moreOf_60 ?_
        refine A_ii4 X dX6_moreOf_61 ?_
        refine A_goto (t := 5) X dX6_moreOf_64 ?_
        exact ih _ (by rw [e1 hin, show 4 * side + (i : Int) = (i : Int) by omega])
      · refine A_iconst X dX6_moreOf_49 ?_
        refine A_il4 X dX6_moreOf_50 ?_
        refine A_iadd X dX6_moreOf_52 ?_
        refine A_goto (t := 58) X dX6_moreOf_53 ?_
        refine A_iald X h_this_more (by omega) dX6_moreOf_58 ?_
        refine A_iadd X dX6_moreOf_59 ?_
        refine A_is3 X dX6_moreOf_60 ?_
        refine A_ii4 X dX6_moreOf_61 ?_
        refine A_goto (t := 5) X dX6_moreOf_64 ?_
        exact ih _ (by rw [e1 hin, show 4 * side + (i : Int) = 4 + (i : Int) by omega])
set_option maxRecDepth 100000 in
theorem c_weigh {G : aG} {d n : Nat} {h : AH} {su : Nat} {fs fw fq fm fv : Int → Int} (hok : sOK fs) (hr : suR fs fw fq fm) (hA : suA G h su fs fw fq fm fv) : aE G (d + 3) kX6_weigh [.ref su] n h none (fun h' => (∃ fv2 : Int → Int, suA G h' su fs fw fq fm fv2 ∧ suV fs fv2) ∧ ∀ q, q ≠ su + 4 → h' q = h q) := by
  obtain ⟨h_this, h_this_worth, h_this_pairSet, h_this_more, h_this_value⟩ := hA
  have hg := hok.1
  have hb := al_b hg
  refine aCt_of (lv := [some (.ref su), none, none]) knX6_weigh.1 rfl rfl (Nat.le_of_ble_eq_true rfl) (fun x hG hsc X => ?_)
  subst hG
  refine A_iconst X dX6_weigh_0 ?_
  refine A_is1 X dX6_weigh_1 ?_
  refine lp_0 (P := fun j => ∀ (hh : AH) (u : Int → Int), hh (su + 4) = some (aIa x.1 128 u) → (∀ (side : Int) (set : Nat), 0 ≤ side → side < (j : Int) → set < al fs → u (side * 64 + (set : Int)) = vl fs side set) → (∀ q, q ≠ su + 4 → hh q = h q) → AW x 0 0 n hh 2 [some (.ref su), some (aI (j : Int)), none] []) 2 ?_ ?_ h fv h_this_value (fun side set h1 h2 => by omega) (fun _ _ => rfl)
  · intro hh u hu hk hq
    refine A_il1 X dX6_weigh_2 ?_
    refine A_iconst X dX6_weigh_3 ?_
    refine A_icmp_ge (t := 59) X (by omega) (by omega) dX6_weigh_4 (fun c4 => ?_) (fun c4 => by exfalso; omega)
    exact A_retv X dX6_weigh_59 rfl ⟨rfl, rfl, ⟨u, ⟨(hq _ (by omega)).trans h_this, (hq _ (by omega)).trans h_this_worth, (hq _ (by omega)).trans h_this_pairSet, (hq _ (by omega)).trans h_this_more, hu⟩, fun side set h1 h2 => hk side set (by omega) (by omega) h2⟩, hq⟩
  · intro j hj ih hh u hu hk hq
    refine A_il1 X dX6_weigh_2 ?_
    refine A_iconst X dX6_weigh_3 ?_
    refine A_icmp_ge (t := 59) X (by omega) (by omega) dX6_weigh_4 (fun c4 => by exfalso; omega) (fun c4 => ?_)
    refine A_iconst X dX6_weigh_7 ?_
    refine A_is2 X dX6_weigh_8 ?_
    refine lp_0 (P := fun i => ∀ (hh : AH) (u : Int → Int), hh (su + 4) = some (aIa x.1 128 u) → (∀ (side : Int) (set : Nat), 0 ≤ side → (side < (j : Int) ∧ set < al fs) ∨ (side = (j : Int) ∧ set < i) → u (side * 64 + (set : Int)) = vl fs side set) → (∀ q, q ≠ su + 4 → hh q = h q) → AW x 0 0 n hh 9 [some (.ref su), some (aI (j : Int)), some (aI (i : Int))] []) (al fs) ?_ ?_ hh u hu (fun side set h1 h2 => hk side set h1 (by omega) (by omega)) hq
    · intro hh u hu hk hq
      have h_this := (hq _ (by omega)).trans h_this
      have hA1 : suA x.1 hh su fs fw fq fm u := ⟨h_this, (hq _ (by omega)).trans h_this_worth, (hq _ (by omega)).trans h_this_pairSet, (hq _ (by omega)).trans h_this_more, hu⟩
      refine A_il2 X dX6_weigh_9 ?_
      refine A_al0 X dX6_weigh_10 ?_
      refine A_dVi0 X (c_all hg hA1) h_this knX6_all mlX6_40 dX6_weigh_11 ?_
      refine A_icmp_gt (t := 53) X (by omega) (by omega) dX6_weigh_14 (fun c14 => ?_) (fun c14 => by exfalso; omega)
      refine A_ii1 X dX6_weigh_53 ?_
      refine A_goto (t := 2) X dX6_weigh_56 ?_
      exact A_fg2 (ih hh u hu (fun side set h1 h2 h3 => hk side set h1 (by omega)) hq)
    · intro i hi ih2 hh u hu hk hq
      have h_this := (hq _ (by omega)).trans h_this
      have hA1 : suA x.1 hh su fs fw fq fm u := ⟨h_this, (hq _ (by omega)).trans h_this_worth, (hq _ (by omega)).trans h_this_pairSet, (hq _ (by omega)).trans h_this_more, hu⟩
      have h_this_value := hu
      refine A_il2 X dX6_weigh_9 ?_
      refine A_al0 X dX6_weigh_10 ?_
      refine A_dVi0 X (c_all hg hA1) h_this knX6_all mlX6_40 dX6_weigh_11 ?_
      refine A_icmp_gt (t := 53) X (by omega) (by omega) dX6_weigh_14 (fun c14 => by exfalso; omega) (fun c14 => ?_)
      refine A_il2 X dX6_weigh_17 ?_
      refine A_bipush X dX6_weigh_18 ?_
      refine A_icmp_ge (t := 53) X (by omega) (by omega) dX6_weigh_20 (fun c20 => by exfalso; omega) (fun c20 => ?_)
      refine A_al0 X dX6_weigh_23 ?_
      refine A_getf X flX6_21 h_this rfl dX6_weigh_24 ?_
      refine A_il1 X dX6_weigh_27 ?_
      refine A_bipush X dX6_weigh_28 ?_
      refine A_imul X dX6_weigh_30 ?_
      refine A_il2 X dX6_weigh_31 ?_
      refine A_iadd X dX6_weigh_32 ?_
      refine A_al0 X dX6_weigh_33 ?_
      refine A_il1 X dX6_weigh_34 ?_
      refine A_il2 X dX6_weigh_35 ?_
      refine A_dVi2 X (c_worthAlone i rfl (by omega) (by omega) hg hr hA1) h_this knX6_worthAlone mlX6_44 dX6_weigh_36 ?_
      refine A_al0 X dX6_weigh_39 ?_
      refine A_il1 X dX6_weigh_40 ?_
      refine A_il2 X dX6_weigh_41 ?_
      refine A_dVi2 X (c_moreOf i rfl (by omega) (by omega) hok hr hA1) h_this knX6_moreOf mlX6_48 dX6_weigh_42 ?_
      refine A_iadd X dX6_weigh_45 ?_
      refine A_iast X h_this_value (by omega) dX6_weigh_46 ?_
      refine A_gen (fun h46 e46 k46 q46 => ?_)
      refine A_ii2 X dX6_weigh_47 ?_
      refine A_goto (t := 9) X dX6_weigh_50 ?_
      refine ih2 h46 _ e46 (fun side set h1 h2 => ?_) (fun q hqb => (k46 q hqb).trans (hq q hqb))
      unfold aiu
      by_cases e : side * 64 + (set : Int) = (j : Int) * 64 + (i : Int)
      · have e1 : side = (j : Int) := by omega
        have e2 : set = i := by omega
        rw [if_pos e, e1, e2]; rfl
      · rw [if_neg e]; exact hk side set h1 (by omega)
