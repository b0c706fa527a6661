/-! the class: lots -/
theorem A_ldcz {x : aX} {d : Nat} {cc : ByteArray} {own nm : String} {ret : Option FieldType} {mc ms : Nat} {post : aPost} {cs ss n pc : Nat} {h : AH} {lv : List (Option Value)} {st : List Value} (X : aOk x d cc own nm ret mc ms post) {z : Int} {v : Int32} {idx : Nat} (hc : Cond.constant own idx v ∈ lw_tbl) (hd : decode cc pc = .ok (.ldc_w idx, 3)) (k : AW x cs ss n h (pc + 3) lv (aI z :: st)) (hv : v = Int32.ofInt z := by decide) : AW x cs ss n h pc lv st := A_ldcw X hc hd (by rw [hv]; exact k)
set_option maxRecDepth 100000 in
theorem c_power {G : aG} {d n : Nat} {h : AH} {b e : Int} (k : Nat) (he : e = (k : Int)) (hk : k ≤ 6) : aD G d kX10_power [aI b, aI e] n h (some (aI (b ^ k))) := by
  subst he
  refine aCt_of (lv := [some (aI b), some (aI (k : Int)), none, none]) knX10_power.1 rfl rfl (Nat.le_of_ble_eq_true rfl) (fun x hG hsc X => ?_)
  subst hG
  refine A_iconst X dX10_power_0 ?_
  refine A_is2 X dX10_power_1 ?_
  refine A_iconst X dX10_power_2 ?_
  refine A_is3 X dX10_power_3 ?_
  refine lp_0 (P := fun i => ∀ s : Int, s = b ^ i → AW x 0 0 n h 4 [some (aI b), some (aI (k : Int)), some (aI s), some (aI (i : Int))] []) k ?_ ?_ 1 (Int.pow_zero b).symm
  · intro s hs
    refine A_il3 X dX10_power_4 ?_
    refine A_il1 X dX10_power_5 ?_
    refine A_icmp_ge (t := 25) X (by omega) (by omega) dX10_power_6 (fun c6 => ?_) (fun c6 => by exfalso; omega)
    refine A_il2 X dX10_power_25 ?_
    exact A_ret X dX10_power_26 rfl ⟨congrArg (fun t => some (aI t)) (by rw [hs]), rfl, rfl⟩
  · intro i hi ih s hs
    refine A_il3 X dX10_power_4 ?_
    refine A_il1 X dX10_power_5 ?_
    refine A_icmp_ge (t := 25) X (by omega) (by omega) dX10_power_6 (fun c6 => by exfalso; omega) (fun c6 => ?_)
    refine A_il3 X dX10_power_9 ?_
    refine A_bipush X dX10_power_10 ?_
    refine A_icmp_ge (t := 25) X (by omega) (by omega) dX10_power_12 (fun c12 => by exfalso; omega) (fun c12 => ?_)
    refine A_il2 X dX10_power_15 ?_
    refine A_il0 X dX10_power_16 ?_
    refine A_imul X dX10_power_17 ?_
    refine A_is2 X dX10_power_18 ?_
    refine A_ii3 X dX10_power_19 ?_
    refine A_goto (t := 4) X dX10_power_22 ?_
    exact ih _ (by rw [hs, Int.pow_succ])
set_option maxRecDepth 100000 in
theorem c_gcd {G : aG} {d n : Nat} {h : AH} {u v : Int} (a b : Nat) (hu : u = (a : Int)) (hv : v = (b : Int)) (ha : a < 2147483648) (hb : b ≤ 1000000) : aD G d kX10_greatestDivisor [aI u, aI v] n h (some (aI ((Nat.gcd a b : Nat) : Int))) := by
  subst hu
  subst hv
  refine aCt_of (lv := [some (aI (a : Int)), some (aI (b : Int)), none, none, none, none]) knX10_greatestDivisor.1 rfl rfl (Nat.le_of_ble_eq_true rfl) (fun x hG hsc X => ?_)
  subst hG
  have key : ∀ (k p q i : Nat), q ≤ k → i + q ≤ 1000000 → p < 2147483648 → Nat.gcd p q = Nat.gcd a b → AW x 0 0 n h 7 [some (aI (a : Int)), some (aI (b : Int)), some (aI (p : Int)), some (aI (q : Int)), some (aI (i : Int)), none] [] := by
    intro k
    induction k with
    | zero =>
      intro p q i hq hi hp hg
      obtain rfl : q = 0 := by omega
      rw [Nat.gcd_zero_right] at hg
      refine A_il4 X dX10_greatestDivisor_7 ?_
      refine A_ldcz (z := 1000000) X kcX10_285 dX10_greatestDivisor_9 ?_
      refine A_icmp_ge (t := 35) X (by omega) (by omega) dX10_greatestDivisor_12 (fun c12 => ?_) (fun c12 => ?_)
      · refine A_il2 X dX10_greatestDivisor_35 ?_
        exact A_ret X dX10_greatestDivisor_36 rfl ⟨congrArg (fun t => some (aI t)) (by rw [hg]), rfl, rfl⟩
      · refine A_il3 X dX10_greatestDivisor_15 ?_
        refine A_if_le (t := 35) X (by omega) dX10_greatestDivisor_16 (fun c16 => ?_) (fun c16 => by exfalso; omega)
        refine A_il2 X dX10_greatestDivisor_35 ?_
        exact A_ret X dX10_greatestDivisor_36 rfl ⟨congrArg (fun t => some (aI t)) (by rw [hg]), rfl, rfl⟩
    | succ k ih =>
      intro p q i hq hi hp hg
      by_cases hq0 : q = 0
      · exact ih p q i (by omega) hi hp hg
      · have hm := Nat.mod_lt p (show q > 0 by omega)
        refine A_il4 X dX10_greatestDivisor_7 ?_
        refine A_ldcz (z := 1000000) X kcX10_285 dX10_greatestDivisor_9 ?_
        refine A_icmp_ge (t := 35) X (by omega) (by omega) dX10_greatestDivisor_12 (fun c12 => by exfalso; omega) (fun c12 => ?_)
        refine A_il3 X dX10_greatestDivisor_15 ?_
        refine A_if_le (t := 35) X (by omega) dX10_greatestDivisor_16 (fun c16 => by exfalso; omega) (fun c16 => ?_)
        refine A_il2 X dX10_greatestDivisor_19 ?_
        refine A_il3 X dX10_greatestDivisor_20 ?_
        refine A_irem X (by omega) (by omega) dX10_greatestDivisor_21 ?_
        refine A_is5 X dX10_greatestDivisor_22 ?_
        refine A_il3 X dX10_greatestDivisor_24 ?_
        refine A_is2 X dX10_greatestDivisor_25 ?_
        refine A_il5 X dX10_greatestDivisor_26 ?_
        refine A_is3 X dX10_greatestDivisor_28 ?_
        refine A_ii4 X dX10_greatestDivisor_29 ?_
        refine A_goto (t := 7) X dX10_greatestDivisor_32 ?_
        exact A_fg5 (ih q (p % q) (i + 1) (by omega) (by omega) (by omega) (by rw [← hg, Nat.gcd_comm p q, Nat.gcd_rec q p, Nat.gcd_comm (p % q) q]))
  refine A_il0 X dX10_greatestDivisor_0 ?_
  refine A_is2 X dX10_greatestDivisor_1 ?_
  refine A_il1 X dX10_greatestDivisor_2 ?_
  refine A_is3 X dX10_greatestDivisor_3 ?_
  refine A_iconst X dX10_greatestDivisor_4 ?_
  refine A_is4 X dX10_greatestDivisor_5 ?_
  exact key b a b 0 (Nat.le_refl b) (by omega) ha rfl
def pcN (r : Nat) : Nat → Nat
  | 0 => 0
  | j + 1 => pcN r j + (if hasB r j then 1 else 0)
theorem pcN_b (r : Nat) : ∀ j : Nat, pcN r j ≤ j
  | 0 => Nat.le_refl 0
  | j + 1 => by
    have := pcN_b r j
    unfold pcN
    split <;> omega
theorem pcN_g : ∀ g, g < 7 → ∀ r, r < 64 → r < 2 ^ g → pcN r g = pct r := by decide +kernel
theorem wy_p {fs : Int → Int} {p : Int} {r : Nat} : ∀ j : Nat, wy fs p r j = bI (frQ fs r) * (p ^ (j - pcN r j) * (10 - p) ^ pcN r j)
  | 0 => by
    show bI (frQ fs r) = bI (frQ fs r) * (p ^ 0 * (10 - p) ^ 0)
    rw [Int.pow_zero, Int.pow_zero, Int.one_mul, Int.mul_one]
  | j + 1 => by
    have ih := wy_p (fs := fs) (p := p) (r := r) j
    have hb := pcN_b r j
    rw [wy, ih, pcN]
    by_cases h : hasB r j
    · rw [if_pos h, if_pos h, show j + 1 - (pcN r j + 1) = j - pcN r j by omega, Int.pow_succ]
      simp only [Int.mul_assoc]
    · rw [if_neg h, if_neg h, show j + 1 - (pcN r j + 0) = (j - pcN r j) + 1 by omega, show pcN r j + 0 = pcN r j by omega, Int.pow_succ]
      simp only [Int.mul_assoc, Int.mul_comm, Int.mul_left_comm]
set_option maxRecDepth 100000 in
theorem p_fairLots {G : aG} {d n : Nat} {h : AH} {pa su : Nat} {fs : Int → Int} {p : Int} (hp : 0 ≤ p ∧ p ≤ 10) (hok : sOK fs) (hC : suC G h su fs) {pf : List Value} (h_this : h pa = some (aOb 4 pf)) : aD G (d + 4) kX4_fairLots [.ref pa, .ref su, aI p] n h (some (aI (ab fs p (al fs)))) := by
  have hg := hok.1; have hal := al_b hg; have h_suit := suC_o hC
  refine aCt_of (lv := [some (.ref pa), some (.ref su), some (aI p), none, none, none]) knX4_fairLots.1 rfl rfl (Nat.le_of_ble_eq_true rfl) (fun x hG hsc X => ?_)
  subst hG
  refine A_iconst X dX4_fairLots_0 ?_
  refine A_is3 X dX4_fairLots_1 ?_
  refine A_iconst X dX4_fairLots_2 ?_
  refine A_is4 X dX4_fairLots_3 ?_
  refine lp_0 (P := fun i => ∀ s : Int, s = ab fs p i → AW x 0 0 n h 5 [some (.ref pa), some (.ref su), some (aI p), some (aI s), some (aI (i : Int)), none] []) (al fs) ?_ ?_ 0 rfl
  · intro s hs
    refine A_il4 X dX4_fairLots_5 ?_
    refine A_al1 X dX4_fairLots_7 ?_
    refine A_dVi0 X (c_all2 hg hC) h_suit knX6_all mlX4_30 dX4_fairLots_8 ?_
    refine A_icmp_gt (t := 61) X (by omega) (by omega) dX4_fairLots_11 (fun c11 => ?_) (fun c11 => by exfalso; omega)
    refine A_il3 X dX4_fairLots_61 ?_
    exact A_ret X dX4_fairLots_62 rfl ⟨congrArg (fun t => some (aI t)) (by rw [hs]), rfl, rfl⟩
  · intro i hi ih s hs
    have hpc : pcN i (fs 0).toNat = pct i := pcN_g (fs 0).toNat (by omega) i (by omega) hi
    have hpb := pcN_b i (fs 0).toNat
    have hw := wy_p (fs := fs) (p := p) (r := i) (fs 0).toNat
    rw [hpc] at hw hpb
    have hp6 := pct_b i
    refine A_il4 X dX4_fairLots_5 ?_
    refine A_al1 X dX4_fairLots_7 ?_
    refine A_dVi0 X (c_all2 hg hC) h_suit knX6_all mlX4_30 dX4_fairLots_8 ?_
    refine A_icmp_gt (t := 61) X (by omega) (by omega) dX4_fairLots_11 (fun c11 => by exfalso; omega) (fun c11 => ?_)
    refine A_al0 X dX4_fairLots_14 ?_
    refine A_al1 X dX4_fairLots_15 ?_
    refine A_il4 X dX4_fairLots_16 ?_
    refine A_dVi2 X (p_isFair i rfl hi hok hC h_this) h_this knX4_isFair mlX4_38 dX4_fairLots_18 ?_
    refine A_ifb_eq (t := 55) X dX4_fairLots_21 (fun c21 => ?_) (fun c21 => ?_)
    · refine A_ii4 X dX4_fairLots_55 ?_
      refine A_goto (t := 5) X dX4_fairLots_58 ?_
      exact ih _ (by rw [hs, ab, hw, bI_f c21, Int.zero_mul, Int.add_zero])
    · refine A_il4 X dX4_fairLots_24 ?_
      refine A_dSi1 X (j_bitCount i rfl (by omega)) knJ6_bitCount_0f7a4 mlX4_81 dX4_fairLots_26 ?_
      refine A_is5 X dX4_fairLots_29 ?_
      refine A_il3 X dX4_fairLots_31 ?_
      refine A_il2 X dX4_fairLots_32 ?_
      refine A_al1 X dX4_fairLots_33 ?_
      refine A_getf X flX4_54 h_suit rfl dX4_fairLots_34 ?_
      refine A_il5 X dX4_fairLots_37 ?_
      refine A_isub X dX4_fairLots_39 ?_
      refine A_dSNi2 X (c_power ((fs 0).toNat - pct i) (by omega) (by omega)) knX10_power mlX4_87 dX4_fairLots_40 ?_
      refine A_bipush X dX4_fairLots_43 ?_
      refine A_il2 X dX4_fairLots_45 ?_
      refine A_isub X dX4_fairLots_46 ?_
      refine A_il5 X dX4_fairLots_47 ?_
      refine A_dSNi2 X (c_power (pct i) rfl (by omega)) knX10_power mlX4_87 dX4_fairLots_49 ?_
      refine A_imul X dX4_fairLots_52 ?_
      refine A_iadd X dX4_fairLots_53 ?_
      refine A_is3 X dX4_fairLots_54 ?_
      refine A_ii4 X dX4_fairLots_55 ?_
      refine A_goto (t := 5) X dX4_fairLots_58 ?_
      exact A_fg5 (ih _ (by rw [hs, ab, hw, bI_t c21, Int.one_mul]))
