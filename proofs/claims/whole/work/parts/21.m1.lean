/-! the reference: suits, values, sets -/
def sOK (fs : Int → Int) : Prop := (0 ≤ fs 0 ∧ fs 0 ≤ 6) ∧ (0 ≤ fs 1 ∧ fs 1 ≤ 4) ∧ (0 ≤ fs 2 ∧ fs 2 ≤ 3) ∧ (1 ≤ fs 3 ∧ fs 3 ≤ 6) ∧ (∀ k : Int, 4 ≤ k → k < 16 → 0 ≤ fs k ∧ fs k ≤ 20) ∧ (∀ p : Int, 0 ≤ p → p < fs 1 → (0 ≤ fs (16 + p) ∧ fs (16 + p) < fs 0) ∧ (0 ≤ fs (20 + p) ∧ fs (20 + p) < fs 0)) ∧ (∀ k : Int, 24 ≤ k → k < 32 → 0 ≤ fs k ∧ fs k ≤ 20)
def vW (fs : Int → Int) (side : Int) (set : Nat) : Nat → Int
  | 0 => 0
  | k + 1 => vW fs side set k + (if hasB set k then fs (4 + 6 * side + (k : Int)) else 0)
def vP (fs : Int → Int) (side : Int) (set : Nat) : Nat → Int
  | 0 => 0
  | k + 1 => vP fs side set k + (if hasB set (fs (16 + (k : Int))).toNat ∧ hasB set (fs (20 + (k : Int))).toNat then fs (24 + 4 * side + (k : Int)) else 0)
/-- what a side values a set at -/
def vl (fs : Int → Int) (side : Int) (set : Nat) : Int := vW fs side set (fs 0).toNat + vP fs side set (fs 1).toNat
theorem vW_b {fs : Int → Int} (hs : sOK fs) {side : Int} (h1 : side = 0 ∨ side = 1) {set : Nat} : ∀ k : Nat, k ≤ 6 → 0 ≤ vW fs side set k ∧ vW fs side set k ≤ 20 * (k : Int)
  | 0, _ => ⟨Int.le_refl 0, by simp [vW]⟩
  | k + 1, hk => by
    have ih := vW_b hs h1 (set := set) k (by omega)
    have hb := hs.2.2.2.2.1 (4 + 6 * side + (k : Int)) (by omega) (by omega)
    unfold vW
    split <;> omega
theorem vP_b {fs : Int → Int} (hs : sOK fs) {side : Int} (h1 : side = 0 ∨ side = 1) {set : Nat} : ∀ k : Nat, k ≤ 4 → 0 ≤ vP fs side set k ∧ vP fs side set k ≤ 20 * (k : Int)
  | 0, _ => ⟨Int.le_refl 0, by simp [vP]⟩
  | k + 1, hk => by
    have ih := vP_b hs h1 (set := set) k (by omega)
    have hb := hs.2.2.2.2.2.2 (24 + 4 * side + (k : Int)) (by omega) (by omega)
    unfold vP
    split <;> omega
theorem vl_b {fs : Int → Int} (hs : sOK fs) {side : Int} (h1 : side = 0 ∨ side = 1) (set : Nat) : 0 ≤ vl fs side set ∧ vl fs side set ≤ 200 := by
  have a := vW_b hs h1 (set := set) (fs 0).toNat (by have := hs.1; omega)
  have b := vP_b hs h1 (set := set) (fs 1).toNat (by have := hs.2.1; omega)
  have := hs.1
  have := hs.2.1
  unfold vl
  omega
theorem p2b {g : Nat} (h : g ≤ 6) : 1 ≤ 2 ^ g ∧ 2 ^ g ≤ 64 := ⟨Nat.one_le_two_pow, Nat.pow_le_pow_right (by omega) h⟩
set_option maxRecDepth 100000 in
theorem m_valued {G : aG} {d n : Nat} {h : AH} {tm : Nat} {un sz sm tr ak bg mt : Int} {fs : Int → Int} {side s : Int} (set : Nat) (hsv : s = (set : Int)) (hset : set < 2147483648) (hsd : side = 0 ∨ side = 1) (hok : sOK fs) (h_this : h tm = some (aOb 11 (mO tm un sz sm tr ak bg mt))) (h_this_suit : h (tm + 1) = some (aIa G 32 fs)) : aD G (d + 1) kX11_valued [.ref tm, aI side, aI s] n h (some (aI (vl fs side set))) := by
  refine aCt_of (lv := [some (.ref tm), some (aI side), some (aI s), none, none]) knX11_valued.1 rfl rfl (Nat.le_of_ble_eq_true rfl) (fun x hG hsc X => ?_)
  subst hG
  subst hsv
  have hok2 := hok
  obtain ⟨hg0, hp0, -, -, hw0, hpp, hm0⟩ := hok2
  obtain ⟨g, hg⟩ := Int.eq_ofNat_of_zero_le hg0.1
  obtain ⟨np, hnp⟩ := Int.eq_ofNat_of_zero_le hp0.1
  refine A_iconst X dX11_valued_0 ?_
  refine A_is3 X dX11_valued_1 ?_
  refine A_iconst X dX11_valued_2 ?_
  refine A_is4 X dX11_valued_3 ?_
  refine lp_0 (P := fun i => ∀ s : Int, s = vW fs side set i → AW x 0 0 n h 5 [some (.ref tm), some (aI side), some (aI (set : Int)), some (aI s), some (aI (i : Int))] []) g ?_ ?_ 0 rfl
  · intro s hs
    refine A_il4 X dX11_valued_5 ?_
    refine A_al0 X dX11_valued_7 ?_
    refine A_getf X flX11_7 h_this rfl dX11_valued_8 ?_
    refine A_iconst X dX11_valued_11 ?_
    refine A_iald X h_this_suit (by omega) dX11_valued_12 ?_
    refine A_icmp_ge (t := 52) X (by omega) (by omega) dX11_valued_13 (fun c13 => ?_) (fun c13 => by exfalso; omega)
    refine A_iconst X dX11_valued_52 ?_
    refine A_is4 X dX11_valued_53 ?_
    refine lp_0 (P := fun i => ∀ t : Int, t = s + vP fs side set i → AW x 0 0 n h 55 [some (.ref tm), some (aI side), some (aI (set : Int)), some (aI t), some (aI (i : Int))] []) np ?_ ?_ s (by simp [vP])
    · intro t ht
      refine A_il4 X dX11_valued_55 ?_
      refine A_al0 X dX11_valued_57 ?_
      refine A_getf X flX11_7 h_this rfl dX11_valued_58 ?_
      refine A_iconst X dX11_valued_61 ?_
      refine A_iald X h_this_suit (by omega) dX11_valued_62 ?_
      refine A_icmp_ge (t := 127) X (by omega) (by omega) dX11_valued_63 (fun c63 => ?_) (fun c63 => by exfalso; omega)
      refine A_il3 X dX11_valued_127 ?_
      exact A_ret X dX11_valued_128 rfl ⟨congrArg (fun t => some (aI t)) (by unfold vl; rw [hg, hnp, ht, hs]; rfl), rfl, rfl⟩
    · intro i hi ih t ht
      have hb1 := hpp (i : Int) (by omega) (by omega)
      have hb2 := hm0 (24 + 4 * side + (i : Int)) (by omega) (by omega)
      refine A_il4 X dX11_valued_55 ?_
      refine A_al0 X dX11_valued_57 ?_
      refine A_getf X flX11_7 h_this rfl dX11_valued_58 ?_
      refine A_iconst X dX11_valued_61 ?_
      refine A_iald X h_this_suit (by omega) dX11_valued_62 ?_
      refine A_icmp_ge (t := 127) X (by omega) (by omega) dX11_valued_63 (fun c63 => by exfalso; omega) (fun c63 => ?_)
      refine A_il3 X dX11_valued_66 ?_
      refine A_il2 X dX11_valued_67 ?_
      refine A_al0 X dX11_valued_68 ?_
      refine A_getf X flX11_7 h_this rfl dX11_valued_69 ?_
      refine A_bipush X dX11_valued_72 ?_
      refine A_il4 X dX11_valued_74 ?_
      refine A_iadd X dX11_valued_76 ?_
      refine A_iald X h_this_suit (by omega) dX11_valued_77 ?_
      refine A_dSi2 X (m_has set (fs (16 + (i : Int))).toNat rfl (by omega) hset (by omega)) knX11_has mlX11_97 dX11_valued_78 ?_
      refine A_ifb_eq (t := 118) X dX11_valued_81 (fun c81 => ?_) (fun c81 => ?_)
      · refine A_iconst X dX11_valued_118 ?_
        refine A_iadd X dX11_valued_119 ?_
        refine A_is3 X dX11_valued_120 ?_
        refine A_ii4 X dX11_valued_121 ?_
        refine A_goto (t := 55) X dX11_valued_124 ?_
        exact ih _ (by rw [ht, vP, if_neg (fun q => c81 q.1), Int.add_assoc])
      · refine A_il2 X dX11_valued_84 ?_
        refine A_al0 X dX11_valued_85 ?_
        refine A_getf X flX11_7 h_this rfl dX11_valued_86 ?_
        refine A_bipush X dX11_valued_89 ?_
        refine A_il4 X dX11_valued_91 ?_
        refine A_iadd X dX11_valued_93 ?_
        refine A_iald X h_this_suit (by omega) dX11_valued_94 ?_
        refine A_dSi2 X (m_has set (fs (20 + (i : Int))).toNat rfl (by omega) hset (by omega)) knX11_has mlX11_97 dX11_valued_95 ?_
        refine A_ifb_eq (t := 118) X dX11_valued_98 (fun c98 => ?_) (fun c98 => ?_)
        · refine A_iconst X dX11_valued_118 ?_
          refine A_iadd X dX11_valued_119 ?_
          refine A_is3 X dX11_valued_120 ?_
          refine A_ii4 X dX11_valued_121 ?_
          refine A_goto (t := 55) X dX11_valued_124 ?_
          exact ih _ (by rw [ht, vP, if_neg (fun q => c98 q.2), Int.add_assoc])
        · refine A_al0 X dX11_valued_101 ?_
          refine A_getf X flX11_7 h_this rfl dX11_valued_102 ?_
          refine A_bipush X dX11_valued_105 ?_
          refine A_iconst X dX11_valued_107 ?_
          refine A_il1 X dX11_valued_108 ?_
          refine A_imul X dX11_valued_109 ?_
          refine A_iadd X dX11_valued_110 ?_
          refine A_il4 X dX11_valued_111 ?_
          refine A_iadd X dX11_valued_113 ?_
          refine A_iald X h_this_suit (by omega) dX11_valued_114 ?_
          refine A_goto (t := 119) X dX11_valued_115 ?_
          refine A_iadd X dX11_valued_119 ?_
          refine A_is3 X dX11_valued_120 ?_
          refine A_ii4 X dX11_valued_121 ?_
          refine A_goto (t := 55) X dX11_valued_124 ?_
          exact ih _ (by rw [ht, vP, if_pos ⟨c81, c98⟩, Int.add_assoc])
  · intro i hi ih s hs
    have hb2 := hw0 (4 + 6 * side + (i : Int)) (by omega) (by omega)
    refine A_il4 X dX11_valued_5 ?_
    refine A_al0 X dX11_valued_7 ?_
    refine A_getf X flX11_7 h_this rfl dX11_valued_8 ?_
    refine A_iconst X dX11_valued_11 ?_
    refine A_iald X h_this_suit (by omega) dX11_valued_12 ?_
    refine A_icmp_ge (t := 52) X (by omega) (by omega) dX11_valued_13 (fun c13 => by exfalso; omega) (fun c13 => ?_)
    refine A_il3 X dX11_valued_16 ?_
    refine A_il2 X dX11_valued_17 ?_
    refine A_il4 X dX11_valued_18 ?_
    refine A_dSi2 X (m_has set i rfl rfl hset (by omega)) knX11_has mlX11_97 dX11_valued_20 ?_
    refine A_ifb_eq (t := 43) X dX11_valued_23 (fun c23 => ?_) (fun c23 => ?_)
    · refine A_iconst X dX11_valued_43 ?_
      refine A_iadd X dX11_valued_44 ?_
      refine A_is3 X dX11_valued_45 ?_
      refine A_ii4 X dX11_valued_46 ?_
      refine A_goto (t := 5) X dX11_valued_49 ?_
      exact ih _ (by rw [hs, vW, if_neg c23])
    · refine A_al0 X dX11_valued_26 ?_
      refine A_getf X flX11_7 h_this rfl dX11_valued_27 ?_
      refine A_iconst X dX11_valued_30 ?_
      refine A_bipush X dX11_valued_31 ?_
      refine A_il1 X dX11_valued_33 ?_
      refine A_imul X dX11_valued_34 ?_
      refine A_iadd X dX11_valued_35 ?_
      refine A_il4 X dX11_valued_36 ?_
      refine A_iadd X dX11_valued_38 ?_
      refine A_iald X h_this_suit (by omega) dX11_valued_39 ?_
      refine A_goto (t := 44) X dX11_valued_40 ?_
      refine A_iadd X dX11_valued_44 ?_
      refine A_is3 X dX11_valued_45 ?_
      refine A_ii4 X dX11_valued_46 ?_
      refine A_goto (t := 5) X dX11_valued_49 ?_
      exact ih _ (by rw [hs, vW, if_pos c23])
/-- the goods of an owner, as bits -/
def gO (fn : Int → Int) (ow : Int) : Nat → Nat
  | 0 => 0
  | k + 1 => gO fn ow k ||| (if fn (k : Int) = ow then 1 * 2 ^ k else 0)
theorem gO_b {fn : Int → Int} {ow : Int} : ∀ k : Nat, gO fn ow k < 2 ^ k
  | 0 => by simp [gO]
  | k + 1 => by
    have ih := gO_b (fn := fn) (ow := ow) k
    have h2 : 2 ^ k < 2 ^ (k + 1) := Nat.pow_lt_pow_right (by omega) (by omega)
    unfold gO
    refine Nat.or_lt_two_pow (by omega) ?_
    split <;> omega
set_option maxRecDepth 100000 in
theorem m_goodsOf {G : aG} {d n : Nat} {h : AH} {tm : Nat} {un sz sm tr ak bg mt : Int} {fs fn : Int → Int} {ow : Int} (g : Nat) (hg : fs 0 = (g : Int)) (h6 : g ≤ 6) (hn : ∀ k : Int, 0 ≤ k → k < 6 → 0 ≤ fn k ∧ fn k ≤ 2) (how : inR ow) (h_this : h tm = some (aOb 11 (mO tm un sz sm tr ak bg mt))) (h_this_suit : h (tm + 1) = some (aIa G 32 fs)) (h_this_now : h (tm + 3) = some (aIa G 9 fn)) : aD G d kX11_goodsOf [.ref tm, aI ow] n h (some (aI (gO fn ow g : Nat))) := by
  refine aCt_of (lv := [some (.ref tm), some (aI ow), none, none]) knX11_goodsOf.1 rfl rfl (Nat.le_of_ble_eq_true rfl) (fun x hG hsc X => ?_)
  subst hG
  refine A_iconst X dX11_goodsOf_0 ?_
  refine A_is2 X dX11_goodsOf_1 ?_
  refine A_iconst X dX11_goodsOf_2 ?_
  refine A_is3 X dX11_goodsOf_3 ?_
  refine lp_0 (P := fun i => ∀ s : Nat, s = gO fn ow i → AW x 0 0 n h 4 [some (.ref tm), some (aI ow), some (aI (s : Int)), some (aI (i : Int))] []) g ?_ ?_ 0 rfl
  · intro s hs
    refine A_il3 X dX11_goodsOf_4 ?_
    refine A_al0 X dX11_goodsOf_5 ?_
    refine A_getf X flX11_7 h_this rfl dX11_goodsOf_6 ?_
    refine A_iconst X dX11_goodsOf_9 ?_
    refine A_iald X h_this_suit (by omega) dX11_goodsOf_10 ?_
    refine A_icmp_ge (t := 42) X (by omega) (by omega) dX11_goodsOf_11 (fun c11 => ?_) (fun c11 => by exfalso; omega)
    refine A_il2 X dX11_goodsOf_42 ?_
    exact A_ret X dX11_goodsOf_43 rfl ⟨congrArg (fun t => some (aI t)) (by rw [hs]), rfl, rfl⟩
  · intro i hi ih s hs
    have hb := hn (0 + (i : Int)) (by omega) (by omega)
    refine A_il3 X dX11_goodsOf_4 ?_
    refine A_al0 X dX11_goodsOf_5 ?_
    refine A_getf X flX11_7 h_this rfl dX11_goodsOf_6 ?_
    refine A_iconst X dX11_goodsOf_9 ?_
    refine A_iald X h_this_suit (by omega) dX11_goodsOf_10 ?_
    refine A_icmp_ge (t := 42) X (by omega) (by omega) dX11_goodsOf_11 (fun c11 => by exfalso; omega) (fun c11 => ?_)
    refine A_il2 X dX11_goodsOf_14 ?_
    refine A_al0 X dX11_goodsOf_15 ?_
    refine A_getf X flX11_16 h_this rfl dX11_goodsOf_16 ?_
    refine A_iconst X dX11_goodsOf_19 ?_
    refine A_il3 X dX11_goodsOf_20 ?_
    refine A_iadd X dX11_goodsOf_21 ?_
    refine A_iald X h_this_now (by omega) dX11_goodsOf_22 ?_
    refine A_il1 X dX11_goodsOf_23 ?_
    refine A_icmp_ne (t := 33) X (by omega) (by omega) dX11_goodsOf_24 (fun c24 => ?_) (fun c24 => ?_)
    · rw [Int.zero_add] at c24
      refine A_iconst X dX11_goodsOf_33 ?_
      refine A_ior X s 0 rfl rfl dX11_goodsOf_34 ?_
      refine A_is2 X dX11_goodsOf_35 ?_
      refine A_ii3 X dX11_goodsOf_36 ?_
      refine A_goto (t := 4) X dX11_goodsOf_39 ?_
      exact ih _ (by rw [hs, gO, if_neg c24])
    · rw [Int.zero_add] at c24
      refine A_iconst X dX11_goodsOf_27 ?_
      refine A_il3 X dX11_goodsOf_28 ?_
      refine A_ishl X 1 i rfl rfl (by omega) (by have := p2b (show i ≤ 6 by omega); omega) dX11_goodsOf_29 ?_
      refine A_goto (t := 34) X dX11_goodsOf_30 ?_
      refine A_ior X s (1 * 2 ^ i) rfl rfl dX11_goodsOf_34 ?_
      refine A_is2 X dX11_goodsOf_35 ?_
      refine A_ii3 X dX11_goodsOf_36 ?_
      refine A_goto (t := 4) X dX11_goodsOf_39 ?_
      exact ih _ (by rw [hs, gO, if_pos c24])
/-- how many bits, of six -/
def pct (s : Nat) : Nat := s % 2 + s / 2 % 2 + s / 4 % 2 + s / 8 % 2 + s / 16 % 2 + s / 32 % 2
theorem pct_s : ∀ s : Nat, s < 64 → s ≠ 0 → pct (s &&& (s - 1)) + 1 = pct s ∧ (s &&& (s - 1)) < s := by decide
set_option maxRecDepth 100000 in
theorem m_bits_l {d : Nat} {x : aX} {n : Nat} {h : AH} {post : aPost} (X : aOk x d cX11_bits RX11 "bits" (some .int) 0 0 post) (s : Nat) (hp : post (some (aI (pct s : Nat))) n h) : ∀ (k l c : Nat), l ≤ k → l < 64 → c + pct l = pct s → AW x 0 0 n h 4 [some (aI (s : Int)), some (aI (c : Int)), some (aI (l : Int))] [] := by
  intro k
  induction k with
  | zero =>
    intro l c hl h64 hc
    obtain rfl : l = 0 := by omega
    have h0 : pct 0 = 0 := by decide
    refine A_il2 X dX11_bits_4 ?_
    refine A_if_eq (t := 20) X (by omega) dX11_bits_5 (fun c5 => ?_) (fun c5 => by exfalso; omega)
    refine A_il1 X dX11_bits_20 ?_
    rw [show (c : Int) = (pct s : Nat) by omega]; exact A_ret X dX11_bits_21 rfl hp
  | succ k ih =>
    intro l c hl h64 hc
    by_cases hl0 : l = 0
    · exact ih l c (by omega) h64 hc
    · have h1 := pct_s l h64 hl0
      have h2 : ((l : Int) - 1) = ((l - 1 : Nat) : Int) := by omega
      refine A_il2 X dX11_bits_4 ?_
      refine A_if_eq (t := 20) X (by omega) dX11_bits_5 (fun c5 => by exfalso; omega) (fun c5 => ?_)
      refine A_ii1 X dX11_bits_8 ?_
      refine A_il2 X dX11_bits_11 ?_
      refine A_il2 X dX11_bits_12 ?_
      refine A_iconst X dX11_bits_13 ?_
      refine A_isub X dX11_bits_14 ?_
      refine A_iand X l (l - 1) rfl h2 dX11_bits_15 ?_
      refine A_is2 X dX11_bits_16 ?_
      refine A_goto (t := 4) X dX11_bits_17 ?_
      exact ih (l &&& (l - 1)) (c + 1) (by have := h1.2; omega) (by have := h1.2; omega) (by have := h1.1; omega)
set_option maxRecDepth 100000 in
theorem m_bits {G : aG} {d n : Nat} {h : AH} {z : Int} (s : Nat) (hz : z = (s : Int)) (h6 : s < 64) : aD G d kX11_bits [aI z] n h (some (aI (pct s : Nat))) := by
  refine aCt_of (lv := [some (aI z), none, none]) knX11_bits.1 rfl rfl (Nat.le_of_ble_eq_true rfl) (fun x hG hsc X => ?_)
  subst hG
  subst hz
  refine A_iconst X dX11_bits_0 ?_
  refine A_is1 X dX11_bits_1 ?_
  refine A_il0 X dX11_bits_2 ?_
  refine A_is2 X dX11_bits_3 ?_
  exact m_bits_l X s ⟨rfl, rfl, rfl⟩ s s 0 (Nat.le_refl s) h6 (by omega)
