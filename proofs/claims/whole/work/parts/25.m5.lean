/-! the reference: odds, lies, answers -/
def wy (fs : Int → Int) (p : Int) (r : Nat) : Nat → Int
  | 0 => bI (frQ fs r)
  | k + 1 => wy fs p r k * (if hasB r k then 10 - p else p)
def ab (fs : Int → Int) (p : Int) : Nat → Int
  | 0 => 0
  | k + 1 => ab fs p k + wy fs p k (fs 0).toNat
theorem wy_b {fs : Int → Int} {p : Int} (hp : 0 ≤ p ∧ p ≤ 10) (r : Nat) : ∀ k : Nat, 0 ≤ wy fs p r k ∧ wy fs p r k ≤ ((10 ^ k : Nat) : Int)
  | 0 => by rcases bI_or (p := frQ fs r) with e | e <;> simp [wy, e]
  | k + 1 => by
    have ih := wy_b (fs := fs) hp r k
    have hq : 0 ≤ (if hasB r k then 10 - p else p) ∧ (if hasB r k then 10 - p else p) ≤ 10 := by split <;> omega
    unfold wy
    generalize (if hasB r k then 10 - p else p) = q at hq ⊢
    refine ⟨Int.mul_nonneg ih.1 hq.1, ?_⟩
    rw [Nat.pow_succ, Int.natCast_mul]
    exact Int.mul_le_mul ih.2 hq.2 hq.1 (by omega)
theorem p10 {g : Nat} (h : g ≤ 6) : 1 ≤ 10 ^ g ∧ 10 ^ g ≤ 1000000 := ⟨Nat.one_le_iff_ne_zero.mpr (by have := Nat.pow_pos (n := g) (show 0 < 10 by omega); omega), Nat.pow_le_pow_right (n := 10) (by omega) h⟩
theorem ab_b {fs : Int → Int} (hg : 0 ≤ fs 0 ∧ fs 0 ≤ 6) {p : Int} (hp : 0 ≤ p ∧ p ≤ 10) : ∀ k : Nat, 0 ≤ ab fs p k ∧ ab fs p k ≤ 1000000 * (k : Int)
  | 0 => by simp [ab]
  | k + 1 => by
    have ih := ab_b hg hp k
    have a := wy_b (fs := fs) hp k (fs 0).toNat
    have b := p10 (show (fs 0).toNat ≤ 6 by omega)
    unfold ab
    omega
def qOdds (fs : Int → Int) (p w : Int) : Int := if (0 ≤ p ∧ p ≤ 10) ∧ (0 ≤ w ∧ w ≤ 1) then (if w = 0 then ab fs p (al fs) / ((Nat.gcd (ab fs p (al fs)).toNat (10 ^ (fs 0).toNat) : Nat) : Int) else ((10 ^ (fs 0).toNat : Nat) : Int) / ((Nat.gcd (ab fs p (al fs)).toNat (10 ^ (fs 0).toNat) : Nat) : Int)) else -1
set_option maxRecDepth 100000 in
theorem m_odds {G : aG} {d n : Nat} {h : AH} {tm : Nat} {un sz sm tr ak bg mt : Int} {fs : Int → Int} {p w : Int} (hpr : inR p) (hw : inR w) (hok : sOK fs) (h_this : h tm = some (aOb 11 (mO tm un sz sm tr ak bg mt))) (h_this_suit : h (tm + 1) = some (aIa G 32 fs)) : aD G (d + 4) kX11_odds [.ref tm, aI p, aI w] n h (some (aI (qOdds fs p w))) := by
  refine aCt_of (lv := [some (.ref tm), some (aI p), some (aI w), none, none, none, none, none]) knX11_odds.1 rfl rfl (Nat.le_of_ble_eq_true rfl) (fun x hG hsc X => ?_)
  subst hG
  have hg := hok.1
  have h2 := al_b hg
  obtain ⟨g, hgn⟩ := Int.eq_ofNat_of_zero_le hg.1
  have hgt : (fs 0).toNat = g := by omega
  have h10 := p10 (show g ≤ 6 by omega)
  refine A_il1 X dX11_odds_0 ?_
  refine A_i2l X (by omega) dX11_odds_1 ?_
  refine A_lconst (z := 0) X dX11_odds_2 ?_
  refine A_ldc2 (z := 10) X kcX11_181 dX11_odds_3 ?_
  refine A_dSi3 X (m_in (by omega) (by omega) (by omega)) knX11_in mlX11_57 dX11_odds_6 ?_
  refine A_ifb_eq (t := 19) X dX11_odds_9 (fun c9 => by exact A_iconst X dX11_odds_19 (A_ret X dX11_odds_20 rfl ⟨congrArg (fun t => some (aI t)) (by rw [qOdds, if_neg (fun q => c9 q.1)]), rfl, rfl⟩)) (fun c9 => ?_)
  refine A_il2 X dX11_odds_12 ?_
  refine A_dSi1 X (m_isTwo (by omega)) knX11_isTwo mlX11_119 dX11_odds_13 ?_
  refine A_ifb_ne (t := 21) X dX11_odds_16 (fun c16 => ?_) (fun c16 => by exact A_iconst X dX11_odds_19 (A_ret X dX11_odds_20 rfl ⟨congrArg (fun t => some (aI t)) (by rw [qOdds, if_neg (fun q => c16 q.2)]), rfl, rfl⟩))
  rw [qOdds, if_pos ⟨c9, c16⟩, hgt] at X
  refine A_iconst X dX11_odds_21 ?_
  refine A_is3 X dX11_odds_22 ?_
  refine A_iconst X dX11_odds_23 ?_
  refine A_is4 X dX11_odds_24 ?_
  refine A_iconst X dX11_odds_26 ?_
  refine A_is5 X dX11_odds_27 ?_
  refine lp_0 (P := fun i => ∀ (s : Int), s = ((10 ^ i : Nat) : Int) → AW x 0 0 n h 29 [some (.ref tm), some (aI p), some (aI w), some (aI 0), some (aI s), some (aI (i : Int)), none, none] []) g ?_ ?_ 1 rfl
  · intro s hs
    refine A_il5 X dX11_odds_29 ?_
    refine A_al0 X dX11_odds_31 ?_
    refine A_getf X flX11_7 h_this rfl dX11_odds_32 ?_
    refine A_iconst X dX11_odds_35 ?_
    refine A_iald X h_this_suit (by omega) dX11_odds_36 ?_
    refine A_icmp_ge (t := 53) X (by omega) (by omega) dX11_odds_37 (fun c37 => ?_) (fun c37 => by exfalso; omega)
    refine A_iconst X dX11_odds_53 ?_
    refine A_is5 X dX11_odds_54 ?_
    refine lp_0 (P := fun i => ∀ (t : Int), t = ab fs p i → AW x 0 0 n h 56 [some (.ref tm), some (aI p), some (aI w), some (aI t), some (aI s), some (aI (i : Int)), none, none] []) (al fs) ?_ ?_ 0 rfl
    · intro t ht
      have htb := ab_b hg c9 (al fs)
      rw [← ht] at htb X
      rw [← hs] at X
      have hgp : 0 < Nat.gcd t.toNat (10 ^ g) := Nat.gcd_pos_of_pos_right _ (by omega)
      have hgl : Nat.gcd t.toNat (10 ^ g) ≤ 10 ^ g := Nat.le_of_dvd (by omega) (Nat.gcd_dvd_right _ _)
      have key : ∀ (k a b : Nat), b ≤ k → a < 2147483648 → b < 2147483648 → Nat.gcd a b = Nat.gcd t.toNat (10 ^ g) → AW x 0 0 n h 142 [some (.ref tm), some (aI p), some (aI w), some (aI t), some (aI s), some (aI (a : Int)), some (aI (b : Int)), none] [] := by
        intro k
        induction k with
        | zero =>
          intro a b hb ha hb2 hgc
          obtain rfl : b = 0 := by omega
          rw [Nat.gcd_zero_right] at hgc
          subst hgc
          refine A_il6 X dX11_odds_142 ?_
          refine A_if_eq (t := 165) X (by omega) dX11_odds_144 (fun c144 => ?_) (fun c144 => by exfalso; omega)
          refine A_il2 X dX11_odds_165 ?_
          refine A_if_ne (t := 176) X (by omega) dX11_odds_166 (fun c166 => ?_) (fun c166 => ?_)
          · refine A_il4 X dX11_odds_176 ?_
            refine A_il5 X dX11_odds_178 ?_
            refine A_idiv X (by omega) (by omega) dX11_odds_180 ?_
            exact A_ret X dX11_odds_181 rfl ⟨congrArg (fun t => some (aI t)) (by rw [if_neg c166]), rfl, rfl⟩
          · refine A_il3 X dX11_odds_169 ?_
            refine A_il5 X dX11_odds_170 ?_
            refine A_idiv X (by omega) (by omega) dX11_odds_172 ?_
            refine A_goto (t := 181) X dX11_odds_173 ?_
            exact A_ret X dX11_odds_181 rfl ⟨congrArg (fun t => some (aI t)) (by rw [if_pos c166]), rfl, rfl⟩
        | succ k ih =>
          intro a b hb ha hb2 hgc
          by_cases hb0 : b = 0
          · exact ih a b (by omega) ha hb2 hgc
          · have hm := Nat.mod_lt a (show b > 0 by omega)
            refine A_il6 X dX11_odds_142 ?_
            refine A_if_eq (t := 165) X (by omega) dX11_odds_144 (fun c144 => by exfalso; omega) (fun c144 => ?_)
            refine A_il5 X dX11_odds_147 ?_
            refine A_il6 X dX11_odds_149 ?_
            refine A_irem X (by omega) (by omega) dX11_odds_151 ?_
            refine A_is7 X dX11_odds_152 ?_
            refine A_il6 X dX11_odds_154 ?_
            refine A_is5 X dX11_odds_156 ?_
            refine A_il7 X dX11_odds_158 ?_
            refine A_is6 X dX11_odds_160 ?_
            refine A_goto (t := 142) X dX11_odds_162 ?_
            exact A_fg7 (ih b (a % b) (by omega) hb2 (by omega) (by rw [← hgc, Nat.gcd_comm a b, Nat.gcd_rec b a, Nat.gcd_comm (a % b) b]))
      refine A_il5 X dX11_odds_56 ?_
      refine A_al0 X dX11_odds_58 ?_
      refine A_dVi0 X (m_all2 hg h_this h_this_suit) h_this knX11_all mlX11_122 dX11_odds_59 ?_
      refine A_icmp_gt (t := 135) X (by omega) (by omega) dX11_odds_62 (fun c62 => ?_) (fun c62 => by exfalso; omega)
      refine A_il3 X dX11_odds_135 ?_
      refine A_is5 X dX11_odds_136 ?_
      refine A_il4 X dX11_odds_138 ?_
      refine A_is6 X dX11_odds_140 ?_
      have e1 : t = ((t.toNat : Nat) : Int) := by omega
      have := key (10 ^ g) t.toNat (10 ^ g) (Nat.le_refl _) (by omega) (by omega) rfl
      rw [← e1, ← hs] at this
      exact this
    · intro i hi ih t ht
      refine A_il5 X dX11_odds_56 ?_
      refine A_al0 X dX11_odds_58 ?_
      refine A_dVi0 X (m_all2 hg h_this h_this_suit) h_this knX11_all mlX11_122 dX11_odds_59 ?_
      refine A_icmp_gt (t := 135) X (by omega) (by omega) dX11_odds_62 (fun c62 => by exfalso; omega) (fun c62 => ?_)
      refine A_al0 X dX11_odds_65 ?_
      refine A_il5 X dX11_odds_66 ?_
      refine A_dVi1 X (m_isFair i rfl (by omega) hok h_this h_this_suit) h_this knX11_isFair mlX11_153 dX11_odds_68 ?_
      refine A_ifb_eq (t := 78) X dX11_odds_71 (fun c71 => ?_) (fun c71 => ?_)
      · refine A_iconst X dX11_odds_78 ?_
        refine A_is6 X dX11_odds_79 ?_
        refine A_iconst X dX11_odds_81 ?_
        refine A_is7 X dX11_odds_82 ?_
        refine lp_0 (P := fun j => ∀ (u : Int), u = wy fs p i j → AW x 0 0 n h 84 [some (.ref tm), some (aI p), some (aI w), some (aI t), some (aI s), some (aI (i : Int)), some (aI u), some (aI (j : Int))] []) g ?_ ?_ 0 (by rw [wy, bI_f c71])
        · intro u hu
          refine A_il7 X dX11_odds_84 ?_
          refine A_al0 X dX11_odds_86 ?_
          refine A_getf X flX11_7 h_this rfl dX11_odds_87 ?_
          refine A_iconst X dX11_odds_90 ?_
          refine A_iald X h_this_suit (by omega) dX11_odds_91 ?_
          refine A_icmp_ge (t := 124) X (by omega) (by omega) dX11_odds_92 (fun c92 => ?_) (fun c92 => by exfalso; omega)
          refine A_il3 X dX11_odds_124 ?_
          refine A_il6 X dX11_odds_125 ?_
          refine A_iadd X dX11_odds_127 ?_
          refine A_is3 X dX11_odds_128 ?_
          refine A_ii5 X dX11_odds_129 ?_
          refine A_goto (t := 56) X dX11_odds_132 ?_
          exact A_fg6 (A_fg7 (ih _ (by rw [ht, ab, hgt, hu])))
        · intro j hj ih2 u hu
          refine A_il7 X dX11_odds_84 ?_
          refine A_al0 X dX11_odds_86 ?_
          refine A_getf X flX11_7 h_this rfl dX11_odds_87 ?_
          refine A_iconst X dX11_odds_90 ?_
          refine A_iald X h_this_suit (by omega) dX11_odds_91 ?_
          refine A_icmp_ge (t := 124) X (by omega) (by omega) dX11_odds_92 (fun c92 => by exfalso; omega) (fun c92 => ?_)
          refine A_il6 X dX11_odds_95 ?_
          refine A_il5 X dX11_odds_97 ?_
          refine A_il7 X dX11_odds_99 ?_
          refine A_dSi2 X (m_has i j rfl rfl (by omega) (by omega)) knX11_has mlX11_97 dX11_odds_101 ?_
          refine A_ifb_eq (t := 114) X dX11_odds_104 (fun c104 => ?_) (fun c104 => ?_)
          · refine A_il1 X dX11_odds_114 ?_
            refine A_imul X dX11_odds_115 ?_
            refine A_is6 X dX11_odds_116 ?_
            refine A_ii7 X dX11_odds_118 ?_
            refine A_goto (t := 84) X dX11_odds_121 ?_
            exact ih2 _ (by rw [hu, wy, if_neg c104])
          · refine A_bipush X dX11_odds_107 ?_
            refine A_il1 X dX11_odds_109 ?_
            refine A_isub X dX11_odds_110 ?_
            refine A_goto (t := 115) X dX11_odds_111 ?_
            refine A_imul X dX11_odds_115 ?_
            refine A_is6 X dX11_odds_116 ?_
            refine A_ii7 X dX11_odds_118 ?_
            refine A_goto (t := 84) X dX11_odds_121 ?_
            exact ih2 _ (by rw [hu, wy, if_pos c104])
      · refine A_iconst X dX11_odds_74 ?_
        refine A_goto (t := 79) X dX11_odds_75 ?_
        refine A_is6 X dX11_odds_79 ?_
        refine A_iconst X dX11_odds_81 ?_
        refine A_is7 X dX11_odds_82 ?_
        refine lp_0 (P := fun j => ∀ (u : Int), u = wy fs p i j → AW x 0 0 n h 84 [some (.ref tm), some (aI p), some (aI w), some (aI t), some (aI s), some (aI (i : Int)), some (aI u), some (aI (j : Int))] []) g ?_ ?_ 1 (by rw [wy, bI_t c71])
        · intro u hu
          refine A_il7 X dX11_odds_84 ?_
          refine A_al0 X dX11_odds_86 ?_
          refine A_getf X flX11_7 h_this rfl dX11_odds_87 ?_
          refine A_iconst X dX11_odds_90 ?_
          refine A_iald X h_this_suit (by omega) dX11_odds_91 ?_
          refine A_icmp_ge (t := 124) X (by omega) (by omega) dX11_odds_92 (fun c92 => ?_) (fun c92 => by exfalso; omega)
          refine A_il3 X dX11_odds_124 ?_
          refine A_il6 X dX11_odds_125 ?_
          refine A_iadd X dX11_odds_127 ?_
          refine A_is3 X dX11_odds_128 ?_
          refine A_ii5 X dX11_odds_129 ?_
          refine A_goto (t := 56) X dX11_odds_132 ?_
          exact A_fg6 (A_fg7 (ih _ (by rw [ht, ab, hgt, hu])))
        · intro j hj ih2 u hu
          refine A_il7 X dX11_odds_84 ?_
          refine A_al0 X dX11_odds_86 ?_
          refine A_getf X flX11_7 h_this rfl dX11_odds_87 ?_
          refine A_iconst X dX11_odds_90 ?_
          refine A_iald X h_this_suit (by omega) dX11_odds_91 ?_
          refine A_icmp_ge (t := 124) X (by omega) (by omega) dX11_odds_92 (fun c92 => by exfalso; omega) (fun c92 => ?_)
          refine A_il6 X dX11_odds_95 ?_
          refine A_il5 X dX11_odds_97 ?_
          refine A_il7 X dX11_odds_99 ?_
          refine A_dSi2 X (m_has i j rfl rfl (by omega) (by omega)) knX11_has mlX11_97 dX11_odds_101 ?_
          refine A_ifb_eq (t := 114) X dX11_odds_104 (fun c104 => ?_) (fun c104 => ?_)
          · refine A_il1 X dX11_odds_114 ?_
            refine A_imul X dX11_odds_115 ?_
            refine A_is6 X dX11_odds_116 ?_
            refine A_ii7 X dX11_odds_118 ?_
            refine A_goto (t := 84) X dX11_odds_121 ?_
            exact ih2 _ (by rw [hu, wy, if_neg c104])
          · refine A_bipush X dX11_odds_107 ?_
            refine A_il1 X dX11_odds_109 ?_
            refine A_isub X dX11_odds_110 ?_
            refine A_goto (t := 115) X dX11_odds_111 ?_
            refine A_imul X dX11_odds_115 ?_
            refine A_is6 X dX11_odds_116 ?_
            refine A_ii7 X dX11_odds_118 ?_
            refine A_goto (t := 84) X dX11_odds_121 ?_
            exact ih2 _ (by rw [hu, wy, if_pos c104])
  · intro i hi ih s hs
    refine A_il5 X dX11_odds_29 ?_
    refine A_al0 X dX11_odds_31 ?_
    refine A_getf X flX11_7 h_this rfl dX11_odds_32 ?_
    refine A_iconst X dX11_odds_35 ?_
    refine A_iald X h_this_suit (by omega) dX11_odds_36 ?_
    refine A_icmp_ge (t := 53) X (by omega) (by omega) dX11_odds_37 (fun c37 => by exfalso; omega) (fun c37 => ?_)
    refine A_il4 X dX11_odds_40 ?_
    refine A_bipush X dX11_odds_42 ?_
    refine A_imul X dX11_odds_44 ?_
    refine A_is4 X dX11_odds_45 ?_
    refine A_ii5 X dX11_odds_47 ?_
    refine A_goto (t := 29) X dX11_odds_50 ?_
    exact ih _ (by rw [hs, Nat.pow_succ, Int.natCast_mul]; rfl)
/-! lies -/
def qG (fs : Int → Int) (side g told : Int) : Int := if bs (aiu fs (4 + 6 * side + g) told) 1 (al fs) = -9 then 0 else vl fs side (if side = 1 then (bs (aiu fs (4 + 6 * side + g) told) 1 (al fs)).toNat else cm fs (bs (aiu fs (4 + 6 * side + g) told) 1 (al fs)).toNat)
theorem qG_b {fs : Int → Int} (hok : sOK fs) {side : Int} (h1 : side = 0 ∨ side = 1) (g told : Int) : 0 ≤ qG fs side g told ∧ qG fs side g told ≤ 200 := by
  unfold qG
  split
  · omega
  · exact vl_b hok h1 _
theorem sOK_aiu {fs : Int → Int} (hok : sOK fs) {z v : Int} (hz : 4 ≤ z ∧ z < 16) (hv : 0 ≤ v ∧ v ≤ 20) : sOK (aiu fs z v) := by
  obtain ⟨h1, h2, h3, h4, h5, h6, h7⟩ := hok
  have e : ∀ k : Int, k < 4 ∨ 16 ≤ k → aiu fs z v k = fs k := fun k hk => aiu_n (by omega)
  refine ⟨by rw [e 0 (by omega)]; exact h1, by rw [e 1 (by omega)]; exact h2, by rw [e 2 (by omega)]; exact h3, by rw [e 3 (by omega)]; exact h4, ?_, ?_, ?_⟩
  · intro k hk1 hk2
    unfold aiu
    split
    · exact hv
    · exact h5 k hk1 hk2
  · intro p hp1 hp2
    rw [e 1 (by omega)] at hp2
    rw [e (16 + p) (by omega), e (20 + p) (by omega), e 0 (by omega)]
    exact h6 p hp1 hp2
  · intro k hk1 hk2
    rw [e k (by omega)]
    exact h7 k hk1 hk2
theorem aiu_back (f : Int → Int) (z v : Int) : aiu (aiu f z v) z (f z) = f := by
  funext k
  unfold aiu
  split
  · next h => rw [h]
  · rfl
theorem aup_back {h : AH} {a : Nat} {e e1 : va_E} (ha : h a = some e) : aup (aup h a e1) a e = h := by
  funext q
  unfold aup
  split
  · next hq => rw [hq, ha]
  · rfl
set_option maxRecDepth 100000 in
theorem m_gains {G : aG} {d n : Nat} {h : AH} {tm : Nat} {un sz sm tr ak bg mt : Int} {fs : Int → Int} {side g told : Int} (hsd : side = 0 ∨ side = 1) (hgg : 0 ≤ g ∧ g < 6) (ht : 0 ≤ told ∧ told ≤ 20) (hok : sOK fs) (h_this : h tm = some (aOb 11 (mO tm un sz sm tr ak bg mt))) (h_this_suit : h (tm + 1) = some (aIa G 32 fs)) : aD G (d + 5) kX11_gains [.ref tm, aI side, aI g, aI told] n h (some (aI (qG fs side g told))) := by
  refine aCt_of (lv := [some (.ref tm), some (aI side), some (aI g), some (aI told), none, none, none]) knX11_gains.1 rfl rfl (Nat.le_of_ble_eq_true rfl) (fun x hG hsc X => ?_)
  subst hG
  have hg := hok.1
  have hb := hok.2.2.2.2.1 (4 + 6 * side + g) (by omega) (by omega)
  have hs0 := h_this_suit
  have hok2 := sOK_aiu hok (z := 4 + 6 * side + g) (v := told) (by omega) ht
  have hal : al (aiu fs (4 + 6 * side + g) told) = al fs := by
    unfold al
    rw [aiu_n (by omega)]
  have hbs := bs_b (aiu fs (4 + 6 * side + g) told) 1 (al fs)
  have h2 := al_b hg
  refine A_iconst X dX11_gains_0 ?_
  refine A_bipush X dX11_gains_1 ?_
  refine A_il1 X dX11_gains_3 ?_
  refine A_imul X dX11_gains_4 ?_
  refine A_iadd X dX11_gains_5 ?_
  refine A_il2 X dX11_gains_6 ?_
  refine A_iadd X dX11_gains_7 ?_
  refine A_is4 X dX11_gains_8 ?_
  refine A_al0 X dX11_gains_10 ?_
  refine A_getf X flX11_7 h_this rfl dX11_gains_11 ?_
  refine A_il4 X dX11_gains_14 ?_
  refine A_iald X h_this_suit (by omega) dX11_gains_16 ?_
  refine A_is5 X dX11_gains_17 ?_
  refine A_al0 X dX11_gains_19 ?_
  refine A_getf X flX11_7 h_this rfl dX11_gains_20 ?_
  refine A_il4 X dX11_gains_23 ?_
  refine A_il3 X dX11_gains_25 ?_
  refine A_iast X h_this_suit (by omega) dX11_gains_26 ?_
  refine A_gen (fun h26 e26 k26 q26 => ?_)
  have h_this := (k26 _ (by omega)).trans h_this
  have h_this_suit := e26
  refine A_al0 X dX11_gains_27 ?_
  refine A_iconst X dX11_gains_28 ?_
  refine A_dVi1 X (m_best (Or.inr rfl) hok2 h_this h_this_suit) h_this knX11_best mlX11_161 dX11_gains_29 ?_
  rw [hal]
  refine A_is6 X dX11_gains_32 ?_
  refine A_al0 X dX11_gains_34 ?_
  refine A_getf X flX11_7 h_this rfl dX11_gains_35 ?_
  refine A_il4 X dX11_gains_38 ?_
  refine A_il5 X dX11_gains_40 ?_
  refine A_iast X h_this_suit (by omega) dX11_gains_42 ?_
  refine A_gen (fun h42 e42 k42 q42 => ?_)
  have h_this := (k42 _ (by omega)).trans h_this
  have h_this_suit := e42
  obtain rfl : h42 = h := by rw [q42, q26, aiu_back, aup_back hs0]
  generalize hbb : bs (aiu fs (4 + 6 * side + g) told) 1 (al fs) = b at hbs ⊢
  have hcm := cm_b hg b.toNat
  refine A_il6 X dX11_gains_43 ?_
  refine A_bipush X dX11_gains_45 ?_
  refine A_icmp_ne (t := 54) X (by omega) (by omega) dX11_gains_47 (fun c47 => ?_) (fun c47 => ?_)
  · refine A_al0 X dX11_gains_54 ?_
    refine A_il1 X dX11_gains_55 ?_
    refine A_il1 X dX11_gains_56 ?_
    refine A_iconst X dX11_gains_57 ?_
    refine A_icmp_ne (t := 66) X (by omega) (by omega) dX11_gains_58 (fun c58 => ?_) (fun c58 => ?_)
    · refine A_al0 X dX11_gains_66 ?_
      refine A_dVi0 X (m_all2 hg h_this h_this_suit) h_this knX11_all mlX11_122 dX11_gains_67 ?_
      refine A_il6 X dX11_gains_70 ?_
      refine A_iconst X dX11_gains_72 ?_
      refine A_ixorr X dX11_gains_73 ?_
      refine A_iandn X (al fs - 1) b.toNat rfl (by omega) dX11_gains_74 ?_
      refine A_dVi2 X (m_valued (cm fs b.toNat) rfl (by omega) hsd hok h_this h_this_suit) h_this knX11_valued mlX11_125 dX11_gains_75 ?_
      exact A_ret X dX11_gains_78 rfl ⟨congrArg (fun t => some (aI t)) (by rw [qG, hbb, if_neg c47, if_neg c58]), rfl, rfl⟩
    · refine A_il6 X dX11_gains_61 ?_
      refine A_goto (t := 75) X dX11_gains_63 ?_
      refine A_dVi2 X (m_valued b.toNat (by omega) (by omega) hsd hok h_this h_this_suit) h_this knX11_valued mlX11_125 dX11_gains_75 ?_
      exact A_ret X dX11_gains_78 rfl ⟨congrArg (fun t => some (aI t)) (by rw [qG, hbb, if_neg c47, if_pos c58]), rfl, rfl⟩
  · refine A_iconst X dX11_gains_50 ?_
    refine A_goto (t := 78) X dX11_gains_51 ?_
    exact A_ret X dX11_gains_78 rfl ⟨congrArg (fun t => some (aI t)) (by rw [qG, hbb, if_pos c47]), rfl, rfl⟩
def lsI (fs : Int → Int) (side had : Int) (k : Nat) : Int := qG fs side ((k / 21 : Nat) : Int) ((k % 21 : Nat) : Int) - had
def lsM (fs : Int → Int) (side had : Int) : Nat → Int
  | 0 => 0
  | k + 1 => if lsM fs side had k < lsI fs side had k then lsI fs side had k else lsM fs side had k
def lsF (fs : Int → Int) (side had : Int) : Nat → Int
  | 0 => -9
  | k + 1 => if lsM fs side had k < lsI fs side had k then 100 * ((k / 21 : Nat) : Int) + ((k % 21 : Nat) : Int) else lsF fs side had k
def lsH (fs : Int → Int) (side : Int) : Int := if fs 0 = 0 then 0 else qG fs side 0 (fs (4 + 6 * side))
def qLies (fs : Int → Int) (side w : Int) : Int := if (0 ≤ side ∧ side ≤ 1) ∧ (0 ≤ w ∧ w ≤ 1) then (if w = 0 then lsM fs side (lsH fs side) (21 * (fs 0).toNat) else lsF fs side (lsH fs side) (21 * (fs 0).toNat)) else -1
theorem lsM_b {fs : Int → Int} (hok : sOK fs) {side had : Int} (h1 : side = 0 ∨ side = 1) (hh : 0 ≤ had ∧ had ≤ 200) : ∀ k : Nat, 0 ≤ lsM fs side had k ∧ lsM fs side had k ≤ 200
  | 0 => by simp [lsM]
  | k + 1 => by
    have ih := lsM_b hok h1 hh k
    have := qG_b hok h1 ((k / 21 : Nat) : Int) ((k % 21 : Nat) : Int)
    unfold lsM lsI
    split <;> omega
