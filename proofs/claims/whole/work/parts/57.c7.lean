/-! the class: the reader's tokens -/
def rO (ra : Nat) (ln pl ts tk nu ht ct : Int) : List Value := [.ref (ra + 1), aI ln, aI pl, aI ts, aI tk, aI nu, aI ht, aI ct]
def cv (ft : Int → Int) (p : Nat) : Nat → Int
  | 0 => 0
  | k + 1 => min (10 * cv ft p k + ft ((p : Int) + (k : Int)) - 48) 21
theorem cv_n {ft : Int → Int} {p : Nat} : ∀ k : Nat, (∀ j : Nat, j < k → 48 ≤ ft ((p : Int) + (j : Int)) ∧ ft ((p : Int) + (j : Int)) ≤ 57) → cv ft p k = min (nvl ft p k) 21 ∧ 0 ≤ nvl ft p k
  | 0, _ => by unfold cv nvl; omega
  | k + 1, h => by
    have ih := cv_n (ft := ft) (p := p) k (fun j hj => h j (by omega))
    have := h k (by omega)
    unfold cv nvl
    split <;> omega
def lA (ft : Int → Int) (z : Nat) (i : Nat) : Int := if i < z then ft (i : Int) else 258
abbrev tkD (ft : Int → Int) (z p : Nat) : Prop := sk ft z p < z ∧ isDg (ft (sk ft z p : Int)) = true
def tkC (ft : Int → Int) (z p : Nat) : Int := cv ft (sk ft z p) (dg ft z (sk ft z p) - sk ft z p)
def tkV (ft : Int → Int) (z p : Nat) : Int := if tkD ft z p then (if (ft (sk ft z p : Int) = 48 ∧ 1 < dg ft z (sk ft z p) - sk ft z p) ∨ 20 < tkC ft z p then 257 else 256) else lA ft z (sk ft z p)
def tkP (ft : Int → Int) (z p : Nat) : Nat := if tkD ft z p then dg ft z (sk ft z p) else if sk ft z p < z then sk ft z p + 1 else sk ft z p
def tkN (ft : Int → Int) (z p : Nat) (nu : Int) : Int := if tkD ft z p then tkC ft z p else nu
set_option maxRecDepth 100000 in
theorem r_letterAt {G : aG} {d n : Nat} {h : AH} {ra : Nat} {ts tk nu hT cT : Int} {ft : Int → Int} {z : Nat} {i : Nat} {pl u : Int} (hu : u = (i : Int)) (hz : z ≤ 200) (hi : i ≤ z) (h_this : h ra = some (aOb 5 (rO ra (z : Int) pl ts tk nu hT cT))) (h_this_letters : h (ra + 1) = some (aIa G 200 ft)) : aD G d kX5_letterAt [.ref ra, aI u] n h (some (aI (lA ft z i))) := by
  subst hu
  refine aCt_of (lv := [some (.ref ra), some (aI (i : Int))]) knX5_letterAt.1 rfl rfl (Nat.le_of_ble_eq_true rfl) (fun x hG hsc X => ?_)
  subst hG
  refine A_il1 X dX5_letterAt_0 ?_
  refine A_if_lt (t := 28) X (by omega) dX5_letterAt_1 (fun c1 => by exfalso; omega) (fun c1 => ?_)
  refine A_il1 X dX5_letterAt_4 ?_
  refine A_al0 X dX5_letterAt_5 ?_
  refine A_getf X flX5_15 h_this rfl dX5_letterAt_6 ?_
  refine A_icmp_ge (t := 28) X (by omega) (by omega) dX5_letterAt_9 (fun c9 => ?_) (fun c9 => ?_)
  · refine A_sipush X dX5_letterAt_28 ?_
    exact A_ret X dX5_letterAt_31 rfl ⟨congrArg (fun t => some (aI t)) (by rw [lA, if_neg (by omega)]), rfl, rfl⟩
  · refine A_il1 X dX5_letterAt_12 ?_
    refine A_sipush X dX5_letterAt_13 ?_
    refine A_icmp_ge (t := 28) X (by omega) (by omega) dX5_letterAt_16 (fun c16 => by exfalso; omega) (fun c16 => ?_)
    refine A_al0 X dX5_letterAt_19 ?_
    refine A_getf X flX5_9 h_this rfl dX5_letterAt_20 ?_
    refine A_il1 X dX5_letterAt_23 ?_
    refine A_iald X h_this_letters (by omega) dX5_letterAt_24 ?_
    refine A_goto (t := 31) X dX5_letterAt_25 ?_
    exact A_ret X dX5_letterAt_31 rfl ⟨congrArg (fun t => some (aI t)) (by rw [lA, if_pos (by omega)]), rfl, rfl⟩
set_option maxRecDepth 100000 in
theorem r_isDigit {G : aG} {d n : Nat} {h : AH} {a : Int} (ha : inR a) : aD G d kX5_isDigit [aI a] n h (some (aI (bI (isDg a = true)))) := by
  refine aCt_of (lv := [some (aI a)]) knX5_isDigit.1 rfl rfl (Nat.le_of_ble_eq_true rfl) (fun x hG hsc X => ?_)
  subst hG
  refine A_il0 X dX5_isDigit_0 ?_
  refine A_bipush X dX5_isDigit_1 ?_
  refine A_icmp_lt (t := 16) X (by omega) (by omega) dX5_isDigit_3 (fun c3 => ?_) (fun c3 => ?_)
  · refine A_iconst X dX5_isDigit_16 ?_
    exact A_retz X dX5_isDigit_17 rfl (Or.inl rfl) ⟨bI_0 (fun q => by have := decide_eq_true_eq.mp q; omega), rfl, rfl⟩
  · refine A_il0 X dX5_isDigit_6 ?_
    refine A_bipush X dX5_isDigit_7 ?_
    refine A_icmp_gt (t := 16) X (by omega) (by omega) dX5_isDigit_9 (fun c9 => ?_) (fun c9 => ?_)
    · refine A_iconst X dX5_isDigit_16 ?_
      exact A_retz X dX5_isDigit_17 rfl (Or.inl rfl) ⟨bI_0 (fun q => by have := decide_eq_true_eq.mp q; omega), rfl, rfl⟩
    · refine A_iconst X dX5_isDigit_12 ?_
      refine A_goto (t := 17) X dX5_isDigit_13 ?_
      exact A_retz X dX5_isDigit_17 rfl (Or.inr rfl) ⟨bI_1 (decide_eq_true_eq.mpr (by omega)), rfl, rfl⟩
theorem lA_b {ft : Int → Int} {z i : Nat} (ht : tOK ft z) : 0 ≤ lA ft z i ∧ lA ft z i ≤ 258 := by
  unfold lA
  split
  · have := ht (i : Int) (by omega) (by omega); omega
  · omega
theorem lA_dg {ft : Int → Int} {z i : Nat} : isDg (lA ft z i) = true ↔ (i < z ∧ isDg (ft (i : Int)) = true) := by
  unfold lA
  split
  · next h => exact ⟨fun q => ⟨h, q⟩, fun q => q.2⟩
  · next h => exact ⟨fun q => absurd q (by decide), fun q => absurd q.1 h⟩
set_option maxRecDepth 100000 in
theorem r_take {G : aG} {d n : Nat} {h : AH} {ra : Nat} {ts tk nu hT cT : Int} {ft : Int → Int} {z p : Nat} (hz : z ≤ 200) (hp : p ≤ z) (ht : tOK ft z) {s : Nat} (hs : s ≤ p) (hps : p = s) (hd : s < z ∧ isDg (ft (s : Int)) = true) (h_this : h ra = some (aOb 5 (rO ra (z : Int) (p : Int) (s : Int) tk nu hT cT))) (h_this_letters : h (ra + 1) = some (aIa G 200 ft)) : aE G (d + 1) kX5_takeNumber [.ref ra] n h none (fun h' => h' ra = some (aOb 5 (rO ra (z : Int) (dg ft z s : Nat) (s : Int) (if (ft (s : Int) = 48 ∧ 1 < dg ft z s - s) ∨ 20 < cv ft s (dg ft z s - s) then 257 else 256) (cv ft s (dg ft z s - s)) hT cT)) ∧ ∀ q, q ≠ ra → h' q = h q) := by
  subst hps
  have hdb := dg_b (ft := ft) (z := z) (p := p) hp
  have hdi := dg_in (ft := ft) (z := z) (z - p) p (Nat.le_refl _) hp
  have hft := ht (p : Int) (by omega) (by omega)
  have hcvb : ∀ k : Nat, k ≤ dg ft z p - p → 0 ≤ cv ft p k ∧ cv ft p k ≤ 21 := fun k hk => by
    have := cv_n (ft := ft) (p := p) k (fun j hj => hdi j (by omega))
    omega
  refine aCt_of (lv := [some (.ref ra), none]) knX5_takeNumber.1 rfl rfl (Nat.le_of_ble_eq_true rfl) (fun x hG hsc X => ?_)
  subst hG
  have key : ∀ (k c : Nat) (hh : AH), dg ft z p - (p + c) < k → p + c ≤ dg ft z p → dg ft z (p + c) = dg ft z p → hh ra = some (aOb 5 (rO ra (z : Int) ((p + c : Nat) : Int) (p : Int) tk (cv ft p c) hT cT)) → (∀ q, q ≠ ra → hh q = h q) → AW x 0 0 n hh 5 [some (.ref ra), none] [] := by
    have fin : ∀ (c : Nat) (hh : AH), p + c = dg ft z p → hh ra = some (aOb 5 (rO ra (z : Int) ((p + c : Nat) : Int) (p : Int) tk (cv ft p c) hT cT)) → (∀ q, q ≠ ra → hh q = h q) → AW x 0 0 n hh 71 [some (.ref ra), none] [] := by
      intro c hh hc h_this hq
      have h_this_letters := (hq (ra + 1) (by omega)).trans h_this_letters
      have hcb := hcvb c (by omega)
      have ec : dg ft z p - p = c := by omega
      have el : lA ft z p = ft (p : Int) := if_pos hd.1
      refine A_al0 X dX5_takeNumber_71 ?_
      refine A_getf X flX5_24 h_this rfl dX5_takeNumber_72 ?_
      refine A_al0 X dX5_takeNumber_75 ?_
      refine A_getf X flX5_53 h_this rfl dX5_takeNumber_76 ?_
      refine A_isub X dX5_takeNumber_79 ?_
      refine A_iconst X dX5_takeNumber_80 ?_
      refine A_icmp_le (t := 101) X (by omega) (by omega) dX5_takeNumber_81 (fun c81 => ?_) (fun c81 => ?_)
      · refine A_iconst X dX5_takeNumber_101 ?_
        refine A_is1 X dX5_takeNumber_102 ?_
        refine A_al0 X dX5_takeNumber_103 ?_
        refine A_il1 X dX5_takeNumber_104 ?_
        refine A_if_ne (t := 117) X (by omega) dX5_takeNumber_105 (fun c105 => by exfalso; omega) (fun c105 => ?_)
        refine A_al0 X dX5_takeNumber_108 ?_
        refine A_getf X flX5_63 h_this rfl dX5_takeNumber_109 ?_
        refine A_bipush X dX5_takeNumber_112 ?_
        refine A_icmp_le (t := 123) X (by omega) (by omega) dX5_takeNumber_114 (fun c114 => ?_) (fun c114 => ?_)
        · refine A_sipush X dX5_takeNumber_123 ?_
          refine A_putf X flX5_37 h_this dX5_takeNumber_126 ?_
          refine A_gen (fun h126 e126 k126 q126 => ?_)
          have h_this := e126
          exact A_retv X dX5_takeNumber_129 rfl ⟨rfl, rfl, by rw [ec, ← hc, if_neg (by omega)]; exact h_this, fun q h1 => by rw [k126 q h1, hq q h1]⟩
        · refine A_sipush X dX5_takeNumber_117 ?_
          refine A_goto (t := 126) X dX5_takeNumber_120 ?_
          refine A_putf X flX5_37 h_this dX5_takeNumber_126 ?_
          refine A_gen (fun h126 e126 k126 q126 => ?_)
          have h_this := e126
          exact A_retv X dX5_takeNumber_129 rfl ⟨rfl, rfl, by rw [ec, ← hc, if_pos (by omega)]; exact h_this, fun q h1 => by rw [k126 q h1, hq q h1]⟩
      · refine A_al0 X dX5_takeNumber_84 ?_
        refine A_al0 X dX5_takeNumber_85 ?_
        refine A_getf X flX5_53 h_this rfl dX5_takeNumber_86 ?_
        refine A_dVi1 X (r_letterAt rfl hz hp h_this h_this_letters) h_this knX5_letterAt mlX5_87 dX5_takeNumber_89 ?_
        refine A_bipush X dX5_takeNumber_92 ?_
        refine A_icmp_ne (t := 101) X (by omega) (by omega) dX5_takeNumber_94 (fun c94 => ?_) (fun c94 => ?_)
        · refine A_iconst X dX5_takeNumber_101 ?_
          refine A_is1 X dX5_takeNumber_102 ?_
          refine A_al0 X dX5_takeNumber_103 ?_
          refine A_il1 X dX5_takeNumber_104 ?_
          refine A_if_ne (t := 117) X (by omega) dX5_takeNumber_105 (fun c105 => by exfalso; omega) (fun c105 => ?_)
          refine A_al0 X dX5_takeNumber_108 ?_
          refine A_getf X flX5_63 h_this rfl dX5_takeNumber_109 ?_
          refine A_bipush X dX5_takeNumber_112 ?_
          refine A_icmp_le (t := 123) X (by omega) (by omega) dX5_takeNumber_114 (fun c114 => ?_) (fun c114 => ?_)
          · refine A_sipush X dX5_takeNumber_123 ?_
            refine A_putf X flX5_37 h_this dX5_takeNumber_126 ?_
            refine A_gen (fun h126 e126 k126 q126 => ?_)
            have h_this := e126
            exact A_retv X dX5_takeNumber_129 rfl ⟨rfl, rfl, by rw [ec, ← hc, if_neg (by omega)]; exact h_this, fun q h1 => by rw [k126 q h1, hq q h1]⟩
          · refine A_sipush X dX5_takeNumber_117 ?_
            refine A_goto (t := 126) X dX5_takeNumber_120 ?_
            refine A_putf X flX5_37 h_this dX5_takeNumber_126 ?_
            refine A_gen (fun h126 e126 k126 q126 => ?_)
            have h_this := e126
            exact A_retv X dX5_takeNumber_129 rfl ⟨rfl, rfl, by rw [ec, ← hc, if_pos (by omega)]; exact h_this, fun q h1 => by rw [k126 q h1, hq q h1]⟩
        · refine A_iconst X dX5_takeNumber_97 ?_
          refine A_goto (t := 102) X dX5_takeNumber_98 ?_
          refine A_is1 X dX5_takeNumber_102 ?_
          refine A_al0 X dX5_takeNumber_103 ?_
          refine A_il1 X dX5_takeNumber_104 ?_
          refine A_if_ne (t := 117) X (by omega) dX5_takeNumber_105 (fun c105 => ?_) (fun c105 => by exfalso; omega)
          refine A_sipush X dX5_takeNumber_117 ?_
          refine A_goto (t := 126) X dX5_takeNumber_120 ?_
          refine A_putf X flX5_37 h_this dX5_takeNumber_126 ?_
          refine A_gen (fun h126 e126 k126 q126 => ?_)
          have h_this := e126
          exact A_retv X dX5_takeNumber_129 rfl ⟨rfl, rfl, by rw [ec, ← hc, if_pos (by omega)]; exact h_this, fun q h1 => by rw [k126 q h1, hq q h1]⟩
    intro k
    induction k with
    | zero =>
      intro c hh hk
      omega
    | succ k ih =>
      intro c hh hk hc he h_this hq
      have h_this_letters := (hq (ra + 1) (by omega)).trans h_this_letters
      have hl := lA_b (ft := ft) (z := z) (i := p + c) ht
      have hcb := hcvb c (by omega)
      have hf := lA_dg (ft := ft) (z := z) (i := p + c)
      refine A_al0 X dX5_takeNumber_5 ?_
      refine A_getf X flX5_24 h_this rfl dX5_takeNumber_6 ?_
      refine A_al0 X dX5_takeNumber_9 ?_
      refine A_getf X flX5_15 h_this rfl dX5_takeNumber_10 ?_
      refine A_icmp_ge (t := 71) X (by omega) (by omega) dX5_takeNumber_13 (fun c13 => ?_) (fun c13 => ?_)
      · exact fin c hh (by rw [← he]; exact (skP_f (by omega)).symm) h_this hq
      · refine A_al0 X dX5_takeNumber_16 ?_
        refine A_al0 X dX5_takeNumber_17 ?_
        refine A_getf X flX5_24 h_this rfl dX5_takeNumber_18 ?_
        refine A_dVi1 X (r_letterAt rfl hz (by omega) h_this h_this_letters) h_this knX5_letterAt mlX5_87 dX5_takeNumber_21 ?_
        refine A_dSi1 X (r_isDigit (by omega)) knX5_isDigit mlX5_91 dX5_takeNumber_24 ?_
        refine A_ifb_eq (t := 71) X dX5_takeNumber_27 (fun c27 => ?_) (fun c27 => ?_)
        · exact fin c hh (by rw [← he]; exact (skP_f (fun q => c27 (hf.mpr q))).symm) h_this hq
        · have hdd := hf.mp c27
          have e2 : dg ft z (p + c) = dg ft z (p + c + 1) := skP_t hdd.1 hdd.2
          have b2 := dg_b (ft := ft) (z := z) (p := p + c + 1) (by omega)
          have el : lA ft z (p + c) = ft ((p : Int) + (c : Int)) := if_pos hdd.1
          refine A_al0 X dX5_takeNumber_30 ?_
          refine A_bipush X dX5_takeNumber_31 ?_
          refine A_al0 X dX5_takeNumber_33 ?_
          refine A_getf X flX5_63 h_this rfl dX5_takeNumber_34 ?_
          refine A_imul X dX5_takeNumber_37 ?_
          refine A_al0 X dX5_takeNumber_38 ?_
          refine A_al0 X dX5_takeNumber_39 ?_
          refine A_getf X flX5_24 h_this rfl dX5_takeNumber_40 ?_
          refine A_dVi1 X (r_letterAt rfl hz (by omega) h_this h_this_letters) h_this knX5_letterAt mlX5_87 dX5_takeNumber_43 ?_
          refine A_iadd X dX5_takeNumber_46 ?_
          refine A_bipush X dX5_takeNumber_47 ?_
          refine A_isub X dX5_takeNumber_49 ?_
          refine A_bipush X dX5_takeNumber_50 ?_
          refine A_mmin X (by omega) (by omega) mlX5_98 dX5_takeNumber_52 ?_
          refine A_putf X flX5_63 h_this dX5_takeNumber_55 ?_
          refine A_gen (fun h55 e55 k55 q55 => ?_)
          have h_this := e55
          refine A_al0 X dX5_takeNumber_58 ?_
          refine A_dup X dX5_takeNumber_59 ?_
          refine A_getf X flX5_24 h_this rfl dX5_takeNumber_60 ?_
          refine A_iconst X dX5_takeNumber_63 ?_
          refine A_iadd X dX5_takeNumber_64 ?_
          refine A_putf X flX5_24 h_this dX5_takeNumber_65 ?_
          refine A_gen (fun h65 e65 k65 q65 => ?_)
          have h_this := e65
          refine A_goto (t := 5) X dX5_takeNumber_68 ?_
          exact ih (c + 1) h65 (by omega) (by omega) (by rw [← he, e2]; rfl) (by rw [cv, ← el]; exact h_this) (fun q h1 => by rw [k65 q h1, k55 q h1, hq q h1])
  refine A_al0 X dX5_takeNumber_0 ?_
  refine A_iconst X dX5_takeNumber_1 ?_
  refine A_putf X flX5_63 h_this dX5_takeNumber_2 ?_
  refine A_gen (fun h2 e2 k2 q2 => ?_)
  have h_this := e2
  exact key (dg ft z p - p + 1) 0 h2 (by omega) (by omega) rfl h_this (fun q h1 => k2 q h1)
set_option maxRecDepth 100000 in
theorem r_next {G : aG} {d n : Nat} {h : AH} {ra : Nat} {ts tk nu hT cT : Int} {ft : Int → Int} {z p : Nat} (hz : z ≤ 200) (hp : p ≤ z) (ht : tOK ft z) (h_this : h ra = some (aOb 5 (rO ra (z : Int) (p : Int) ts tk nu hT cT))) (h_this_letters : h (ra + 1) = some (aIa G 200 ft)) : aE G (d + 2) kX5_nextToken [.ref ra] n h none (fun h' => h' ra = some (aOb 5 (rO ra (z : Int) (tkP ft z p : Nat) (sk ft z p : Nat) (tkV ft z p) (tkN ft z p nu) hT cT)) ∧ ∀ q, q ≠ ra → h' q = h q) := by
  refine aCt_of (lv := [some (.ref ra)]) knX5_nextToken.1 rfl rfl (Nat.le_of_ble_eq_true rfl) (fun x hG hsc X => ?_)
  subst hG
  have key : ∀ (k p2 : Nat) (hh : AH), z - p2 < k → p2 ≤ z → sk ft z p2 = sk ft z p → hh ra = some (aOb 5 (rO ra (z : Int) (p2 : Int) ts tk nu hT cT)) → (∀ q, q ≠ ra → hh q = h q) → AW x 0 0 n hh 0 [some (.ref ra)] [] := by
    have fin : ∀ (p2 : Nat) (hh : AH), p2 ≤ z → p2 = sk ft z p → hh ra = some (aOb 5 (rO ra (z : Int) (p2 : Int) ts tk nu hT cT)) → (∀ q, q ≠ ra → hh q = h q) → AW x 0 0 n hh 37 [some (.ref ra)] [] := by
      intro p2 hh hp2 hs h_this hq
      have h_this_letters := (hq (ra + 1) (by omega)).trans h_this_letters
      have hl := lA_b (ft := ft) (z := z) (i := p2) ht
      have hf := lA_dg (ft := ft) (z := z) (i := p2)
      have eV : ¬ tkD ft z p → tkV ft z p = lA ft z p2 := fun q => by rw [tkV, if_neg q, hs]
      have eN : ¬ tkD ft z p → tkN ft z p nu = nu := fun q => by rw [tkN, if_neg q]
      have eD : tkD ft z p ↔ isDg (lA ft z p2) = true := by rw [hf, hs]
      refine A_al0 X dX5_nextToken_37 ?_
      refine A_al0 X dX5_nextToken_38 ?_
      refine A_getf X flX5_24 h_this rfl dX5_nextToken_39 ?_
      refine A_putf X flX5_53 h_this dX5_nextToken_42 ?_
      refine A_gen (fun h42 e42 k42 q42 => ?_)
      have h_this := e42
      have h_this_letters := (k42 _ (by omega)).trans h_this_letters
      refine A_al0 X dX5_nextToken_45 ?_
      refine A_al0 X dX5_nextToken_46 ?_
      refine A_al0 X dX5_nextToken_47 ?_
      refine A_getf X flX5_24 h_this rfl dX5_nextToken_48 ?_
      refine A_dVi1 X (r_letterAt rfl hz hp2 h_this h_this_letters) h_this knX5_letterAt mlX5_87 dX5_nextToken_51 ?_
      refine A_putf X flX5_37 h_this dX5_nextToken_54 ?_
      refine A_gen (fun h54 e54 k54 q54 => ?_)
      have h_this := e54
      have h_this_letters := (k54 _ (by omega)).trans h_this_letters
      refine A_al0 X dX5_nextToken_57 ?_
      refine A_getf X flX5_37 h_this rfl dX5_nextToken_58 ?_
      refine A_dSi1 X (r_isDigit (by omega)) knX5_isDigit mlX5_91 dX5_nextToken_61 ?_
      refine A_ifb_eq (t := 74) X dX5_nextToken_64 (fun c64 => ?_) (fun c64 => ?_)
      · refine A_al0 X dX5_nextToken_74 ?_
        refine A_getf X flX5_24 h_this rfl dX5_nextToken_75 ?_
        refine A_al0 X dX5_nextToken_78 ?_
        refine A_getf X flX5_15 h_this rfl dX5_nextToken_79 ?_
        refine A_icmp_ge (t := 95) X (by omega) (by omega) dX5_nextToken_82 (fun c82 => ?_) (fun c82 => ?_)
        · exact A_retv X dX5_nextToken_95 rfl ⟨rfl, rfl, by rw [eV (fun q => c64 (eD.mp q)), eN (fun q => c64 (eD.mp q)), tkP, if_neg (fun q => c64 (eD.mp q)), ← hs, if_neg (by omega)]; exact h_this, fun q h1 => by rw [k54 q h1, k42 q h1, hq q h1]⟩
        · refine A_al0 X dX5_nextToken_85 ?_
          refine A_dup X dX5_nextToken_86 ?_
          refine A_getf X flX5_24 h_this rfl dX5_nextToken_87 ?_
          refine A_iconst X dX5_nextToken_90 ?_
          refine A_iadd X dX5_nextToken_91 ?_
          refine A_putf X flX5_24 h_this dX5_nextToken_92 ?_
          refine A_gen (fun h92 e92 k92 q92 => ?_)
          have h_this := e92
          have h_this_letters := (k92 _ (by omega)).trans h_this_letters
          exact A_retv X dX5_nextToken_95 rfl ⟨rfl, rfl, by rw [eV (fun q => c64 (eD.mp q)), eN (fun q => c64 (eD.mp q)), tkP, if_neg (fun q => c64 (eD.mp q)), ← hs, if_pos (by omega)]; exact h_this, fun q h1 => by rw [k92 q h1, k54 q h1, k42 q h1, hq q h1]⟩
      · refine A_al0 X dX5_nextToken_67 ?_
        refine A_eVv0 X (r_take (ts := 0) hz hp2 ht (Nat.le_refl _) rfl (hf.mp c64) h_this h_this_letters) h_this knX5_takeNumber mlX5_95 dX5_nextToken_68 (fun h68 p68 => ?_)
        obtain ⟨h_this, hq2⟩ := p68
        refine A_goto (t := 95) X dX5_nextToken_71 ?_
        exact A_retv X dX5_nextToken_95 rfl ⟨rfl, rfl, by rw [tkV, tkN, tkP, tkC, if_pos (eD.mpr c64), if_pos (eD.mpr c64), if_pos (eD.mpr c64), ← hs]; exact h_this, fun q h1 => by rw [hq2 q h1, k54 q h1, k42 q h1, hq q h1]⟩
    intro k
    induction k with
    | zero =>
      intro p2 hh hk
      omega
    | succ k ih =>
      intro p2 hh hk hp2 hs h_this hq
      have h_this_letters := (hq (ra + 1) (by omega)).trans h_this_letters
      have hl := lA_b (ft := ft) (z := z) (i := p2) ht
      refine A_al0 X dX5_nextToken_0 ?_
      refine A_getf X flX5_24 h_this rfl dX5_nextToken_1 ?_
      refine A_al0 X dX5_nextToken_4 ?_
      refine A_getf X flX5_15 h_this rfl dX5_nextToken_5 ?_
      refine A_icmp_ge (t := 37) X (by omega) (by omega) dX5_nextToken_8 (fun c8 => ?_) (fun c8 => ?_)
      · exact fin p2 hh hp2 (by rw [← hs]; exact (skP_f (by omega)).symm) h_this hq
      · refine A_al0 X dX5_nextToken_11 ?_
        refine A_al0 X dX5_nextToken_12 ?_
        refine A_getf X flX5_24 h_this rfl dX5_nextToken_13 ?_
        refine A_dVi1 X (r_letterAt rfl hz (by omega) h_this h_this_letters) h_this knX5_letterAt mlX5_87 dX5_nextToken_16 ?_
        have el : lA ft z p2 = ft (p2 : Int) := if_pos (by omega)
        refine A_bipush X dX5_nextToken_19 ?_
        refine A_icmp_ne (t := 37) X (by omega) (by omega) dX5_nextToken_21 (fun c21 => ?_) (fun c21 => ?_)
        · exact fin p2 hh hp2 (by rw [← hs]; exact (skP_f (by rw [decide_eq_true_eq]; omega)).symm) h_this hq
        · refine A_al0 X dX5_nextToken_24 ?_
          refine A_dup X dX5_nextToken_25 ?_
          refine A_getf X flX5_24 h_this rfl dX5_nextToken_26 ?_
          refine A_iconst X dX5_nextToken_29 ?_
          refine A_iadd X dX5_nextToken_30 ?_
          refine A_putf X flX5_24 h_this dX5_nextToken_31 ?_
          refine A_gen (fun h31 e31 k31 q31 => ?_)
          have h_this := e31
          refine A_goto (t := 0) X dX5_nextToken_34 ?_
          exact ih (p2 + 1) h31 (by omega) (by omega) (by rw [← hs]; exact (skP_t (by omega) (by rw [decide_eq_true_eq]; omega)).symm) h_this (fun q h1 => by rw [k31 q h1, hq q h1])
  exact key (z - p + 1) p h (by omega) hp rfl h_this (fun _ _ => rfl)
theorem tkP_b {ft : Int → Int} {z p : Nat} (hp : p ≤ z) : tkP ft z p ≤ z := by
  have a := sk_b (ft := ft) hp
  have b := dg_b (ft := ft) (p := sk ft z p) a.2
  unfold tkP
  split
  · omega
  · split <;> omega
theorem tkC_b {ft : Int → Int} {z p : Nat} (hp : p ≤ z) : tkC ft z p = min (nvl ft (sk ft z p) (dg ft z (sk ft z p) - sk ft z p)) 21 ∧ 0 ≤ nvl ft (sk ft z p) (dg ft z (sk ft z p) - sk ft z p) := by
  have a := sk_b (ft := ft) hp
  have b := dg_b (ft := ft) (p := sk ft z p) a.2
  have hdi := dg_in (ft := ft) (z := z) (z - sk ft z p) (sk ft z p) (Nat.le_refl _) a.2
  exact cv_n _ (fun j hj => hdi j (by omega))
theorem tkV_b {ft : Int → Int} {z p : Nat} (ht : tOK ft z) : 0 ≤ tkV ft z p ∧ tkV ft z p ≤ 258 := by
  unfold tkV
  split
  · split <;> omega
  · exact lA_b ht
theorem tk_nm {ft : Int → Int} {z p : Nat} {lo hi nu : Int} (ht : tOK ft z) (hp : p ≤ z) (hh : hi ≤ 20) : (tkV ft z p = 256 ∧ lo ≤ tkN ft z p nu ∧ tkN ft z p nu ≤ hi → nm ft z p lo hi = some (tkN ft z p nu, tkP ft z p)) ∧ (¬ (tkV ft z p = 256 ∧ lo ≤ tkN ft z p nu ∧ tkN ft z p nu ≤ hi) → nm ft z p lo hi = none) := by
  obtain ⟨c1, c2⟩ := tkC_b (ft := ft) hp
  unfold nm
  by_cases hD : tkD ft z p
  · rw [tkV, tkN, tkP, if_pos hD, if_pos hD, if_pos hD]
    by_cases q : (ft (sk ft z p : Int) = 48 ∧ 1 < dg ft z (sk ft z p) - sk ft z p) ∨ 20 < tkC ft z p
    · rw [if_pos q]
      refine ⟨fun z => by omega, fun _ => if_neg (fun w => ?_)⟩
      rcases q with q | q
      · exact w.2.1 q
      · omega
    · rw [if_neg q]
      have e : tkC ft z p = nvl ft (sk ft z p) (dg ft z (sk ft z p) - sk ft z p) := by omega
      refine ⟨fun w => ?_, fun w => if_neg (fun v => w ⟨rfl, by omega, by omega⟩)⟩
      rw [if_pos ⟨hD, fun v => q (Or.inl v), by omega, by omega⟩, e]
  · rw [if_neg (fun w => hD w.1)]
    refine ⟨fun w => ?_, fun _ => rfl⟩
    exfalso
    have w := w.1
    rw [tkV, if_neg hD, lA] at w
    split at w
    · have := ht (sk ft z p : Int) (by omega) (by omega); omega
    · omega
theorem tk_en {ft : Int → Int} {z p : Nat} (ht : tOK ft z) (hp : p ≤ z) : (tkV ft z p = 59 → en ft z p = some (tkP ft z p)) ∧ (tkV ft z p ≠ 59 → en ft z p = none) := by
  unfold en ch
  by_cases hD : tkD ft z p
  · have e : tkV ft z p = 256 ∨ tkV ft z p = 257 := by rw [tkV, if_pos hD]; split <;> omega
    have := decide_eq_true_eq.mp hD.2
    refine ⟨fun w => by omega, fun _ => ?_⟩
    rw [if_pos hD.1, if_neg (by omega)]
  · rw [tkV, tkP, if_neg hD, if_neg hD, lA]
    by_cases q : sk ft z p < z
    · rw [if_pos q, if_pos q, if_pos q]
      exact ⟨fun w => if_pos w, fun w => if_neg w⟩
    · rw [if_neg q, if_neg q]
      exact ⟨fun w => by omega, fun w => by rw [if_neg (by decide)]⟩
set_option maxRecDepth 100000 in
theorem r_number {G : aG} {d n : Nat} {h : AH} {ra : Nat} {ts tk nu hT cT : Int} {ft : Int → Int} {z p : Nat} {lo hi : Int} (hz : z ≤ 200) (hp : p ≤ z) (ht : tOK ft z) (hlo : 0 ≤ lo ∧ lo ≤ 20) (hhi : -1 ≤ hi ∧ hi ≤ 20) (hnu : inR nu) (h_this : h ra = some (aOb 5 (rO ra (z : Int) (p : Int) ts tk nu hT cT))) (h_this_letters : h (ra + 1) = some (aIa G 200 ft)) : aE G (d + 3) kX5_nextNumber [.ref ra, aI lo, aI hi] n h (some (aI (bI (tkV ft z p = 256 ∧ lo ≤ tkN ft z p nu ∧ tkN ft z p nu ≤ hi)))) (fun h' => h' ra = some (aOb 5 (rO ra (z : Int) (tkP ft z p : Nat) (sk ft z p : Nat) (tkV ft z p) (tkN ft z p nu) hT cT)) ∧ ∀ q, q ≠ ra → h' q = h q) := by
  have hv := tkV_b (ft := ft) (z := z) (p := p) ht
  have hc := tkC_b (ft := ft) hp
  have hN : inR (tkN ft z p nu) := by
    unfold tkN; split
    · omega
    · exact hnu
  refine aCt_of (lv := [some (.ref ra), some (aI lo), some (aI hi)]) knX5_nextNumber.1 rfl rfl (Nat.le_of_ble_eq_true rfl) (fun x hG hsc X => ?_)
  subst hG
  refine A_al0 X dX5_nextNumber_0 ?_
  refine A_eVv0 X (r_next hz hp ht h_this h_this_letters) h_this knX5_nextToken mlX5_34 dX5_nextNumber_1 (fun h1 p1 => ?_)
  obtain ⟨h_this, hq⟩ := p1
  refine A_al0 X dX5_nextNumber_4 ?_
  refine A_getf X flX5_37 h_this rfl dX5_nextNumber_5 ?_
  refine A_sipush X dX5_nextNumber_8 ?_
  refine A_icmp_ne (t := 34) X (by omega) (by omega) dX5_nextNumber_11 (fun c11 => ?_) (fun c11 => ?_)
  · refine A_iconst X dX5_nextNumber_34 ?_
    exact A_retz X dX5_nextNumber_35 rfl (Or.inl rfl) ⟨bI_0 (by omega), rfl, h_this, hq⟩
  · refine A_al0 X dX5_nextNumber_14 ?_
    refine A_getf X flX5_63 h_this rfl dX5_nextNumber_15 ?_
    refine A_il1 X dX5_nextNumber_18 ?_
    refine A_icmp_lt (t := 34) X (by omega) (by omega) dX5_nextNumber_19 (fun c19 => ?_) (fun c19 => ?_)
    · refine A_iconst X dX5_nextNumber_34 ?_
      exact A_retz X dX5_nextNumber_35 rfl (Or.inl rfl) ⟨bI_0 (by omega), rfl, h_this, hq⟩
    · refine A_al0 X dX5_nextNumber_22 ?_
      refine A_getf X flX5_63 h_this rfl dX5_nextNumber_23 ?_
      refine A_il2 X dX5_nextNumber_26 ?_
      refine A_icmp_gt (t := 34) X (by omega) (by omega) dX5_nextNumber_27 (fun c27 => ?_) (fun c27 => ?_)
      · refine A_iconst X dX5_nextNumber_34 ?_
        exact A_retz X dX5_nextNumber_35 rfl (Or.inl rfl) ⟨bI_0 (by omega), rfl, h_this, hq⟩
      · refine A_iconst X dX5_nextNumber_30 ?_
        refine A_goto (t := 35) X dX5_nextNumber_31 ?_
        exact A_retz X dX5_nextNumber_35 rfl (Or.inr rfl) ⟨bI_1 (by omega), rfl, h_this, hq⟩
set_option maxRecDepth 100000 in
theorem r_ends {G : aG} {d n : Nat} {h : AH} {ra : Nat} {ts tk nu hT cT : Int} {ft : Int → Int} {z p : Nat} (hz : z ≤ 200) (hp : p ≤ z) (ht : tOK ft z) (h_this : h ra = some (aOb 5 (rO ra (z : Int) (p : Int) ts tk nu hT cT))) (h_this_letters : h (ra + 1) = some (aIa G 200 ft)) : aE G (d + 3) kX5_nextEnds [.ref ra] n h (some (aI (bI (tkV ft z p = 59)))) (fun h' => h' ra = some (aOb 5 (rO ra (z : Int) (tkP ft z p : Nat) (sk ft z p : Nat) (tkV ft z p) (tkN ft z p nu) hT cT)) ∧ ∀ q, q ≠ ra → h' q = h q) := by
  have hv := tkV_b (ft := ft) (z := z) (p := p) ht
  refine aCt_of (lv := [some (.ref ra)]) knX5_nextEnds.1 rfl rfl (Nat.le_of_ble_eq_true rfl) (fun x hG hsc X => ?_)
  subst hG
  refine A_al0 X dX5_nextEnds_0 ?_
  refine A_eVv0 X (r_next hz hp ht h_this h_this_letters) h_this knX5_nextToken mlX5_34 dX5_nextEnds_1 (fun h1 p1 => ?_)
  obtain ⟨h_this, hq⟩ := p1
  refine A_al0 X dX5_nextEnds_4 ?_
  refine A_getf X flX5_37 h_this rfl dX5_nextEnds_5 ?_
  refine A_bipush X dX5_nextEnds_8 ?_
  refine A_icmp_ne (t := 17) X (by omega) (by omega) dX5_nextEnds_10 (fun c10 => ?_) (fun c10 => ?_)
  · refine A_iconst X dX5_nextEnds_17 ?_
    exact A_retz X dX5_nextEnds_18 rfl (Or.inl rfl) ⟨bI_0 (by omega), rfl, h_this, hq⟩
  · refine A_iconst X dX5_nextEnds_13 ?_
    refine A_goto (t := 18) X dX5_nextEnds_14 ?_
    exact A_retz X dX5_nextEnds_18 rfl (Or.inr rfl) ⟨bI_1 (by omega), rfl, h_this, hq⟩
