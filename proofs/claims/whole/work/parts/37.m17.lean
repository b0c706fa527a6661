/-! the reference: reading -/
set_option maxRecDepth 100000 in
theorem m_first {G : aG} {d n : Nat} {h : AH} {tm : Nat} {un sm tr bg mt : Int} {ft : Int → Int} {z p : Nat} (hz : z ≤ 200) (hp : p ≤ z) (ht : tOK ft z) (h_this : h tm = some (aOb 11 (mO tm un (z : Int) sm tr (p : Int) bg mt))) (h_this_text : h (tm + 7) = some (aIa G 200 ft)) : aE G d kX11_first [.ref tm] n h (some (aI (ch ft z (sk ft z p)))) (fun h' => h' tm = some (aOb 11 (mO tm un (z : Int) sm tr (sk ft z p : Nat) (sk ft z p : Nat) mt)) ∧ ∀ q, q ≠ tm → h' q = h q) := by
  refine aCt_of (lv := [some (.ref tm)]) knX11_first.1 rfl rfl (Nat.le_of_ble_eq_true rfl) (fun x hG hsc X => ?_)
  subst hG
  have key : ∀ (k p2 : Nat) (hh : AH), z - p2 ≤ k → p2 ≤ z → sk ft z p2 = sk ft z p → hh tm = some (aOb 11 (mO tm un (z : Int) sm tr (p2 : Int) bg mt)) → (∀ q, q ≠ tm → hh q = h q) → AW x 0 0 n hh 0 [some (.ref tm)] [] := by
    intro k
    induction k with
    | zero =>
      intro p2 hh hk hp2 hs h_this hq
      have h_this_text := (hq (tm + 7) (by omega)).trans h_this_text
      have e : sk ft z p2 = p2 := skP_f (by omega)
      refine A_al0 X dX11_first_0 ?_
      refine A_getf X flX11_73 h_this rfl dX11_first_1 ?_
      refine A_al0 X dX11_first_4 ?_
      refine A_getf X flX11_70 h_this rfl dX11_first_5 ?_
      refine A_icmp_ge (t := 38) X (by omega) (by omega) dX11_first_8 (fun c8 => ?_) (fun c8 => by exfalso; omega)
      refine A_al0 X dX11_first_38 ?_
      refine A_al0 X dX11_first_39 ?_
      refine A_getf X flX11_73 h_this rfl dX11_first_40 ?_
      refine A_putf X flX11_76 h_this dX11_first_43 ?_
      refine A_gen (fun h43 e43 k43 q43 => ?_)
      have h_this := e43
      have h_this_text := (k43 _ (by omega)).trans h_this_text
      refine A_al0 X dX11_first_46 ?_
      refine A_getf X flX11_73 h_this rfl dX11_first_47 ?_
      refine A_al0 X dX11_first_50 ?_
      refine A_getf X flX11_70 h_this rfl dX11_first_51 ?_
      refine A_icmp_ge (t := 69) X (by omega) (by omega) dX11_first_54 (fun c54 => ?_) (fun c54 => by exfalso; omega)
      refine A_iconst X dX11_first_69 ?_
      exact A_ret X dX11_first_70 rfl ⟨congrArg (fun t => some (aI t)) (by rw [← hs, e, ch, if_neg (by omega)]), rfl, by rw [← hs, e]; exact h_this, fun q h1 => by rw [k43 q h1, hq q h1]⟩
    | succ k ih =>
      intro p2 hh hk hp2 hs h_this hq
      have h_this_text := (hq (tm + 7) (by omega)).trans h_this_text
      refine A_al0 X dX11_first_0 ?_
      refine A_getf X flX11_73 h_this rfl dX11_first_1 ?_
      refine A_al0 X dX11_first_4 ?_
      refine A_getf X flX11_70 h_this rfl dX11_first_5 ?_
      refine A_icmp_ge (t := 38) X (by omega) (by omega) dX11_first_8 (fun c8 => ?_) (fun c8 => ?_)
      · have e : sk ft z p2 = p2 := skP_f (by omega)
        refine A_al0 X dX11_first_38 ?_
        refine A_al0 X dX11_first_39 ?_
        refine A_getf X flX11_73 h_this rfl dX11_first_40 ?_
        refine A_putf X flX11_76 h_this dX11_first_43 ?_
        refine A_gen (fun h43 e43 k43 q43 => ?_)
        have h_this := e43
        have h_this_text := (k43 _ (by omega)).trans h_this_text
        refine A_al0 X dX11_first_46 ?_
        refine A_getf X flX11_73 h_this rfl dX11_first_47 ?_
        refine A_al0 X dX11_first_50 ?_
        refine A_getf X flX11_70 h_this rfl dX11_first_51 ?_
        refine A_icmp_ge (t := 69) X (by omega) (by omega) dX11_first_54 (fun c54 => ?_) (fun c54 => ?_)
        · refine A_iconst X dX11_first_69 ?_
          exact A_ret X dX11_first_70 rfl ⟨congrArg (fun t => some (aI t)) (by rw [← hs, e, ch, if_neg (by omega)]), rfl, by rw [← hs, e]; exact h_this, fun q h1 => by rw [k43 q h1, hq q h1]⟩
        · refine A_al0 X dX11_first_57 ?_
          refine A_getf X flX11_29 h_this rfl dX11_first_58 ?_
          refine A_al0 X dX11_first_61 ?_
          refine A_getf X flX11_73 h_this rfl dX11_first_62 ?_
          refine A_iald X h_this_text (by omega) dX11_first_65 ?_
          refine A_goto (t := 70) X dX11_first_66 ?_
          exfalso; omega
      · refine A_al0 X dX11_first_11 ?_
        refine A_getf X flX11_29 h_this rfl dX11_first_12 ?_
        refine A_al0 X dX11_first_15 ?_
        refine A_getf X flX11_73 h_this rfl dX11_first_16 ?_
        refine A_iald X h_this_text (by omega) dX11_first_19 ?_
        refine A_bipush X dX11_first_20 ?_
        refine A_icmp_ne (t := 38) X (by have := ht (p2 : Int) (by omega) (by omega); omega) (by omega) dX11_first_22 (fun c22 => ?_) (fun c22 => ?_)
        · have e : sk ft z p2 = p2 := skP_f (by rw [decide_eq_true_eq]; omega)
          refine A_al0 X dX11_first_38 ?_
          refine A_al0 X dX11_first_39 ?_
          refine A_getf X flX11_73 h_this rfl dX11_first_40 ?_
          refine A_putf X flX11_76 h_this dX11_first_43 ?_
          refine A_gen (fun h43 e43 k43 q43 => ?_)
          have h_this := e43
          have h_this_text := (k43 _ (by omega)).trans h_this_text
          refine A_al0 X dX11_first_46 ?_
          refine A_getf X flX11_73 h_this rfl dX11_first_47 ?_
          refine A_al0 X dX11_first_50 ?_
          refine A_getf X flX11_70 h_this rfl dX11_first_51 ?_
          refine A_icmp_ge (t := 69) X (by omega) (by omega) dX11_first_54 (fun c54 => ?_) (fun c54 => ?_)
          · refine A_iconst X dX11_first_69 ?_
            exfalso; omega
          · refine A_al0 X dX11_first_57 ?_
            refine A_getf X flX11_29 h_this rfl dX11_first_58 ?_
            refine A_al0 X dX11_first_61 ?_
            refine A_getf X flX11_73 h_this rfl dX11_first_62 ?_
            refine A_iald X h_this_text (by omega) dX11_first_65 ?_
            refine A_goto (t := 70) X dX11_first_66 ?_
            exact A_ret X dX11_first_70 rfl ⟨congrArg (fun t => some (aI t)) (by rw [← hs, e, ch, if_pos (by omega)]), rfl, by rw [← hs, e]; exact h_this, fun q h1 => by rw [k43 q h1, hq q h1]⟩
        · refine A_al0 X dX11_first_25 ?_
          refine A_dup X dX11_first_26 ?_
          refine A_getf X flX11_73 h_this rfl dX11_first_27 ?_
          refine A_iconst X dX11_first_30 ?_
          refine A_iadd X dX11_first_31 ?_
          refine A_putf X flX11_73 h_this dX11_first_32 ?_
          refine A_gen (fun h32 e32 k32 q32 => ?_)
          have h_this := e32
          have h_this_text := (k32 _ (by omega)).trans h_this_text
          refine A_goto (t := 0) X dX11_first_35 ?_
          exact ih (p2 + 1) h32 (by omega) (by omega) (by rw [← hs]; exact (skP_t (by omega) (by rw [decide_eq_true_eq]; omega)).symm) h_this (fun q h1 => by rw [k32 q h1, hq q h1])
  exact key (z - p) p h (Nat.le_refl _) hp rfl h_this (fun _ _ => rfl)
set_option maxRecDepth 100000 in
theorem m_ends {G : aG} {d n : Nat} {h : AH} {tm : Nat} {un sm tr bg mt : Int} {ft : Int → Int} {z p : Nat} (hz : z ≤ 200) (hp : p ≤ z) (ht : tOK ft z) (h_this : h tm = some (aOb 11 (mO tm un (z : Int) sm tr (p : Int) bg mt))) (h_this_text : h (tm + 7) = some (aIa G 200 ft)) : aE G (d + 1) kX11_ends [.ref tm] n h (some (aI (bI (ch ft z (sk ft z p) = 59)))) (fun h' => h' tm = some (aOb 11 (mO tm un (z : Int) sm tr (if ch ft z (sk ft z p) = 59 then ((sk ft z p : Nat) : Int) + 1 else (sk ft z p : Nat)) (sk ft z p : Nat) mt)) ∧ ∀ q, q ≠ tm → h' q = h q) := by
  refine aCt_of (lv := [some (.ref tm)]) knX11_ends.1 rfl rfl (Nat.le_of_ble_eq_true rfl) (fun x hG hsc X => ?_)
  subst hG
  have hb := sk_b (ft := ft) hp
  have hc : -1 ≤ ch ft z (sk ft z p) ∧ ch ft z (sk ft z p) ≤ 255 := by
    unfold ch
    split
    · have := ht (sk ft z p : Nat) (by omega) (by omega); omega
    · omega
  refine A_al0 X dX11_ends_0 ?_
  refine A_eVi0 X (m_first hz hp ht h_this h_this_text) h_this knX11_first mlX11_79 dX11_ends_1 (fun h1 p1 => ?_)
  obtain ⟨h_this, hq⟩ := p1
  refine A_bipush X dX11_ends_4 ?_
  refine A_icmp_eq (t := 11) X (by omega) (by omega) dX11_ends_6 (fun c6 => ?_) (fun c6 => ?_)
  · refine A_al0 X dX11_ends_11 ?_
    refine A_dup X dX11_ends_12 ?_
    refine A_getf X flX11_73 h_this rfl dX11_ends_13 ?_
    refine A_iconst X dX11_ends_16 ?_
    refine A_iadd X dX11_ends_17 ?_
    refine A_putf X flX11_73 h_this dX11_ends_18 ?_
    refine A_gen (fun h18 e18 k18 q18 => ?_)
    have h_this := e18
    refine A_iconst X dX11_ends_21 ?_
    exact A_retz X dX11_ends_22 rfl (Or.inr rfl) ⟨bI_1 c6, rfl, by rw [if_pos c6]; exact h_this, fun q h1 => by rw [k18 q h1, hq q h1]⟩
  · refine A_iconst X dX11_ends_9 ?_
    exact A_retz X dX11_ends_10 rfl (Or.inl rfl) ⟨bI_0 c6, rfl, by rw [if_neg c6]; exact h_this, hq⟩
theorem dg_in {ft : Int → Int} {z : Nat} : ∀ (k p : Nat), z - p ≤ k → p ≤ z → ∀ j : Nat, p + j < dg ft z p → 48 ≤ ft ((p : Int) + (j : Int)) ∧ ft ((p : Int) + (j : Int)) ≤ 57
  | 0, p, hk, hp, j, hj => by
    unfold dg at hj
    rw [skP_f (by omega)] at hj
    omega
  | k + 1, p, hk, hp, j, hj => by
    by_cases h : p < z ∧ isDg (ft (p : Int)) = true
    · by_cases h0 : j = 0
      · subst h0
        have := decide_eq_true_eq.mp h.2
        simpa using this
      · have e : dg ft z p = dg ft z (p + 1) := skP_t h.1 h.2
        rw [e] at hj
        have ih := dg_in (ft := ft) (z := z) k (p + 1) (by omega) (by omega) (j - 1) (by omega)
        rw [show ((p + 1 : Nat) : Int) + ((j - 1 : Nat) : Int) = (p : Int) + (j : Int) by omega] at ih
        exact ih
    · unfold dg at hj
      rw [skP_f h] at hj
      omega
set_option maxRecDepth 100000 in
theorem m_number {G : aG} {d n : Nat} {h : AH} {tm : Nat} {un sm tr bg mt : Int} {ft : Int → Int} {z p : Nat} {fr : Int → Int} {place lo hi : Int} (hz : z ≤ 200) (hp : p ≤ z) (ht : tOK ft z) (hpl : 0 ≤ place ∧ place < 32) (hlo : inR lo) (hhi : inR hi) (h_this : h tm = some (aOb 11 (mO tm un (z : Int) sm tr (p : Int) bg mt))) (h_this_text : h (tm + 7) = some (aIa G 200 ft)) (h_this_read : h (tm + 2) = some (aIa G 32 fr)) : aE G (d + 1) kX11_number [.ref tm, aI place, aI lo, aI hi] n h (some (aI (bI (nm ft z p lo hi ≠ none)))) (fun h' => (∃ ak2 : Int, h' tm = some (aOb 11 (mO tm un (z : Int) sm tr ak2 (sk ft z p : Nat) mt)) ∧ (∀ (v : Int) (p2 : Nat), nm ft z p lo hi = some (v, p2) → ak2 = (p2 : Int) ∧ h' (tm + 2) = some (aIa G 32 (aiu fr place v))) ∧ (nm ft z p lo hi = none → h' (tm + 2) = some (aIa G 32 fr))) ∧ ∀ q, q ≠ tm → q ≠ tm + 2 → h' q = h q) := by
  refine aCt_of (lv := [some (.ref tm), some (aI place), some (aI lo), some (aI hi), none, none]) knX11_number.1 rfl rfl (Nat.le_of_ble_eq_true rfl) (fun x hG hsc X => ?_)
  subst hG
  have hb := sk_b (ft := ft) hp
  generalize hs : sk ft z p = s at *
  have hc : -1 ≤ ch ft z s ∧ ch ft z s ≤ 255 := by
    unfold ch
    split
    · have := ht (s : Int) (by omega) (by omega); omega
    · omega
  have hd := dg_b (ft := ft) (z := z) (p := s) (by omega)
  have hdi := dg_in (ft := ft) (z := z) (z - s) s (Nat.le_refl _) (by omega)
  have hdn := (skP_b (P := isDg) (ft := ft) (z := z) (z - s) s (Nat.le_refl _) (by omega)).2.2
  have hnm : nm ft z p lo hi = if (s < z ∧ isDg (ft (s : Int)) = true) ∧ ¬ (ft (s : Int) = 48 ∧ 1 < dg ft z s - s) ∧ lo ≤ nvl ft s (dg ft z s - s) ∧ nvl ft s (dg ft z s - s) ≤ hi then some (nvl ft s (dg ft z s - s), dg ft z s) else none := by
    unfold nm
    rw [hs]
  have chd : 48 ≤ ch ft z s → s < z ∧ ch ft z s = ft (s : Int) := by
    intro q
    unfold ch at q ⊢
    split at q
    · next e => rw [if_pos e]; exact ⟨e, rfl⟩
    · omega
  have loop : (48 ≤ ch ft z s ∧ ch ft z s ≤ 57) → ∀ (k m : Nat) (hh : AH), dg ft z s - s - m ≤ k → s + m ≤ dg ft z s → hh tm = some (aOb 11 (mO tm un (z : Int) sm tr ((s + m : Nat) : Int) (s : Int) mt)) → (∀ q, q ≠ tm → hh q = h q) → AW x 0 0 n hh 26 [some (.ref tm), some (aI place), some (aI lo), some (aI hi), some (aI (ch ft z s)), some (aI (nvl ft s m))] [] := by
    intro hdc k
    obtain ⟨hsz, hce⟩ := chd hdc.1
    have hdd : dg ft z s = dg ft z (s + 1) := skP_t hsz (by rw [decide_eq_true_eq]; omega)
    have hd1 := dg_b (ft := ft) (z := z) (p := s + 1) (by omega)
    induction k with
    | zero =>
      intro m hh hk hm h_this hq
      have h_this_text := (hq (tm + 7) (by omega)).trans h_this_text
      have h_this_read := (hq (tm + 2) (by omega)).trans h_this_read
      have em : m = dg ft z s - s := by omega
      have hvb := nvl_b (ft := ft) (z := z) (p := s) m (fun j hj => hdi j (by omega))
      have endw : AW x 0 0 n hh 104 [some (.ref tm), some (aI place), some (aI lo), some (aI hi), some (aI (ch ft z s)), some (aI (nvl ft s m))] [] := by
        refine A_il4 X dX11_number_104 ?_
        refine A_bipush X dX11_number_106 ?_
        refine A_icmp_ne (t := 124) X (by omega) (by omega) dX11_number_108 (fun c108 => ?_) (fun c108 => ?_)
        · refine A_il5 X dX11_number_124 ?_
          refine A_i2l X (by omega) dX11_number_126 ?_
          refine A_il2 X dX11_number_127 ?_
          refine A_i2l X (by omega) dX11_number_128 ?_
          refine A_il3 X dX11_number_129 ?_
          refine A_i2l X (by omega) dX11_number_130 ?_
          refine A_dSi3 X (m_in (by omega) (by omega) (by omega)) knX11_in mlX11_57 dX11_number_131 ?_
          refine A_ifb_ne (t := 139) X dX11_number_134 (fun c134 => ?_) (fun c134 => ?_)
          · refine A_al0 X dX11_number_139 ?_
            refine A_getf X flX11_13 h_this rfl dX11_number_140 ?_
            refine A_il1 X dX11_number_143 ?_
            refine A_il5 X dX11_number_144 ?_
            refine A_iast X h_this_read (by omega) dX11_number_146 ?_
            refine A_gen (fun h146 e146 k146 q146 => ?_)
            have h_this := (k146 _ (by omega)).trans h_this
            have h_this_read := e146
            refine A_iconst X dX11_number_147 ?_
            exact A_retz X dX11_number_148 rfl (Or.inr rfl) ⟨bI_1 (by rw [hnm, if_pos ⟨⟨hsz, by rw [decide_eq_true_eq]; omega⟩, by omega, by rw [← em]; exact c134.1, by rw [← em]; exact c134.2⟩]; simp), rfl, ⟨_, h_this, fun v p2 q => by rw [hnm, if_pos ⟨⟨hsz, by rw [decide_eq_true_eq]; omega⟩, by omega, by rw [← em]; exact c134.1, by rw [← em]; exact c134.2⟩] at q; cases q; exact ⟨by omega, by rw [← em]; exact h_this_read⟩, fun q => absurd q (by rw [hnm, if_pos ⟨⟨hsz, by rw [decide_eq_true_eq]; omega⟩, by omega, by rw [← em]; exact c134.1, by rw [← em]; exact c134.2⟩]; simp)⟩, fun q h1 h2 => by rw [k146 q h2, hq q h1]⟩
          · refine A_iconst X dX11_number_137 ?_
            exact A_retz X dX11_number_138 rfl (Or.inl rfl) ⟨bI_0 (fun q => q (by rw [hnm, if_neg (fun q2 => c134 ⟨by rw [em]; exact q2.2.2.1, by rw [em]; exact q2.2.2.2⟩)])), rfl, ⟨_, h_this, fun v p2 q => absurd q (by rw [hnm, if_neg (fun q2 => c134 ⟨by rw [em]; exact q2.2.2.1, by rw [em]; exact q2.2.2.2⟩)]; simp), fun _ => h_this_read⟩, fun q h1 _ => hq q h1⟩
        · refine A_al0 X dX11_number_111 ?_
          refine A_getf X flX11_73 h_this rfl dX11_number_112 ?_
          refine A_al0 X dX11_number_115 ?_
          refine A_getf X flX11_76 h_this rfl dX11_number_116 ?_
          refine A_isub X dX11_number_119 ?_
          refine A_iconst X dX11_number_120 ?_
          refine A_icmp_gt (t := 137) X (by omega) (by omega) dX11_number_121 (fun c121 => ?_) (fun c121 => ?_)
          · refine A_iconst X dX11_number_137 ?_
            exact A_retz X dX11_number_138 rfl (Or.inl rfl) ⟨bI_0 (fun q => q (by rw [hnm, if_neg (fun q2 => q2.2.1 ⟨by omega, by omega⟩)])), rfl, ⟨_, h_this, fun v p2 q => absurd q (by rw [hnm, if_neg (fun q2 => q2.2.1 ⟨by omega, by omega⟩)]; simp), fun _ => h_this_read⟩, fun q h1 _ => hq q h1⟩
          · refine A_il5 X dX11_number_124 ?_
            refine A_i2l X (by omega) dX11_number_126 ?_
            refine A_il2 X dX11_number_127 ?_
            refine A_i2l X (by omega) dX11_number_128 ?_
            refine A_il3 X dX11_number_129 ?_
            refine A_i2l X (by omega) dX11_number_130 ?_
            refine A_dSi3 X (m_in (by omega) (by omega) (by omega)) knX11_in mlX11_57 dX11_number_131 ?_
            refine A_ifb_ne (t := 139) X dX11_number_134 (fun c134 => ?_) (fun c134 => ?_)
            · refine A_al0 X dX11_number_139 ?_
              refine A_getf X flX11_13 h_this rfl dX11_number_140 ?_
              refine A_il1 X dX11_number_143 ?_
              refine A_il5 X dX11_number_144 ?_
              refine A_iast X h_this_read (by omega) dX11_number_146 ?_
              refine A_gen (fun h146 e146 k146 q146 => ?_)
              have h_this := (k146 _ (by omega)).trans h_this
              have h_this_read := e146
              refine A_iconst X dX11_number_147 ?_
              exact A_retz X dX11_number_148 rfl (Or.inr rfl) ⟨bI_1 (by rw [hnm, if_pos ⟨⟨hsz, by rw [decide_eq_true_eq]; omega⟩, by omega, by rw [← em]; exact c134.1, by rw [← em]; exact c134.2⟩]; simp), rfl, ⟨_, h_this, fun v p2 q => by rw [hnm, if_pos ⟨⟨hsz, by rw [decide_eq_true_eq]; omega⟩, by omega, by rw [← em]; exact c134.1, by rw [← em]; exact c134.2⟩] at q; cases q; exact ⟨by omega, by rw [← em]; exact h_this_read⟩, fun q => absurd q (by rw [hnm, if_pos ⟨⟨hsz, by rw [decide_eq_true_eq]; omega⟩, by omega, by rw [← em]; exact c134.1, by rw [← em]; exact c134.2⟩]; simp)⟩, fun q h1 h2 => by rw [k146 q h2, hq q h1]⟩
            · refine A_iconst X dX11_number_137 ?_
              exact A_retz X dX11_number_138 rfl (Or.inl rfl) ⟨bI_0 (fun q => q (by rw [hnm, if_neg (fun q2 => c134 ⟨by rw [em]; exact q2.2.2.1, by rw [em]; exact q2.2.2.2⟩)])), rfl, ⟨_, h_this, fun v p2 q => absurd q (by rw [hnm, if_neg (fun q2 => c134 ⟨by rw [em]; exact q2.2.2.1, by rw [em]; exact q2.2.2.2⟩)]; simp), fun _ => h_this_read⟩, fun q h1 _ => hq q h1⟩
      have hlast : s + m < z → ¬ (48 ≤ ft ((s + m : Nat) : Int) ∧ ft ((s + m : Nat) : Int) ≤ 57) := fun q q2 => hdn ⟨by show dg ft z s < z; omega, by rw [decide_eq_true_eq]; have e : skP isDg ft z s = s + m := (by show dg ft z s = s + m; omega); rw [e]; exact q2⟩
      refine A_al0 X dX11_number_26 ?_
      refine A_getf X flX11_73 h_this rfl dX11_number_27 ?_
      refine A_al0 X dX11_number_30 ?_
      refine A_getf X flX11_70 h_this rfl dX11_number_31 ?_
      refine A_icmp_ge (t := 104) X (by omega) (by omega) dX11_number_34 (fun c34 => ?_) (fun c34 => ?_)
      · exact endw
      · refine A_al0 X dX11_number_37 ?_
        refine A_getf X flX11_29 h_this rfl dX11_number_38 ?_
        refine A_al0 X dX11_number_41 ?_
        refine A_getf X flX11_73 h_this rfl dX11_number_42 ?_
        refine A_iald X h_this_text (by omega) dX11_number_45 ?_
        refine A_i2l X (by have := ht ((s + m : Nat) : Int) (by omega) (by omega); omega) dX11_number_46 ?_
        refine A_ldc2 (z := 48) X kcX11_83 dX11_number_47 ?_
        refine A_ldc2 (z := 57) X kcX11_85 dX11_number_50 ?_
        refine A_dSi3 X (m_in (by have := ht ((s + m : Nat) : Int) (by omega) (by omega); omega) (by omega) (by omega)) knX11_in mlX11_57 dX11_number_53 ?_
        refine A_ifb_eq (t := 104) X dX11_number_56 (fun c56 => ?_) (fun c56 => by exact absurd c56 (hlast (by omega)))
        exact endw
    | succ k ih =>
      intro m hh hk hm h_this hq
      have h_this_text := (hq (tm + 7) (by omega)).trans h_this_text
      by_cases hmm : dg ft z s - s - m ≤ k
      · exact ih m hh hmm hm h_this hq
      · have hdj := hdi m (by omega)
        have e0 : ft ((s + m : Nat) : Int) = ft ((s : Int) + (m : Int)) := by rw [Int.natCast_add]
        rw [← e0] at hdj
        have hvb := nvl_b (ft := ft) (z := z) (p := s) m (fun j hj => hdi j (by omega))
        refine A_al0 X dX11_number_26 ?_
        refine A_getf X flX11_73 h_this rfl dX11_number_27 ?_
        refine A_al0 X dX11_number_30 ?_
        refine A_getf X flX11_70 h_this rfl dX11_number_31 ?_
        refine A_icmp_ge (t := 104) X (by omega) (by omega) dX11_number_34 (fun c34 => by exfalso; omega) (fun c34 => ?_)
        refine A_al0 X dX11_number_37 ?_
        refine A_getf X flX11_29 h_this rfl dX11_number_38 ?_
        refine A_al0 X dX11_number_41 ?_
        refine A_getf X flX11_73 h_this rfl dX11_number_42 ?_
        refine A_iald X h_this_text (by omega) dX11_number_45 ?_
        refine A_i2l X (by omega) dX11_number_46 ?_
        refine A_ldc2 (z := 48) X kcX11_83 dX11_number_47 ?_
        refine A_ldc2 (z := 57) X kcX11_85 dX11_number_50 ?_
        refine A_dSi3 X (m_in (by omega) (by omega) (by omega)) knX11_in mlX11_57 dX11_number_53 ?_
        refine A_ifb_eq (t := 104) X dX11_number_56 (fun c56 => by exact absurd hdj c56) (fun c56 => ?_)
        refine A_il5 X dX11_number_59 ?_
        refine A_bipush X dX11_number_61 ?_
        refine A_icmp_le (t := 71) X (by omega) (by omega) dX11_number_63 (fun c63 => ?_) (fun c63 => ?_)
        · refine A_bipush X dX11_number_71 ?_
          refine A_il5 X dX11_number_73 ?_
          refine A_imul X dX11_number_75 ?_
          refine A_al0 X dX11_number_76 ?_
          refine A_getf X flX11_29 h_this rfl dX11_number_77 ?_
          refine A_al0 X dX11_number_80 ?_
          refine A_getf X flX11_73 h_this rfl dX11_number_81 ?_
          refine A_iald X h_this_text (by omega) dX11_number_84 ?_
          refine A_iadd X dX11_number_85 ?_
          refine A_bipush X dX11_number_86 ?_
          refine A_isub X dX11_number_88 ?_
          refine A_is5 X dX11_number_89 ?_
          refine A_al0 X dX11_number_91 ?_
          refine A_dup X dX11_number_92 ?_
          refine A_getf X flX11_73 h_this rfl dX11_number_93 ?_
          refine A_iconst X dX11_number_96 ?_
          refine A_iadd X dX11_number_97 ?_
          refine A_putf X flX11_73 h_this dX11_number_98 ?_
          refine A_gen (fun h98 e98 k98 q98 => ?_)
          have h_this := e98
          have h_this_text := (k98 _ (by omega)).trans h_this_text
          refine A_goto (t := 26) X dX11_number_101 ?_
          have st := ih (m + 1) h98 (by omega) (by omega) h_this (fun q h1 => by rw [k98 q h1, hq q h1])
          rw [nvl, if_neg (by omega), ← e0] at st
          exact st
        · refine A_il5 X dX11_number_66 ?_
          refine A_goto (t := 89) X dX11_number_68 ?_
          refine A_is5 X dX11_number_89 ?_
          refine A_al0 X dX11_number_91 ?_
          refine A_dup X dX11_number_92 ?_
          refine A_getf X flX11_73 h_this rfl dX11_number_93 ?_
          refine A_iconst X dX11_number_96 ?_
          refine A_iadd X dX11_number_97 ?_
          refine A_putf X flX11_73 h_this dX11_number_98 ?_
          refine A_gen (fun h98 e98 k98 q98 => ?_)
          have h_this := e98
          have h_this_text := (k98 _ (by omega)).trans h_this_text
          refine A_goto (t := 26) X dX11_number_101 ?_
          have st := ih (m + 1) h98 (by omega) (by omega) h_this (fun q h1 => by rw [k98 q h1, hq q h1])
          rw [nvl, if_pos (by omega)] at st
          exact st
  refine A_al0 X dX11_number_0 ?_
  refine A_eVi0 X (m_first hz hp ht h_this h_this_text) h_this knX11_first mlX11_79 dX11_number_1 (fun h1 p1 => ?_)
  rw [hs] at p1
  obtain ⟨h_this, hq⟩ := p1
  rw [hs]
  refine A_is4 X dX11_number_4 ?_
  refine A_il4 X dX11_number_6 ?_
  refine A_i2l X (by omega) dX11_number_8 ?_
  refine A_ldc2 (z := 48) X kcX11_83 dX11_number_9 ?_
  refine A_ldc2 (z := 57) X kcX11_85 dX11_number_12 ?_
  refine A_dSi3 X (m_in (by omega) (by omega) (by omega)) knX11_in mlX11_57 dX11_number_15 ?_
  refine A_ifb_ne (t := 23) X dX11_number_18 (fun c18 => ?_) (fun c18 => ?_)
  · refine A_iconst X dX11_number_23 ?_
    refine A_is5 X dX11_number_24 ?_
    exact loop c18 (dg ft z s - s) 0 h1 (by omega) (by omega) h_this hq
  · refine A_iconst X dX11_number_21 ?_
    exact A_retz X dX11_number_22 rfl (Or.inl rfl) ⟨bI_0 (fun q => q (by rw [hnm, if_neg (fun q2 => c18 (by have e := decide_eq_true_eq.mp q2.1.2; rw [ch, if_pos q2.1.1]; exact e))])), rfl, ⟨_, h_this, fun v p2 q => absurd q (by rw [hnm, if_neg (fun q2 => c18 (by have e := decide_eq_true_eq.mp q2.1.2; rw [ch, if_pos q2.1.1]; exact e))]; simp), fun _ => (hq _ (by omega)).trans h_this_read⟩, fun q h1 _ => hq q h1⟩
