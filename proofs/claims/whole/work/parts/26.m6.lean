/-! the reference: lies, small answers -/
set_option maxRecDepth 100000 in
theorem m_lies {G : aG} {d n : Nat} {h : AH} {tm : Nat} {un sz sm tr ak bg mt : Int} {fs : Int → Int} {side w : Int} (hsr : inR side) (hw : inR w) (hok : sOK fs) (h_this : h tm = some (aOb 11 (mO tm un sz sm tr ak bg mt))) (h_this_suit : h (tm + 1) = some (aIa G 32 fs)) : aD G (d + 6) kX11_lies [.ref tm, aI side, aI w] n h (some (aI (qLies fs side w))) := by
  refine aCt_of (lv := [some (.ref tm), some (aI side), some (aI w), none, none, none, none, none, none]) knX11_lies.1 rfl rfl (Nat.le_of_ble_eq_true rfl) (fun x hG hsc X => ?_)
  subst hG
  have hg := hok.1
  obtain ⟨g, hgn⟩ := Int.eq_ofNat_of_zero_le hg.1
  have hgt : (fs 0).toNat = g := by omega
  have key : ∀ (had : Int) (hsd : side = 0 ∨ side = 1) (hw1 : w = 0 ∨ w = 1), had = lsH fs side → (0 ≤ had ∧ had ≤ 200) → AW x 0 0 n h 46 [some (.ref tm), some (aI side), some (aI w), none, none, none, none, none, none] [aI had] := by
    intro had hsd hw1 hhad hhb
    have X := X
    rw [qLies, if_pos ⟨by omega, by omega⟩, hgt, ← hhad] at X
    refine A_is3 X dX11_lies_46 ?_
    refine A_iconst X dX11_lies_47 ?_
    refine A_is4 X dX11_lies_48 ?_
    refine A_bipush X dX11_lies_50 ?_
    refine A_is5 X dX11_lies_52 ?_
    refine A_iconst X dX11_lies_54 ?_
    refine A_is6 X dX11_lies_55 ?_
    refine lp_0 (P := fun i => ∀ (s t : Int), s = lsM fs side had (21 * i) → t = lsF fs side had (21 * i) → AW x 0 0 n h 57 [some (.ref tm), some (aI side), some (aI w), some (aI had), some (aI s), some (aI t), some (aI (i : Int)), none, none] []) g ?_ ?_ 0 (-9) rfl rfl
    · intro s t hs ht
      refine A_il6 X dX11_lies_57 ?_
      refine A_al0 X dX11_lies_59 ?_
      refine A_getf X flX11_7 h_this rfl dX11_lies_60 ?_
      refine A_iconst X dX11_lies_63 ?_
      refine A_iald X h_this_suit (by omega) dX11_lies_64 ?_
      refine A_icmp_ge (t := 141) X (by omega) (by omega) dX11_lies_65 (fun c65 => ?_) (fun c65 => by exfalso; omega)
      refine A_il2 X dX11_lies_141 ?_
      refine A_if_ne (t := 150) X (by omega) dX11_lies_142 (fun c142 => ?_) (fun c142 => ?_)
      · refine A_il5 X dX11_lies_150 ?_
        exact A_ret X dX11_lies_152 rfl ⟨congrArg (fun t => some (aI t)) (by rw [if_neg c142, ht]), rfl, rfl⟩
      · refine A_il4 X dX11_lies_145 ?_
        refine A_goto (t := 152) X dX11_lies_147 ?_
        exact A_ret X dX11_lies_152 rfl ⟨congrArg (fun t => some (aI t)) (by rw [if_pos c142, hs]), rfl, rfl⟩
    · intro i hi ih s0 t0 hs0 ht0
      refine A_il6 X dX11_lies_57 ?_
      refine A_al0 X dX11_lies_59 ?_
      refine A_getf X flX11_7 h_this rfl dX11_lies_60 ?_
      refine A_iconst X dX11_lies_63 ?_
      refine A_iald X h_this_suit (by omega) dX11_lies_64 ?_
      refine A_icmp_ge (t := 141) X (by omega) (by omega) dX11_lies_65 (fun c65 => by exfalso; omega) (fun c65 => ?_)
      refine A_iconst X dX11_lies_68 ?_
      refine A_is7 X dX11_lies_69 ?_
      refine lp_0 (P := fun j => ∀ (s t : Int), s = lsM fs side had (21 * i + j) → t = lsF fs side had (21 * i + j) → AW x 0 0 n h 71 [some (.ref tm), some (aI side), some (aI w), some (aI had), some (aI s), some (aI t), some (aI (i : Int)), some (aI (j : Int)), none] []) 21 ?_ ?_ s0 t0 hs0 ht0
      · intro s t hs ht
        refine A_il7 X dX11_lies_71 ?_
        refine A_bipush X dX11_lies_73 ?_
        refine A_icmp_gt (t := 135) X (by omega) (by omega) dX11_lies_75 (fun c75 => ?_) (fun c75 => by exfalso; omega)
        refine A_ii6 X dX11_lies_135 ?_
        refine A_goto (t := 57) X dX11_lies_138 ?_
        exact A_fg7 (ih _ _ (by rw [hs]; rfl) (by rw [ht]; rfl))
      · intro j hj ih2 s t hs ht
        have hq := qG_b hok hsd (i : Int) (j : Int)
        have hlb := lsM_b hok hsd hhb (21 * i + j)
        have e1 : (21 * i + j) / 21 = i := by omega
        have e2 : (21 * i + j) % 21 = j := by omega
        have e3 : lsI fs side had (21 * i + j) = qG fs side (i : Int) (j : Int) - had := by rw [lsI, e1, e2]
        refine A_il7 X dX11_lies_71 ?_
        refine A_bipush X dX11_lies_73 ?_
        refine A_icmp_gt (t := 135) X (by omega) (by omega) dX11_lies_75 (fun c75 => by exfalso; omega) (fun c75 => ?_)
        refine A_al0 X dX11_lies_78 ?_
        refine A_il1 X dX11_lies_79 ?_
        refine A_il6 X dX11_lies_80 ?_
        refine A_il7 X dX11_lies_82 ?_
        refine A_dVi3 X (m_gains hsd (by omega) (by omega) hok h_this h_this_suit) h_this knX11_gains mlX11_176 dX11_lies_84 ?_
        refine A_il3 X dX11_lies_87 ?_
        refine A_isub X dX11_lies_88 ?_
        refine A_is8 X dX11_lies_89 ?_
        refine A_il8 X dX11_lies_91 ?_
        refine A_il4 X dX11_lies_93 ?_
        refine A_icmp_le (t := 109) X (by omega) (by omega) dX11_lies_95 (fun c95 => ?_) (fun c95 => ?_)
        · refine A_il5 X dX11_lies_109 ?_
          refine A_is5 X dX11_lies_111 ?_
          refine A_il8 X dX11_lies_113 ?_
          refine A_il4 X dX11_lies_115 ?_
          refine A_icmp_le (t := 125) X (by omega) (by omega) dX11_lies_117 (fun c117 => ?_) (fun c117 => ?_)
          · refine A_il4 X dX11_lies_125 ?_
            refine A_is4 X dX11_lies_127 ?_
            refine A_ii7 X dX11_lies_129 ?_
            refine A_goto (t := 71) X dX11_lies_132 ?_
            exact A_fg8 (ih2 _ _ (by rw [show 21 * i + (j + 1) = (21 * i + j) + 1 from rfl, lsM, e3]; split <;> omega) (by rw [show 21 * i + (j + 1) = (21 * i + j) + 1 from rfl, lsF, e1, e2, e3]; split <;> omega))
          · refine A_il8 X dX11_lies_120 ?_
            refine A_goto (t := 127) X dX11_lies_122 ?_
            refine A_is4 X dX11_lies_127 ?_
            refine A_ii7 X dX11_lies_129 ?_
            refine A_goto (t := 71) X dX11_lies_132 ?_
            exact A_fg8 (ih2 _ _ (by rw [show 21 * i + (j + 1) = (21 * i + j) + 1 from rfl, lsM, e3]; split <;> omega) (by rw [show 21 * i + (j + 1) = (21 * i + j) + 1 from rfl, lsF, e1, e2, e3]; split <;> omega))
        · refine A_bipush X dX11_lies_98 ?_
          refine A_il6 X dX11_lies_100 ?_
          refine A_imul X dX11_lies_102 ?_
          refine A_il7 X dX11_lies_103 ?_
          refine A_iadd X dX11_lies_105 ?_
          refine A_goto (t := 111) X dX11_lies_106 ?_
          refine A_is5 X dX11_lies_111 ?_
          refine A_il8 X dX11_lies_113 ?_
          refine A_il4 X dX11_lies_115 ?_
          refine A_icmp_le (t := 125) X (by omega) (by omega) dX11_lies_117 (fun c117 => ?_) (fun c117 => ?_)
          · refine A_il4 X dX11_lies_125 ?_
            refine A_is4 X dX11_lies_127 ?_
            refine A_ii7 X dX11_lies_129 ?_
            refine A_goto (t := 71) X dX11_lies_132 ?_
            exact A_fg8 (ih2 _ _ (by rw [show 21 * i + (j + 1) = (21 * i + j) + 1 from rfl, lsM, e3]; split <;> omega) (by rw [show 21 * i + (j + 1) = (21 * i + j) + 1 from rfl, lsF, e1, e2, e3]; split <;> omega))
          · refine A_il8 X dX11_lies_120 ?_
            refine A_goto (t := 127) X dX11_lies_122 ?_
            refine A_is4 X dX11_lies_127 ?_
            refine A_ii7 X dX11_lies_129 ?_
            refine A_goto (t := 71) X dX11_lies_132 ?_
            exact A_fg8 (ih2 _ _ (by rw [show 21 * i + (j + 1) = (21 * i + j) + 1 from rfl, lsM, e3]; split <;> omega) (by rw [show 21 * i + (j + 1) = (21 * i + j) + 1 from rfl, lsF, e1, e2, e3]; split <;> omega))
  refine A_il1 X dX11_lies_0 ?_
  refine A_dSi1 X (m_isTwo (by omega)) knX11_isTwo mlX11_119 dX11_lies_1 ?_
  refine A_ifb_eq (t := 14) X dX11_lies_4 (fun c4 => by exact A_iconst X dX11_lies_14 (A_ret X dX11_lies_15 rfl ⟨congrArg (fun t => some (aI t)) (by rw [qLies, if_neg (fun q => c4 q.1)]), rfl, rfl⟩)) (fun c4 => ?_)
  refine A_il2 X dX11_lies_7 ?_
  refine A_dSi1 X (m_isTwo (by omega)) knX11_isTwo mlX11_119 dX11_lies_8 ?_
  refine A_ifb_ne (t := 16) X dX11_lies_11 (fun c11 => ?_) (fun c11 => by exact A_iconst X dX11_lies_14 (A_ret X dX11_lies_15 rfl ⟨congrArg (fun t => some (aI t)) (by rw [qLies, if_neg (fun q => c11 q.2)]), rfl, rfl⟩))
  refine A_al0 X dX11_lies_16 ?_
  refine A_getf X flX11_7 h_this rfl dX11_lies_17 ?_
  refine A_iconst X dX11_lies_20 ?_
  refine A_iald X h_this_suit (by omega) dX11_lies_21 ?_
  refine A_if_ne (t := 29) X (by omega) dX11_lies_22 (fun c22 => ?_) (fun c22 => ?_)
  · have hb := hok.2.2.2.2.1 (4 + 6 * side) (by omega) (by omega)
    refine A_al0 X dX11_lies_29 ?_
    refine A_il1 X dX11_lies_30 ?_
    refine A_iconst X dX11_lies_31 ?_
    refine A_al0 X dX11_lies_32 ?_
    refine A_getf X flX11_7 h_this rfl dX11_lies_33 ?_
    refine A_iconst X dX11_lies_36 ?_
    refine A_bipush X dX11_lies_37 ?_
    refine A_il1 X dX11_lies_39 ?_
    refine A_imul X dX11_lies_40 ?_
    refine A_iadd X dX11_lies_41 ?_
    refine A_iald X h_this_suit (by omega) dX11_lies_42 ?_
    refine A_dVi3 X (m_gains (by omega) (by omega) hb hok h_this h_this_suit) h_this knX11_gains mlX11_176 dX11_lies_43 ?_
    exact key _ (by omega) (by omega) (by rw [lsH, if_neg c22]) (qG_b hok (by omega) _ _)
  · refine A_iconst X dX11_lies_25 ?_
    refine A_goto (t := 46) X dX11_lies_26 ?_
    exact key _ (by omega) (by omega) (by rw [lsH, if_pos c22]) (by omega)
/-! small answers -/
def qValues (fs : Int → Int) (side set : Int) : Int := if (0 ≤ side ∧ side ≤ 1) ∧ (0 ≤ set ∧ set ≤ ((al fs - 1 : Nat) : Int)) then vl fs side set.toNat else -1
set_option maxRecDepth 100000 in
theorem m_values {G : aG} {d n : Nat} {h : AH} {tm : Nat} {un sz sm tr ak bg mt : Int} {fs : Int → Int} {side set : Int} (hsr : inR side) (hst : inR set) (hok : sOK fs) (h_this : h tm = some (aOb 11 (mO tm un sz sm tr ak bg mt))) (h_this_suit : h (tm + 1) = some (aIa G 32 fs)) : aD G (d + 2) kX11_values [.ref tm, aI side, aI set] n h (some (aI (qValues fs side set))) := by
  refine aCt_of (lv := [some (.ref tm), some (aI side), some (aI set)]) knX11_values.1 rfl rfl (Nat.le_of_ble_eq_true rfl) (fun x hG hsc X => ?_)
  subst hG
  have hg := hok.1
  have h2 := al_b hg
  refine A_il1 X dX11_values_0 ?_
  refine A_dSi1 X (m_isTwo (by omega)) knX11_isTwo mlX11_119 dX11_values_1 ?_
  refine A_ifb_eq (t := 30) X dX11_values_4 (fun c4 => ?_) (fun c4 => ?_)
  · refine A_iconst X dX11_values_30 ?_
    exact A_ret X dX11_values_31 rfl ⟨congrArg (fun t => some (aI t)) (by rw [qValues, if_neg (fun q => c4 q.1)]), rfl, rfl⟩
  · refine A_il2 X dX11_values_7 ?_
    refine A_i2l X (by omega) dX11_values_8 ?_
    refine A_lconst (z := 0) X dX11_values_9 ?_
    refine A_al0 X dX11_values_10 ?_
    refine A_dVi0 X (m_all2 hg h_this h_this_suit) h_this knX11_all mlX11_122 dX11_values_11 ?_
    refine A_i2l X (by omega) dX11_values_14 ?_
    refine A_dSi3 X (m_in (by omega) (by omega) (by omega)) knX11_in mlX11_57 dX11_values_15 ?_
    refine A_ifb_eq (t := 30) X dX11_values_18 (fun c18 => ?_) (fun c18 => ?_)
    · refine A_iconst X dX11_values_30 ?_
      exact A_ret X dX11_values_31 rfl ⟨congrArg (fun t => some (aI t)) (by rw [qValues, if_neg (fun q => c18 q.2)]), rfl, rfl⟩
    · refine A_al0 X dX11_values_21 ?_
      refine A_il1 X dX11_values_22 ?_
      refine A_il2 X dX11_values_23 ?_
      refine A_dVi2 X (m_valued set.toNat (by omega) (by omega) (by omega) hok h_this h_this_suit) h_this knX11_valued mlX11_125 dX11_values_24 ?_
      refine A_goto (t := 31) X dX11_values_27 ?_
      exact A_ret X dX11_values_31 rfl ⟨congrArg (fun t => some (aI t)) (by rw [qValues, if_pos ⟨c4, c18⟩]), rfl, rfl⟩
def qGood (fs fn : Int → Int) (g w : Int) : Int := if (0 ≤ g ∧ g ≤ fs 0 - 1) ∧ (0 ≤ w ∧ w ≤ 2) then (if w < 2 then fs (4 + 6 * w + g) else fn (0 + g)) else -1
set_option maxRecDepth 100000 in
theorem m_good {G : aG} {d n : Nat} {h : AH} {tm : Nat} {un sz sm tr ak bg mt : Int} {fs : Int → Int} {fn : Int → Int} {g w : Int} (hgr : inR g) (hw : inR w) (hok : sOK fs) (h_this : h tm = some (aOb 11 (mO tm un sz sm tr ak bg mt))) (h_this_suit : h (tm + 1) = some (aIa G 32 fs)) (h_this_now : h (tm + 3) = some (aIa G 9 fn)) : aD G (d + 2) kX11_good [.ref tm, aI g, aI w] n h (some (aI (qGood fs fn g w))) := by
  refine aCt_of (lv := [some (.ref tm), some (aI g), some (aI w)]) knX11_good.1 rfl rfl (Nat.le_of_ble_eq_true rfl) (fun x hG hsc X => ?_)
  subst hG
  have hg := hok.1
  refine A_al0 X dX11_good_0 ?_
  refine A_il1 X dX11_good_1 ?_
  refine A_dVi1 X (m_isGood (by omega) hg h_this h_this_suit) h_this knX11_isGood mlX11_114 dX11_good_2 ?_
  refine A_ifb_eq (t := 20) X dX11_good_5 (fun c5 => ?_) (fun c5 => ?_)
  · refine A_iconst X dX11_good_20 ?_
    exact A_ret X dX11_good_21 rfl ⟨congrArg (fun t => some (aI t)) (by rw [qGood, if_neg (fun q => c5 q.1)]), rfl, rfl⟩
  · refine A_il2 X dX11_good_8 ?_
    refine A_i2l X (by omega) dX11_good_9 ?_
    refine A_lconst (z := 0) X dX11_good_10 ?_
    refine A_ldc2 (z := 2) X kcX11_117 dX11_good_11 ?_
    refine A_dSi3 X (m_in (by omega) (by omega) (by omega)) knX11_in mlX11_57 dX11_good_14 ?_
    refine A_ifb_ne (t := 22) X dX11_good_17 (fun c17 => ?_) (fun c17 => ?_)
    · refine A_il2 X dX11_good_22 ?_
      refine A_iconst X dX11_good_23 ?_
      refine A_icmp_ge (t := 43) X (by omega) (by omega) dX11_good_24 (fun c24 => ?_) (fun c24 => ?_)
      · refine A_al0 X dX11_good_43 ?_
        refine A_getf X flX11_16 h_this rfl dX11_good_44 ?_
        refine A_iconst X dX11_good_47 ?_
        refine A_il1 X dX11_good_48 ?_
        refine A_iadd X dX11_good_49 ?_
        refine A_iald X h_this_now (by omega) dX11_good_50 ?_
        exact A_ret X dX11_good_51 rfl ⟨congrArg (fun t => some (aI t)) (by rw [qGood, if_pos ⟨c5, c17⟩, if_neg (by omega)]), rfl, rfl⟩
      · refine A_al0 X dX11_good_27 ?_
        refine A_getf X flX11_7 h_this rfl dX11_good_28 ?_
        refine A_iconst X dX11_good_31 ?_
        refine A_bipush X dX11_good_32 ?_
        refine A_il2 X dX11_good_34 ?_
        refine A_imul X dX11_good_35 ?_
        refine A_iadd X dX11_good_36 ?_
        refine A_il1 X dX11_good_37 ?_
        refine A_iadd X dX11_good_38 ?_
        refine A_iald X h_this_suit (by omega) dX11_good_39 ?_
        refine A_goto (t := 51) X dX11_good_40 ?_
        exact A_ret X dX11_good_51 rfl ⟨congrArg (fun t => some (aI t)) (by rw [qGood, if_pos ⟨c5, c17⟩, if_pos (by omega)]), rfl, rfl⟩
    · refine A_iconst X dX11_good_20 ?_
      exact A_ret X dX11_good_21 rfl ⟨congrArg (fun t => some (aI t)) (by rw [qGood, if_neg (fun q => c17 q.2)]), rfl, rfl⟩
def qNow (fs fn : Int → Int) (un w : Int) : Int := if 0 ≤ w ∧ w ≤ 2 then (gO fn w (fs 0).toNat : Nat) else if w = 3 then fn 6 else if w = 4 then un else -1
set_option maxRecDepth 100000 in
theorem m_now {G : aG} {d n : Nat} {h : AH} {tm : Nat} {un sz sm tr ak bg mt : Int} {fs : Int → Int} {fn : Int → Int} {w : Int} (hw : inR w) (hn : nOK fn) (hok : sOK fs) (h_this : h tm = some (aOb 11 (mO tm un sz sm tr ak bg mt))) (h_this_suit : h (tm + 1) = some (aIa G 32 fs)) (h_this_now : h (tm + 3) = some (aIa G 9 fn)) : aD G (d + 1) kX11_now [.ref tm, aI w] n h (some (aI (qNow fs fn un w))) := by
  refine aCt_of (lv := [some (.ref tm), some (aI w)]) knX11_now.1 rfl rfl (Nat.le_of_ble_eq_true rfl) (fun x hG hsc X => ?_)
  subst hG
  have hg := hok.1
  refine A_il1 X dX11_now_0 ?_
  rcases (show (w) < 0 ∨ (w) > 4 ∨ (w) = 0 ∨ (w) = 1 ∨ (w) = 2 ∨ (w) = 3 ∨ (w) = 4 by omega) with c1 | c1 | c1 | c1 | c1 | c1 | c1
  · refine A_tabOut (t := 55) X (by omega) dX11_now_1 (by omega) ?_
    refine A_iconst X dX11_now_55 ?_
    exact A_ret X dX11_now_56 rfl ⟨congrArg (fun t => some (aI t)) (by rw [qNow, if_neg (by omega), if_neg (by omega), if_neg (by omega)]), rfl, rfl⟩
  · refine A_tabOut (t := 55) X (by omega) dX11_now_1 (by omega) ?_
    refine A_iconst X dX11_now_55 ?_
    exact A_ret X dX11_now_56 rfl ⟨congrArg (fun t => some (aI t)) (by rw [qNow, if_neg (by omega), if_neg (by omega), if_neg (by omega)]), rfl, rfl⟩
  · refine A_tabIn (t := 36) X (by omega) dX11_now_1 0 (by omega) (by omega) rfl ?_
    refine A_al0 X dX11_now_36 ?_
    refine A_il1 X dX11_now_37 ?_
    refine A_dVi1 X (m_goodsOf (fs 0).toNat (by omega) (by omega) hn.1 hw h_this h_this_suit h_this_now) h_this knX11_goodsOf mlX11_129 dX11_now_38 ?_
    exact A_ret X dX11_now_41 rfl ⟨congrArg (fun t => some (aI t)) (by rw [qNow, if_pos (by omega)]), rfl, rfl⟩
  · refine A_tabIn (t := 36) X (by omega) dX11_now_1 1 (by omega) (by omega) rfl ?_
    refine A_al0 X dX11_now_36 ?_
    refine A_il1 X dX11_now_37 ?_
    refine A_dVi1 X (m_goodsOf (fs 0).toNat (by omega) (by omega) hn.1 hw h_this h_this_suit h_this_now) h_this knX11_goodsOf mlX11_129 dX11_now_38 ?_
    exact A_ret X dX11_now_41 rfl ⟨congrArg (fun t => some (aI t)) (by rw [qNow, if_pos (by omega)]), rfl, rfl⟩
  · refine A_tabIn (t := 36) X (by omega) dX11_now_1 2 (by omega) (by omega) rfl ?_
    refine A_al0 X dX11_now_36 ?_
    refine A_il1 X dX11_now_37 ?_
    refine A_dVi1 X (m_goodsOf (fs 0).toNat (by omega) (by omega) hn.1 hw h_this h_this_suit h_this_now) h_this knX11_goodsOf mlX11_129 dX11_now_38 ?_
    exact A_ret X dX11_now_41 rfl ⟨congrArg (fun t => some (aI t)) (by rw [qNow, if_pos (by omega)]), rfl, rfl⟩
  · refine A_tabIn (t := 42) X (by omega) dX11_now_1 3 (by omega) (by omega) rfl ?_
    refine A_al0 X dX11_now_42 ?_
    refine A_getf X flX11_16 h_this rfl dX11_now_43 ?_
    refine A_bipush X dX11_now_46 ?_
    refine A_iald X h_this_now (by omega) dX11_now_48 ?_
    exact A_ret X dX11_now_49 rfl ⟨congrArg (fun t => some (aI t)) (by rw [qNow, if_neg (by omega), if_pos (by omega)]), rfl, rfl⟩
  · refine A_tabIn (t := 50) X (by omega) dX11_now_1 4 (by omega) (by omega) rfl ?_
    refine A_al0 X dX11_now_50 ?_
    refine A_getf X flX11_61 h_this rfl dX11_now_51 ?_
    exact A_ret X dX11_now_54 rfl ⟨congrArg (fun t => some (aI t)) (by rw [qNow, if_neg (by omega), if_neg (by omega), if_pos (by omega)]), rfl, rfl⟩
def qCount (fs : Int → Int) (sm sz w : Int) : Int := if 0 ≤ w ∧ w ≤ 3 then fs w else if w = 4 then sm else if w = 5 then sz else -1
set_option maxRecDepth 100000 in
theorem m_count {G : aG} {d n : Nat} {h : AH} {tm : Nat} {un sz sm tr ak bg mt : Int} {fs : Int → Int} {w : Int} (hw : inR w) (h_this : h tm = some (aOb 11 (mO tm un sz sm tr ak bg mt))) (h_this_suit : h (tm + 1) = some (aIa G 32 fs)) : aD G d kX11_count [.ref tm, aI w] n h (some (aI (qCount fs sm sz w))) := by
  refine aCt_of (lv := [some (.ref tm), some (aI w)]) knX11_count.1 rfl rfl (Nat.le_of_ble_eq_true rfl) (fun x hG hsc X => ?_)
  subst hG
  refine A_il1 X dX11_count_0 ?_
  rcases (show (w) < 0 ∨ (w) > 5 ∨ (w) = 0 ∨ (w) = 1 ∨ (w) = 2 ∨ (w) = 3 ∨ (w) = 4 ∨ (w) = 5 by omega) with c1 | c1 | c1 | c1 | c1 | c1 | c1 | c1
  · refine A_tabOut (t := 57) X (by omega) dX11_count_1 (by omega) ?_
    refine A_iconst X dX11_count_57 ?_
    exact A_ret X dX11_count_58 rfl ⟨congrArg (fun t => some (aI t)) (by rw [qCount, if_neg (by omega), if_neg (by omega), if_neg (by omega)]), rfl, rfl⟩
  · refine A_tabOut (t := 57) X (by omega) dX11_count_1 (by omega) ?_
    refine A_iconst X dX11_count_57 ?_
    exact A_ret X dX11_count_58 rfl ⟨congrArg (fun t => some (aI t)) (by rw [qCount, if_neg (by omega), if_neg (by omega), if_neg (by omega)]), rfl, rfl⟩
  · refine A_tabIn (t := 40) X (by omega) dX11_count_1 0 (by omega) (by omega) rfl ?_
    refine A_al0 X dX11_count_40 ?_
    refine A_getf X flX11_7 h_this rfl dX11_count_41 ?_
    refine A_il1 X dX11_count_44 ?_
    refine A_iald X h_this_suit (by omega) dX11_count_45 ?_
    exact A_ret X dX11_count_46 rfl ⟨congrArg (fun t => some (aI t)) (by rw [qCount, if_pos (by omega)]), rfl, rfl⟩
  · refine A_tabIn (t := 40) X (by omega) dX11_count_1 1 (by omega) (by omega) rfl ?_
    refine A_al0 X dX11_count_40 ?_
    refine A_getf X flX11_7 h_this rfl dX11_count_41 ?_
    refine A_il1 X dX11_count_44 ?_
    refine A_iald X h_this_suit (by omega) dX11_count_45 ?_
    exact A_ret X dX11_count_46 rfl ⟨congrArg (fun t => some (aI t)) (by rw [qCount, if_pos (by omega)]), rfl, rfl⟩
  · refine A_tabIn (t := 40) X (by omega) dX11_count_1 2 (by omega) (by omega) rfl ?_
    refine A_al0 X dX11_count_40 ?_
    refine A_getf X flX11_7 h_this rfl dX11_count_41 ?_
    refine A_il1 X dX11_count_44 ?_
    refine A_iald X h_this_suit (by omega) dX11_count_45 ?_
    exact A_ret X dX11_count_46 rfl ⟨congrArg (fun t => some (aI t)) (by rw [qCount, if_pos (by omega)]), rfl, rfl⟩
  · refine A_tabIn (t := 40) X (by omega) dX11_count_1 3 (by omega) (by omega) rfl ?_
    refine A_al0 X dX11_count_40 ?_
    refine A_getf X flX11_7 h_this rfl dX11_count_41 ?_
    refine A_il1 X dX11_count_44 ?_
    refine A_iald X h_this_suit (by omega) dX11_count_45 ?_
    exact A_ret X dX11_count_46 rfl ⟨congrArg (fun t => some (aI t)) (by rw [qCount, if_pos (by omega)]), rfl, rfl⟩
  · refine A_tabIn (t := 47) X (by omega) dX11_count_1 4 (by omega) (by omega) rfl ?_
    refine A_al0 X dX11_count_47 ?_
    refine A_getf X flX11_65 h_this rfl dX11_count_48 ?_
    exact A_ret X dX11_count_51 rfl ⟨congrArg (fun t => some (aI t)) (by rw [qCount, if_neg (by omega), if_pos (by omega)]), rfl, rfl⟩
  · refine A_tabIn (t := 52) X (by omega) dX11_count_1 5 (by omega) (by omega) rfl ?_
    refine A_al0 X dX11_count_52 ?_
    refine A_getf X flX11_70 h_this rfl dX11_count_53 ?_
    exact A_ret X dX11_count_56 rfl ⟨congrArg (fun t => some (aI t)) (by rw [qCount, if_neg (by omega), if_neg (by omega), if_pos (by omega)]), rfl, rfl⟩
set_option maxRecDepth 100000 in
theorem m_trace {G : aG} {d n : Nat} {h : AH} {tm : Nat} {un sz sm tr ak bg mt : Int} (h_this : h tm = some (aOb 11 (mO tm un sz sm tr ak bg mt))) : aD G d kX11_trace [.ref tm] n h (some (aL tr)) := by
  refine aCt_of (lv := [some (.ref tm)]) knX11_trace.1 rfl rfl (Nat.le_of_ble_eq_true rfl) (fun x hG hsc X => ?_)
  subst hG
  refine A_al0 X dX11_trace_0 ?_
  refine A_getf X flX11_206 h_this rfl dX11_trace_1 ?_
  exact A_retl X dX11_trace_4 rfl ⟨rfl, rfl, rfl⟩
