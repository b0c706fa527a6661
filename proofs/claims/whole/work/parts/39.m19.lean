/-! the reference: suit() -/
def mtN (ht ct : Bool) : Nat := (if ht = true then 4 else 0) + (if ct = true then 8 else 0)
theorem mtN_1 : ∀ ht ct : Bool, mtN ht ct < 16 ∧ decide (hasB (mtN ht ct) 2) = ht ∧ decide (hasB (mtN ht ct) 3) = ct ∧ mtN ht ct ||| 1 * 2 ^ 2 = mtN true ct ∧ mtN ht ct ||| 1 * 2 ^ 3 = mtN ht true := by decide
theorem itP_mt {G : aG} {tm z : Nat} {un sm tr : Int} {h : AH} {r : Nat ⊕ ((Int → Int) × Nat)} {m1 m2 : Int} {h' : AH} (e : m1 = m2) (hp : itP G tm z un sm tr h r m1 h') : itP G tm z un sm tr h r m2 h' := e ▸ hp
set_option maxRecDepth 100000 in
theorem m_takesItem {G : aG} {d n : Nat} {h : AH} {tm : Nat} {un sm tr mt : Int} {ft fr : Int → Int} {z s : Nat} {c : Int} {ht2 ct2 : Bool} (hmt : mt = ((mtN ht2 ct2 : Nat) : Int)) (hcc : c = ft (s : Int)) (hg : 0 ≤ fr 0 ∧ fr 0 ≤ 6) (hpp : 0 ≤ fr 1 ∧ fr 1 ≤ 4) (hz : z ≤ 200) (hs : s < z) (ht : tOK ft z) (h_this : h tm = some (aOb 11 (mO tm un (z : Int) sm tr (s : Int) (s : Int) mt))) (h_this_text : h (tm + 7) = some (aIa G 200 ft)) (h_this_read : h (tm + 2) = some (aIa G 32 fr)) : aE G (d + 3) kX11_takesItem [.ref tm, aI c] n h (some (aI (bI (isR (pItem ft z fr ht2 ct2 s) = true)))) (fun h' => ∃ mt2 : Int, (isR (pItem ft z fr ht2 ct2 s) = true → mt2 = ((mtN (ht2 || decide (ft (s : Int) = 104)) (ct2 || decide (ft (s : Int) = 99)) : Nat) : Int)) ∧ itP G tm z un sm tr h (pItem ft z fr ht2 ct2 s) mt2 h') := by
  refine aCt_of (lv := [some (.ref tm), some (aI c)]) knX11_takesItem.1 rfl rfl (Nat.le_of_ble_eq_true rfl) (fun x hG hsc X => ?_)
  subst hG
  have hc := ht (s : Int) (by omega) (by omega)
  obtain ⟨m1, m2, m3, m4, m5⟩ := mtN_1 ht2 ct2
  refine A_il1 X dX11_takesItem_0 ?_
  rcases (show (c) = 99 ∨ (c) = 103 ∨ (c) = 104 ∨ (c) = 112 ∨ ((c) ≠ 99 ∧ (c) ≠ 103 ∧ (c) ≠ 104 ∧ (c) ≠ 112) by omega) with c1 | c1 | c1 | c1 | c1
  · refine A_lookup (t := 62) (off := 61) X (by omega) dX11_takesItem_1 (by simp [Op.lookupswitch.offset, c1]) ?_
    have ep : pItem ft z fr ht2 ct2 s = pOne ft z fr s 3 1 6 ct2 := by rw [pItem, if_neg (by omega), if_neg (by omega), if_neg (by omega), if_pos (by omega)]
    rw [ep] at X
    refine A_al0 X dX11_takesItem_62 ?_
    refine A_iconst X dX11_takesItem_63 ?_
    refine A_iconst X dX11_takesItem_64 ?_
    refine A_bipush X dX11_takesItem_65 ?_
    refine A_eVi3 X (m_takesOne 3 rfl (by omega) (mtN ht2 ct2) hmt m1 (by omega) (by omega) hz hs ht h_this h_this_text h_this_read) h_this knX11_takesOne mlX11_107 dX11_takesItem_67 (fun h67 p67 => ?_)
    rw [m3] at p67
    rw [m3]
    obtain ⟨mt2, q1, q2⟩ := p67
    exact A_retz X dX11_takesItem_70 rfl bI_or ⟨rfl, rfl, mt2, (fun q => by rw [q1 q, m5, decide_eq_false (by omega), Bool.or_false, decide_eq_true (by omega), Bool.or_true]), q2⟩
  · refine A_lookup (t := 44) (off := 43) X (by omega) dX11_takesItem_1 (by simp [Op.lookupswitch.offset, c1]) ?_
    have ep : pItem ft z fr ht2 ct2 s = pGood ft z fr s := by rw [pItem, if_pos (by omega)]
    rw [ep] at X
    refine A_al0 X dX11_takesItem_44 ?_
    refine A_eVi0 X (m_takesGood hg hz hs ht h_this h_this_text h_this_read) h_this knX11_takesGood mlX11_101 dX11_takesItem_45 (fun h45 p45 => ?_)
    exact A_retz X dX11_takesItem_48 rfl bI_or ⟨rfl, rfl, mt, (fun q => by rw [hmt, decide_eq_false (by omega), Bool.or_false, decide_eq_false (by omega), Bool.or_false]), p45⟩
  · refine A_lookup (t := 54) (off := 53) X (by omega) dX11_takesItem_1 (by simp [Op.lookupswitch.offset, c1]) ?_
    have ep : pItem ft z fr ht2 ct2 s = pOne ft z fr s 2 0 3 ht2 := by rw [pItem, if_neg (by omega), if_neg (by omega), if_pos (by omega)]
    rw [ep] at X
    refine A_al0 X dX11_takesItem_54 ?_
    refine A_iconst X dX11_takesItem_55 ?_
    refine A_iconst X dX11_takesItem_56 ?_
    refine A_iconst X dX11_takesItem_57 ?_
    refine A_eVi3 X (m_takesOne 2 rfl (by omega) (mtN ht2 ct2) hmt m1 (by omega) (by omega) hz hs ht h_this h_this_text h_this_read) h_this knX11_takesOne mlX11_107 dX11_takesItem_58 (fun h58 p58 => ?_)
    rw [m2] at p58
    rw [m2]
    obtain ⟨mt2, q1, q2⟩ := p58
    exact A_retz X dX11_takesItem_61 rfl bI_or ⟨rfl, rfl, mt2, (fun q => by rw [q1 q, m4, decide_eq_true (by omega), Bool.or_true, decide_eq_false (by omega), Bool.or_false]), q2⟩
  · refine A_lookup (t := 49) (off := 48) X (by omega) dX11_takesItem_1 (by simp [Op.lookupswitch.offset, c1]) ?_
    have ep : pItem ft z fr ht2 ct2 s = pPair ft z fr s := by rw [pItem, if_neg (by omega), if_pos (by omega)]
    rw [ep] at X
    refine A_al0 X dX11_takesItem_49 ?_
    refine A_eVi0 X (m_takesPair hg hpp hz hs ht h_this h_this_text h_this_read) h_this knX11_takesPair mlX11_104 dX11_takesItem_50 (fun h50 p50 => ?_)
    exact A_retz X dX11_takesItem_53 rfl bI_or ⟨rfl, rfl, mt, (fun q => by rw [hmt, decide_eq_false (by omega), Bool.or_false, decide_eq_false (by omega), Bool.or_false]), p50⟩
  · refine A_lookup (t := 71) (off := 70) X (by omega) dX11_takesItem_1 (by obtain ⟨q0, q1, q2, q3⟩ := c1; simp [Op.lookupswitch.offset, q0, Ne.symm q0, q1, Ne.symm q1, q2, Ne.symm q2, q3, Ne.symm q3]) ?_
    have ep : pItem ft z fr ht2 ct2 s = .inl s := by rw [pItem, if_neg (by omega), if_neg (by omega), if_neg (by omega), if_neg (by omega)]
    rw [ep] at X
    refine A_iconst X dX11_takesItem_71 ?_
    exact A_retz X dX11_takesItem_72 rfl (Or.inl rfl) ⟨bI_0 Bool.false_ne_true, rfl, mt, (fun q => by cases q), ⟨_, _, _, h_this, h_this_read, fun f q => by cases q; rfl, fun _ _ q => by cases q⟩, fun _ _ _ => rfl⟩
theorem sOK_set {fr : Int → Int} (hok : sOK fr) {z v : Int} (hz : (4 ≤ z ∧ z < 16) ∨ (24 ≤ z ∧ z < 32)) (hv : 0 ≤ v ∧ v ≤ 20) : sOK (aiu fr z v) := by
  obtain ⟨h1, h2, h3, h4, h5, h6, h7⟩ := hok
  have e : ∀ k : Int, k < 4 ∨ (16 ≤ k ∧ k < 24) → aiu fr z v k = fr k := fun k hk => aiu_n (by omega)
  refine ⟨by rw [e 0 (by omega)]; exact h1, by rw [e 1 (by omega)]; exact h2, by rw [e 2 (by omega)]; exact h3, by rw [e 3 (by omega)]; exact h4, ?_, ?_, ?_⟩
  · intro k hk1 hk2
    unfold aiu
    split
    · exact hv
    · exact h5 k hk1 hk2
  · intro p hp1 hp2
    rw [e 1 (by omega)] at hp2
    rw [e (16 + p) (by omega), e (20 + p) (by omega), e 0 (by omega)]
    exact h6 p hp1 hp2
  · intro k hk1 hk2
    unfold aiu
    split
    · exact hv
    · exact h7 k hk1 hk2
theorem sOK_good {fr : Int → Int} (hok : sOK fr) (h : fr 0 ≠ 6) {v1 v2 : Int} (h1 : 0 ≤ v1 ∧ v1 ≤ 20) (h2 : 0 ≤ v2 ∧ v2 ≤ 20) : sOK (aiu (aiu (aiu fr (4 + fr 0) v1) (10 + fr 0) v2) 0 (fr 0 + 1)) := by
  have hg := hok.1
  have o := sOK_set (sOK_set hok (z := 4 + fr 0) (by omega) h1) (z := 10 + fr 0) (by omega) h2
  generalize hf : aiu (aiu fr (4 + fr 0) v1) (10 + fr 0) v2 = f at o ⊢
  have e0 : f 0 = fr 0 := by rw [← hf, aiu_n (by omega), aiu_n (by omega)]
  obtain ⟨g1, g2, g3, g4, g5, g6, g7⟩ := o
  have e : ∀ k : Int, k ≠ 0 → aiu f 0 (fr 0 + 1) k = f k := fun k hk => aiu_n hk
  refine ⟨by rw [aiu_s]; omega, by rw [e 1 (by omega)]; exact g2, by rw [e 2 (by omega)]; exact g3, by rw [e 3 (by omega)]; exact g4, ?_, ?_, ?_⟩
  · intro k hk1 hk2
    rw [e k (by omega)]
    exact g5 k hk1 hk2
  · intro p hp1 hp2
    rw [e 1 (by omega)] at hp2
    have := g6 p hp1 hp2
    rw [e (16 + p) (by omega), e (20 + p) (by omega), aiu_s]
    omega
  · intro k hk1 hk2
    rw [e k (by omega)]
    exact g7 k hk1 hk2
theorem sOK_pair {fr : Int → Int} (hok : sOK fr) (h : fr 1 ≠ 4) {v1 v2 v3 v4 : Int} (h1 : 0 ≤ v1 ∧ v1 ≤ fr 0 - 1) (h2 : 0 ≤ v2 ∧ v2 ≤ fr 0 - 1) (h3 : 0 ≤ v3 ∧ v3 ≤ 20) (h4 : 0 ≤ v4 ∧ v4 ≤ 20) : sOK (aiu (aiu (aiu (aiu (aiu fr (16 + fr 1) v1) (20 + fr 1) v2) (24 + fr 1) v3) (28 + fr 1) v4) 1 (fr 1 + 1)) := by
  obtain ⟨g1, g2, g3, g4, g5, g6, g7⟩ := hok
  have e : ∀ k : Int, k ≠ 1 → k ≠ 28 + fr 1 → k ≠ 24 + fr 1 → k ≠ 20 + fr 1 → k ≠ 16 + fr 1 → aiu (aiu (aiu (aiu (aiu fr (16 + fr 1) v1) (20 + fr 1) v2) (24 + fr 1) v3) (28 + fr 1) v4) 1 (fr 1 + 1) k = fr k := fun k a b c d e => by rw [aiu_n a, aiu_n b, aiu_n c, aiu_n d, aiu_n e]
  refine ⟨by rw [e 0 (by omega) (by omega) (by omega) (by omega) (by omega)]; exact g1, by rw [aiu_s]; omega, by rw [e 2 (by omega) (by omega) (by omega) (by omega) (by omega)]; exact g3, by rw [e 3 (by omega) (by omega) (by omega) (by omega) (by omega)]; exact g4, ?_, ?_, ?_⟩
  · intro k hk1 hk2
    rw [e k (by omega) (by omega) (by omega) (by omega) (by omega)]
    exact g5 k hk1 hk2
  · intro p hp1 hp2
    rw [aiu_s] at hp2
    rw [e 0 (by omega) (by omega) (by omega) (by omega) (by omega)]
    by_cases hp : p = fr 1
    · subst hp
      rw [aiu_n (show 16 + fr 1 ≠ 1 by omega), aiu_n (show 16 + fr 1 ≠ 28 + fr 1 by omega), aiu_n (show 16 + fr 1 ≠ 24 + fr 1 by omega), aiu_n (show 16 + fr 1 ≠ 20 + fr 1 by omega), aiu_s, aiu_n (show 20 + fr 1 ≠ 1 by omega), aiu_n (show 20 + fr 1 ≠ 28 + fr 1 by omega), aiu_n (show 20 + fr 1 ≠ 24 + fr 1 by omega), aiu_s]
      omega
    · rw [e (16 + p) (by omega) (by omega) (by omega) (by omega) (by omega), e (20 + p) (by omega) (by omega) (by omega) (by omega) (by omega)]
      exact g6 p hp1 (by omega)
  · intro k hk1 hk2
    rw [aiu_n (show k ≠ 1 by omega)]
    unfold aiu
    split
    · exact h4
    split
    · exact h3
    split
    · omega
    split
    · omega
    · exact g7 k hk1 hk2
theorem sOK_23 {fr : Int → Int} (hok : sOK fr) {z v : Int} (hz : (z = 2 ∧ 0 ≤ v ∧ v ≤ 3) ∨ (z = 3 ∧ 1 ≤ v ∧ v ≤ 6)) : sOK (aiu fr z v) := by
  obtain ⟨g1, g2, g3, g4, g5, g6, g7⟩ := hok
  have e : ∀ k : Int, k < 2 ∨ 3 < k → aiu fr z v k = fr k := fun k hk => aiu_n (by omega)
  refine ⟨by rw [e 0 (by omega)]; exact g1, by rw [e 1 (by omega)]; exact g2, ?_, ?_, ?_, ?_, ?_⟩
  · unfold aiu
    split
    · omega
    · exact g3
  · unfold aiu
    split
    · omega
    · exact g4
  · intro k h1 h2
    rw [e k (by omega)]
    exact g5 k h1 h2
  · intro p h1 h2
    rw [e 1 (by omega)] at h2
    rw [e (16 + p) (by omega), e (20 + p) (by omega), e 0 (by omega)]
    exact g6 p h1 h2
  · intro k h1 h2
    rw [e k (by omega)]
    exact g7 k h1 h2
theorem sOK_item {ft : Int → Int} {z : Nat} {fr : Int → Int} {ht ct : Bool} {s p2 : Nat} {fr2 : Int → Int} (hs : s < z) (hok : sOK fr) (h : pItem ft z fr ht ct s = .inr (fr2, p2)) : sOK fr2 := by
  unfold pItem at h
  split at h
  · unfold pGood at h
    split at h
    · cases h
    next h0 => split at h
               · cases h
               next h1 => split at h
                          · cases h
                          next h2 => split at h
                                     · cases h
                                     next h3 => cases h; have a := nm_b (by omega) h1; have b := nm_b (by omega) h2; exact sOK_good hok h0 (by omega) (by omega)
  split at h
  · unfold pPair at h
    split at h
    · cases h
    next h0 => split at h
               · cases h
               next h1 => split at h
                          · cases h
                          next h2 => split at h
                                     · cases h
                                     split at h
                                     · cases h
                                     next h3 => split at h
                                                · cases h
                                                next h4 => split at h
                                                           · cases h
                                                           next h5 => cases h; have a := nm_b (by omega) h1; have b := nm_b (by omega) h2; have c := nm_b (by omega) h3; have d := nm_b (by omega) h4; exact sOK_pair hok h0 (by omega) (by omega) (by omega) (by omega)
  split at h
  · unfold pOne at h
    split at h
    · cases h
    split at h
    · cases h
    next h1 => split at h
               · cases h
               next h2 => cases h; have a := nm_b (by omega) h1; exact sOK_23 hok (Or.inl ⟨rfl, by omega⟩)
  split at h
  · unfold pOne at h
    split at h
    · cases h
    split at h
    · cases h
    next h1 => split at h
               · cases h
               next h2 => cases h; have a := nm_b (by omega) h1; exact sOK_23 hok (Or.inr ⟨rfl, by omega⟩)
  · cases h
theorem sOK_clF : sOK clF := by
  refine ⟨by decide, by decide, by decide, by decide, ?_, ?_, ?_⟩
  · intro k h1 h2
    unfold clF
    rw [if_neg (by omega), if_neg (by omega)]
    omega
  · intro p h1 h2
    have : clF 1 = 0 := by decide
    omega
  · intro k h1 h2
    unfold clF
    rw [if_neg (by omega), if_neg (by omega)]
    omega
