/-! the class: partings -/
theorem suC_o {G : aG} {h : AH} {su : Nat} {fs : Int → Int} (hC : suC G h su fs) : h su = some (aOb 6 (sO su (fs 0) (fs 1) (fs 2) (fs 3))) := by
  obtain ⟨fw, fq, fm, fv, hA, -, -⟩ := hC
  exact hA.1
set_option maxRecDepth 100000 in
theorem p_total {G : aG} {d n : Nat} {h : AH} {pa su : Nat} {fs : Int → Int} {z : Int} (r : Nat) (hz : z = (r : Int)) (hr : r < al fs) (hok : sOK fs) (hC : suC G h su fs) : aD G (d + 2) kX4_total [.ref pa, .ref su, aI z] n h (some (aI (tg fs r))) := by
  have hg := hok.1; have hal := al_b hg; have h_suit := suC_o hC
  have hc := cm_lt hg hr
  refine aCt_of (lv := [some (.ref pa), some (.ref su), some (aI z)]) knX4_total.1 rfl rfl (Nat.le_of_ble_eq_true rfl) (fun x hG hsc X => ?_)
  subst hG
  refine A_al1 X dX4_total_0 ?_
  refine A_iconst X dX4_total_1 ?_
  refine A_al1 X dX4_total_2 ?_
  refine A_iconst X dX4_total_3 ?_
  refine A_il2 X dX4_total_4 ?_
  refine A_dVi2 X (c_ownIn r hz (Or.inl rfl) hg hr hC) h_suit knX6_ownIn mlX4_21 dX4_total_5 ?_
  refine A_dVi2 X (c_valueOf (cm fs r) rfl (Or.inl rfl) hg hc hC) h_suit knX6_valueOf mlX4_27 dX4_total_8 ?_
  refine A_al1 X dX4_total_11 ?_
  refine A_iconst X dX4_total_12 ?_
  refine A_il2 X dX4_total_13 ?_
  refine A_dVi2 X (c_valueOf r hz (Or.inr rfl) hg hr hC) h_suit knX6_valueOf mlX4_27 dX4_total_14 ?_
  refine A_iadd X dX4_total_17 ?_
  exact A_ret X dX4_total_18 rfl ⟨rfl, rfl, rfl⟩
theorem cm_cm {fs : Int → Int} (hg : 0 ≤ fs 0 ∧ fs 0 ≤ 6) {r : Nat} (hr : r < al fs) : cm fs (cm fs r) = r := by
  rw [← cm_x hg (cm_lt hg hr), ← cm_x hg hr, ← Nat.xor_assoc, Nat.xor_self, Nat.zero_xor]
def ld (fs : Int → Int) (side : Int) (r : Nat) : Int := vl fs side (oI fs side r) - vl fs side (cm fs (oI fs side r))
theorem ld_b {fs : Int → Int} (hok : sOK fs) {side : Int} (hs : side = 0 ∨ side = 1) (r : Nat) : -200 ≤ ld fs side r ∧ ld fs side r ≤ 200 := by
  have a := vl_b hok hs (oI fs side r)
  have b := vl_b hok hs (cm fs (oI fs side r))
  unfold ld
  omega
set_option maxRecDepth 100000 in
theorem p_lead {G : aG} {d n : Nat} {h : AH} {pa su : Nat} {fs : Int → Int} {side z : Int} (r : Nat) (hz : z = (r : Int)) (hs : side = 0 ∨ side = 1) (hr : r < al fs) (hok : sOK fs) (hC : suC G h su fs) : aD G (d + 2) kX4_lead [.ref pa, .ref su, aI side, aI z] n h (some (aI (ld fs side r))) := by
  have hg := hok.1; have hal := al_b hg; have h_suit := suC_o hC
  have ho := oI_lt (side := side) hg hr
  have hc := cm_lt hg ho
  refine aCt_of (lv := [some (.ref pa), some (.ref su), some (aI side), some (aI z), none]) knX4_lead.1 rfl rfl (Nat.le_of_ble_eq_true rfl) (fun x hG hsc X => ?_)
  subst hG
  refine A_al1 X dX4_lead_0 ?_
  refine A_il2 X dX4_lead_1 ?_
  refine A_il3 X dX4_lead_2 ?_
  refine A_dVi2 X (c_ownIn r hz hs hg hr hC) h_suit knX6_ownIn mlX4_21 dX4_lead_3 ?_
  refine A_is4 X dX4_lead_6 ?_
  refine A_al1 X dX4_lead_8 ?_
  refine A_il2 X dX4_lead_9 ?_
  refine A_il4 X dX4_lead_10 ?_
  refine A_dVi2 X (c_valueOf (oI fs side r) rfl hs hg ho hC) h_suit knX6_valueOf mlX4_27 dX4_lead_12 ?_
  refine A_al1 X dX4_lead_15 ?_
  refine A_il2 X dX4_lead_16 ?_
  refine A_al1 X dX4_lead_17 ?_
  refine A_dVi0 X (c_all2 hg hC) h_suit knX6_all mlX4_30 dX4_lead_18 ?_
  refine A_il4 X dX4_lead_21 ?_
  refine A_ixor X (al fs - 1) (oI fs side r) rfl rfl dX4_lead_23 ?_
  refine A_dVi2 X (c_valueOf (cm fs (oI fs side r)) (by rw [← cm_x hg ho]) hs hg hc hC) h_suit knX6_valueOf mlX4_27 dX4_lead_24 ?_
  refine A_isub X dX4_lead_27 ?_
  exact A_ret X dX4_lead_28 rfl ⟨rfl, rfl, rfl⟩
theorem fr_ld {fs : Int → Int} (hg : 0 ≤ fs 0 ∧ fs 0 ≤ 6) {r : Nat} (hr : r < al fs) : frQ fs r ↔ 0 ≤ ld fs 0 r ∧ 0 ≤ ld fs 1 r := by
  have e0 : oI fs 0 r = cm fs r := if_neg (by decide)
  have e1 : oI fs 1 r = r := if_pos rfl
  unfold ld frQ
  rw [e0, e1, cm_cm hg hr]
  omega
set_option maxRecDepth 100000 in
theorem p_isFair {G : aG} {d n : Nat} {h : AH} {pa su : Nat} {fs : Int → Int} {z : Int} (r : Nat) (hz : z = (r : Int)) (hr : r < al fs) (hok : sOK fs) (hC : suC G h su fs) {pf : List Value} (h_this : h pa = some (aOb 4 pf)) : aD G (d + 3) kX4_isFair [.ref pa, .ref su, aI z] n h (some (aI (bI (frQ fs r)))) := by
  have hg := hok.1; have hal := al_b hg; have h_suit := suC_o hC
  have b0 := ld_b hok (Or.inl rfl) r
  have b1 := ld_b hok (Or.inr rfl) r
  have e := fr_ld hg hr
  refine aCt_of (lv := [some (.ref pa), some (.ref su), some (aI z)]) knX4_isFair.1 rfl rfl (Nat.le_of_ble_eq_true rfl) (fun x hG hsc X => ?_)
  subst hG
  refine A_al0 X dX4_isFair_0 ?_
  refine A_al1 X dX4_isFair_1 ?_
  refine A_iconst X dX4_isFair_2 ?_
  refine A_il2 X dX4_isFair_3 ?_
  refine A_dVi3 X (p_lead r hz (Or.inl rfl) hr hok hC) h_this knX4_lead mlX4_34 dX4_isFair_4 ?_
  refine A_if_lt (t := 24) X (by omega) dX4_isFair_7 (fun c7 => ?_) (fun c7 => ?_)
  · refine A_iconst X dX4_isFair_24 ?_
    exact A_retz X dX4_isFair_25 rfl (Or.inl rfl) ⟨bI_0 (fun q => by have := (e.mp q).1; omega), rfl, rfl⟩
  · refine A_al0 X dX4_isFair_10 ?_
    refine A_al1 X dX4_isFair_11 ?_
    refine A_iconst X dX4_isFair_12 ?_
    refine A_il2 X dX4_isFair_13 ?_
    refine A_dVi3 X (p_lead r hz (Or.inr rfl) hr hok hC) h_this knX4_lead mlX4_34 dX4_isFair_14 ?_
    refine A_if_lt (t := 24) X (by omega) dX4_isFair_17 (fun c17 => ?_) (fun c17 => ?_)
    · refine A_iconst X dX4_isFair_24 ?_
      exact A_retz X dX4_isFair_25 rfl (Or.inl rfl) ⟨bI_0 (fun q => by have := (e.mp q).2; omega), rfl, rfl⟩
    · refine A_iconst X dX4_isFair_20 ?_
      refine A_goto (t := 25) X dX4_isFair_21 ?_
      exact A_retz X dX4_isFair_25 rfl (Or.inr rfl) ⟨bI_1 (e.mpr ⟨by omega, by omega⟩), rfl, rfl⟩
set_option maxRecDepth 100000 in
theorem p_fairCount {G : aG} {d n : Nat} {h : AH} {pa su : Nat} {fs : Int → Int} (hok : sOK fs) (hC : suC G h su fs) {pf : List Value} (h_this : h pa = some (aOb 4 pf)) : aD G (d + 4) kX4_fairCount [.ref pa, .ref su] n h (some (aI (fc fs (al fs)))) := by
  have hg := hok.1; have hal := al_b hg; have h_suit := suC_o hC
  refine aCt_of (lv := [some (.ref pa), some (.ref su), none, none]) knX4_fairCount.1 rfl rfl (Nat.le_of_ble_eq_true rfl) (fun x hG hsc X => ?_)
  subst hG
  refine A_iconst X dX4_fairCount_0 ?_
  refine A_is2 X dX4_fairCount_1 ?_
  refine A_iconst X dX4_fairCount_2 ?_
  refine A_is3 X dX4_fairCount_3 ?_
  refine lp_0 (P := fun i => ∀ s : Int, s = fc fs i → AW x 0 0 n h 4 [some (.ref pa), some (.ref su), some (aI s), some (aI (i : Int))] []) (al fs) ?_ ?_ 0 rfl
  · intro s hs
    refine A_il3 X dX4_fairCount_4 ?_
    refine A_al1 X dX4_fairCount_5 ?_
    refine A_dVi0 X (c_all2 hg hC) h_suit knX6_all mlX4_30 dX4_fairCount_6 ?_
    refine A_icmp_gt (t := 30) X (by omega) (by omega) dX4_fairCount_9 (fun c9 => ?_) (fun c9 => by exfalso; omega)
    refine A_il2 X dX4_fairCount_30 ?_
    exact A_ret X dX4_fairCount_31 rfl ⟨congrArg (fun t => some (aI t)) (by rw [hs]), rfl, rfl⟩
  · intro i hi ih s hs
    refine A_il3 X dX4_fairCount_4 ?_
    refine A_al1 X dX4_fairCount_5 ?_
    refine A_dVi0 X (c_all2 hg hC) h_suit knX6_all mlX4_30 dX4_fairCount_6 ?_
    refine A_icmp_gt (t := 30) X (by omega) (by omega) dX4_fairCount_9 (fun c9 => by exfalso; omega) (fun c9 => ?_)
    refine A_al0 X dX4_fairCount_12 ?_
    refine A_al1 X dX4_fairCount_13 ?_
    refine A_il3 X dX4_fairCount_14 ?_
    refine A_dVi2 X (p_isFair i rfl hi hok hC h_this) h_this knX4_isFair mlX4_38 dX4_fairCount_15 ?_
    refine A_ifb_eq (t := 24) X dX4_fairCount_18 (fun c18 => ?_) (fun c18 => ?_)
    · refine A_ii3 X dX4_fairCount_24 ?_
      refine A_goto (t := 4) X dX4_fairCount_27 ?_
      exact ih _ (by rw [hs, fc, if_neg c18, Int.add_zero])
    · refine A_ii2 X dX4_fairCount_21 ?_
      refine A_ii3 X dX4_fairCount_24 ?_
      refine A_goto (t := 4) X dX4_fairCount_27 ?_
      exact ih _ (by rw [hs, fc, if_pos c18])
set_option maxRecDepth 100000 in
theorem p_best {G : aG} {d n : Nat} {h : AH} {pa su : Nat} {fs : Int → Int} (hok : sOK fs) (hC : suC G h su fs) {pf : List Value} (h_this : h pa = some (aOb 4 pf)) : aD G (d + 4) kX4_best [.ref pa, .ref su] n h (some (aI (bs fs 1 (al fs)))) := by
  have hg := hok.1; have hal := al_b hg; have h_suit := suC_o hC
  refine aCt_of (lv := [some (.ref pa), some (.ref su), none, none, none, none]) knX4_best.1 rfl rfl (Nat.le_of_ble_eq_true rfl) (fun x hG hsc X => ?_)
  subst hG
  refine A_bipush X dX4_best_0 ?_
  refine A_is2 X dX4_best_2 ?_
  refine A_iconst X dX4_best_3 ?_
  refine A_is3 X dX4_best_4 ?_
  refine A_iconst X dX4_best_5 ?_
  refine A_is4 X dX4_best_6 ?_
  refine lp_0 (P := fun i => ∀ s t : Int, s = bs fs 1 i → t = (if bs fs 1 i = -9 then -1 else tg fs (bs fs 1 i).toNat) → AW x 0 0 n h 8 [some (.ref pa), some (.ref su), some (aI s), some (aI t), some (aI (i : Int)), none] []) (al fs) ?_ ?_ (-9) (-1) rfl rfl
  · intro s t hs ht
    refine A_il4 X dX4_best_8 ?_
    refine A_al1 X dX4_best_10 ?_
    refine A_dVi0 X (c_all2 hg hC) h_suit knX6_all mlX4_30 dX4_best_11 ?_
    refine A_icmp_gt (t := 54) X (by omega) (by omega) dX4_best_14 (fun c14 => ?_) (fun c14 => by exfalso; omega)
    refine A_il2 X dX4_best_54 ?_
    exact A_ret X dX4_best_55 rfl ⟨congrArg (fun t => some (aI t)) (by rw [hs]), rfl, rfl⟩
  · intro i hi ih s t hs ht
    have hb := bs_b fs 1 i
    have t1 := tg_b hok i
    have t2 := tg_b hok (bs fs 1 i).toNat
    have tb : -1 ≤ t ∧ t ≤ 400 := by rw [ht]; split <;> omega
    have key : (bs fs 1 i = -9 ∨ tg fs (bs fs 1 i).toNat < tg fs i) ↔ t < tg fs i := by
      rw [ht]
      by_cases q : bs fs 1 i = -9
      · rw [if_pos q]; exact ⟨fun _ => by omega, fun _ => Or.inl q⟩
      · rw [if_neg q]; exact ⟨fun z => z.resolve_left q, Or.inr⟩
    refine A_il4 X dX4_best_8 ?_
    refine A_al1 X dX4_best_10 ?_
    refine A_dVi0 X (c_all2 hg hC) h_suit knX6_all mlX4_30 dX4_best_11 ?_
    refine A_icmp_gt (t := 54) X (by omega) (by omega) dX4_best_14 (fun c14 => by exfalso; omega) (fun c14 => ?_)
    refine A_al0 X dX4_best_17 ?_
    refine A_al1 X dX4_best_18 ?_
    refine A_il4 X dX4_best_19 ?_
    refine A_dVi2 X (p_total i rfl hi hok hC) h_this knX4_total mlX4_42 dX4_best_21 ?_
    refine A_is5 X dX4_best_24 ?_
    refine A_il5 X dX4_best_26 ?_
    refine A_il3 X dX4_best_28 ?_
    refine A_icmp_le (t := 48) X (by omega) (by omega) dX4_best_29 (fun c29 => ?_) (fun c29 => ?_)
    · refine A_ii4 X dX4_best_48 ?_
      refine A_goto (t := 8) X dX4_best_51 ?_
      have e : bs fs 1 (i + 1) = bs fs 1 i := by rw [bs, if_neg (fun q => by have := key.mp q.2; omega)]
      exact A_fg5 (ih _ _ (by rw [e, hs]) (by rw [e, ht]))
    · refine A_al0 X dX4_best_32 ?_
      refine A_al1 X dX4_best_33 ?_
      refine A_il4 X dX4_best_34 ?_
      refine A_dVi2 X (p_isFair i rfl hi hok hC h_this) h_this knX4_isFair mlX4_38 dX4_best_36 ?_
      refine A_ifb_eq (t := 48) X dX4_best_39 (fun c39 => ?_) (fun c39 => ?_)
      · refine A_ii4 X dX4_best_48 ?_
        refine A_goto (t := 8) X dX4_best_51 ?_
        have e : bs fs 1 (i + 1) = bs fs 1 i := by rw [bs, if_neg (fun q => q.1.elim (by decide) c39)]
        exact A_fg5 (ih _ _ (by rw [e, hs]) (by rw [e, ht]))
      · refine A_il5 X dX4_best_42 ?_
        refine A_is3 X dX4_best_44 ?_
        refine A_il4 X dX4_best_45 ?_
        refine A_is2 X dX4_best_47 ?_
        refine A_ii4 X dX4_best_48 ?_
        refine A_goto (t := 8) X dX4_best_51 ?_
        have e : bs fs 1 (i + 1) = (i : Int) := by rw [bs, if_pos ⟨Or.inr c39, key.mpr (by omega)⟩]
        exact A_fg5 (ih _ _ e.symm (by rw [e, if_neg (by omega)]; rfl))
set_option maxRecDepth 100000 in
theorem p_mostTotal {G : aG} {d n : Nat} {h : AH} {pa su : Nat} {fs : Int → Int} (hok : sOK fs) (hC : suC G h su fs) {pf : List Value} (h_this : h pa = some (aOb 4 pf)) : aD G (d + 3) kX4_mostTotal [.ref pa, .ref su] n h (some (aI (tg fs (bs fs 0 (al fs)).toNat))) := by
  have hg := hok.1; have hal := al_b hg; have h_suit := suC_o hC
  refine aCt_of (lv := [some (.ref pa), some (.ref su), none, none]) knX4_mostTotal.1 rfl rfl (Nat.le_of_ble_eq_true rfl) (fun x hG hsc X => ?_)
  subst hG
  refine A_iconst X dX4_mostTotal_0 ?_
  refine A_is2 X dX4_mostTotal_1 ?_
  refine A_iconst X dX4_mostTotal_2 ?_
  refine A_is3 X dX4_mostTotal_3 ?_
  refine lp_0 (P := fun i => ∀ t : Int, t = (if bs fs 0 i = -9 then 0 else tg fs (bs fs 0 i).toNat) → AW x 0 0 n h 4 [some (.ref pa), some (.ref su), some (aI t), some (aI (i : Int))] []) (al fs) ?_ ?_ 0 rfl
  · intro t ht
    have h0 := bs_0 fs (al fs - 1)
    rw [show al fs - 1 + 1 = al fs by omega] at h0
    refine A_il3 X dX4_mostTotal_4 ?_
    refine A_al1 X dX4_mostTotal_5 ?_
    refine A_dVi0 X (c_all2 hg hC) h_suit knX6_all mlX4_30 dX4_mostTotal_6 ?_
    refine A_icmp_gt (t := 29) X (by omega) (by omega) dX4_mostTotal_9 (fun c9 => ?_) (fun c9 => by exfalso; omega)
    refine A_il2 X dX4_mostTotal_29 ?_
    exact A_ret X dX4_mostTotal_30 rfl ⟨congrArg (fun t => some (aI t)) (by rw [ht, if_neg (by omega)]), rfl, rfl⟩
  · intro i hi ih t ht
    have hb := bs_b fs 0 i
    have t1 := tg_b hok i
    have t2 := tg_b hok (bs fs 0 i).toNat
    have tb : 0 ≤ t ∧ t ≤ 400 := by rw [ht]; split <;> omega
    refine A_il3 X dX4_mostTotal_4 ?_
    refine A_al1 X dX4_mostTotal_5 ?_
    refine A_dVi0 X (c_all2 hg hC) h_suit knX6_all mlX4_30 dX4_mostTotal_6 ?_
    refine A_icmp_gt (t := 29) X (by omega) (by omega) dX4_mostTotal_9 (fun c9 => by exfalso; omega) (fun c9 => ?_)
    refine A_il2 X dX4_mostTotal_12 ?_
    refine A_al0 X dX4_mostTotal_13 ?_
    refine A_al1 X dX4_mostTotal_14 ?_
    refine A_il3 X dX4_mostTotal_15 ?_
    refine A_dVi2 X (p_total i rfl hi hok hC) h_this knX4_total mlX4_42 dX4_mostTotal_16 ?_
    refine A_mmax X (by omega) (by omega) mlX4_46 dX4_mostTotal_19 ?_
    refine A_is2 X dX4_mostTotal_22 ?_
    refine A_ii3 X dX4_mostTotal_23 ?_
    refine A_goto (t := 4) X dX4_mostTotal_26 ?_
    refine ih _ ?_
    by_cases q : bs fs 0 i = -9
    · have e : bs fs 0 (i + 1) = (i : Int) := by rw [bs, if_pos ⟨Or.inl rfl, Or.inl q⟩]
      rw [if_pos q] at ht
      rw [e, if_neg (by omega)]
      show max t (tg fs i) = tg fs i
      omega
    · rw [if_neg q] at ht
      by_cases q2 : tg fs (bs fs 0 i).toNat < tg fs i
      · have e : bs fs 0 (i + 1) = (i : Int) := by rw [bs, if_pos ⟨Or.inl rfl, Or.inr q2⟩]
        rw [e, if_neg (by omega)]
        show max t (tg fs i) = tg fs i
        omega
      · have e : bs fs 0 (i + 1) = bs fs 0 i := by rw [bs, if_neg (fun z => z.2.elim q q2)]
        rw [e, if_neg q]
        omega
set_option maxRecDepth 100000 in
theorem p_leftToCutter {G : aG} {d n : Nat} {h : AH} {pa su : Nat} {fs : Int → Int} {side z : Int} (r : Nat) (hz : z = (r : Int)) (hs : side = 0 ∨ side = 1) (hr : r < al fs) (hok : sOK fs) (hC : suC G h su fs) : aD G (d + 2) kX4_leftToCutter [.ref pa, .ref su, aI side, aI z] n h (some (aI (ow fs side r))) := by
  have hg := hok.1; have hal := al_b hg; have h_suit := suC_o hC
  have hc := cm_lt hg hr
  have hs2 : 1 - side = 0 ∨ 1 - side = 1 := by omega
  have b1 := vl_b hok hs2 r
  have b2 := vl_b hok hs2 (cm fs r)
  refine aCt_of (lv := [some (.ref pa), some (.ref su), some (aI side), some (aI z), none, none]) knX4_leftToCutter.1 rfl rfl (Nat.le_of_ble_eq_true rfl) (fun x hG hsc X => ?_)
  subst hG
  refine A_al1 X dX4_leftToCutter_0 ?_
  refine A_dVi0 X (c_all2 hg hC) h_suit knX6_all mlX4_30 dX4_leftToCutter_1 ?_
  refine A_il3 X dX4_leftToCutter_4 ?_
  refine A_ixor X (al fs - 1) r rfl hz dX4_leftToCutter_5 ?_
  rw [cm_x hg hr]
  refine A_is4 X dX4_leftToCutter_6 ?_
  refine A_al1 X dX4_leftToCutter_8 ?_
  refine A_iconst X dX4_leftToCutter_9 ?_
  refine A_il2 X dX4_leftToCutter_10 ?_
  refine A_isub X dX4_leftToCutter_11 ?_
  refine A_il3 X dX4_leftToCutter_12 ?_
  refine A_dVi2 X (c_valueOf r hz hs2 hg hr hC) h_suit knX6_valueOf mlX4_27 dX4_leftToCutter_13 ?_
  refine A_al1 X dX4_leftToCutter_16 ?_
  refine A_iconst X dX4_leftToCutter_17 ?_
  refine A_il2 X dX4_leftToCutter_18 ?_
  refine A_isub X dX4_leftToCutter_19 ?_
  refine A_il4 X dX4_leftToCutter_20 ?_
  refine A_dVi2 X (c_valueOf (cm fs r) rfl hs2 hg hc hC) h_suit knX6_valueOf mlX4_27 dX4_leftToCutter_22 ?_
  refine A_icmp_le (t := 32) X (by omega) (by omega) dX4_leftToCutter_25 (fun c25 => ?_) (fun c25 => ?_)
  · refine A_iconst X dX4_leftToCutter_32 ?_
    refine A_is5 X dX4_leftToCutter_33 ?_
    refine A_al1 X dX4_leftToCutter_35 ?_
    refine A_il2 X dX4_leftToCutter_36 ?_
    refine A_il5 X dX4_leftToCutter_37 ?_
    refine A_if_eq (t := 47) X (by omega) dX4_leftToCutter_39 (fun c39 => ?_) (fun c39 => by exfalso; omega)
    refine A_il3 X dX4_leftToCutter_47 ?_
    refine A_dVi2 X (c_valueOf r hz hs hg hr hC) h_suit knX6_valueOf mlX4_27 dX4_leftToCutter_48 ?_
    exact A_ret X dX4_leftToCutter_51 rfl ⟨congrArg (fun t => some (aI t)) (by rw [ow, if_neg (by omega)]), rfl, rfl⟩
  · refine A_iconst X dX4_leftToCutter_28 ?_
    refine A_goto (t := 33) X dX4_leftToCutter_29 ?_
    refine A_is5 X dX4_leftToCutter_33 ?_
    refine A_al1 X dX4_leftToCutter_35 ?_
    refine A_il2 X dX4_leftToCutter_36 ?_
    refine A_il5 X dX4_leftToCutter_37 ?_
    refine A_if_eq (t := 47) X (by omega) dX4_leftToCutter_39 (fun c39 => by exfalso; omega) (fun c39 => ?_)
    refine A_il4 X dX4_leftToCutter_42 ?_
    refine A_goto (t := 48) X dX4_leftToCutter_44 ?_
    refine A_dVi2 X (c_valueOf (cm fs r) rfl hs hg hc hC) h_suit knX6_valueOf mlX4_27 dX4_leftToCutter_48 ?_
    exact A_ret X dX4_leftToCutter_51 rfl ⟨congrArg (fun t => some (aI t)) (by rw [ow, if_pos (by omega)]), rfl, rfl⟩
set_option maxRecDepth 100000 in
theorem p_bestCut {G : aG} {d n : Nat} {h : AH} {pa su : Nat} {fs : Int → Int} {side : Int} (hs : side = 0 ∨ side = 1) (hok : sOK fs) (hC : suC G h su fs) {pf : List Value} (h_this : h pa = some (aOb 4 pf)) : aD G (d + 3) kX4_bestCut [.ref pa, .ref su, aI side] n h (some (aI (ctB fs side (al fs)))) := by
  have hg := hok.1; have hal := al_b hg; have h_suit := suC_o hC
  refine aCt_of (lv := [some (.ref pa), some (.ref su), some (aI side), none, none, none, none]) knX4_bestCut.1 rfl rfl (Nat.le_of_ble_eq_true rfl) (fun x hG hsc X => ?_)
  subst hG
  refine A_iconst X dX4_bestCut_0 ?_
  refine A_is3 X dX4_bestCut_1 ?_
  refine A_iconst X dX4_bestCut_2 ?_
  refine A_is4 X dX4_bestCut_3 ?_
  refine A_iconst X dX4_bestCut_5 ?_
  refine A_is5 X dX4_bestCut_6 ?_
  refine lp_0 (P := fun i => ∀ s t : Int, s = ctB fs side i → t = ctM fs side i → AW x 0 0 n h 8 [some (.ref pa), some (.ref su), some (aI side), some (aI s), some (aI t), some (aI (i : Int)), none] []) (al fs) ?_ ?_ 0 (-1) rfl rfl
  · intro s t hs2 ht
    refine A_il5 X dX4_bestCut_8 ?_
    refine A_al1 X dX4_bestCut_10 ?_
    refine A_dVi0 X (c_all2 hg hC) h_suit knX6_all mlX4_30 dX4_bestCut_11 ?_
    refine A_icmp_gt (t := 47) X (by omega) (by omega) dX4_bestCut_14 (fun c14 => ?_) (fun c14 => by exfalso; omega)
    refine A_il3 X dX4_bestCut_47 ?_
    exact A_ret X dX4_bestCut_48 rfl ⟨congrArg (fun t => some (aI t)) (by rw [hs2]), rfl, rfl⟩
  · intro i hi ih s t hs2 ht
    have b1 := ctM_b hok hs i
    have b2 : 0 ≤ ow fs side i ∧ ow fs side i ≤ 200 := vl_b hok hs _
    refine A_il5 X dX4_bestCut_8 ?_
    refine A_al1 X dX4_bestCut_10 ?_
    refine A_dVi0 X (c_all2 hg hC) h_suit knX6_all mlX4_30 dX4_bestCut_11 ?_
    refine A_icmp_gt (t := 47) X (by omega) (by omega) dX4_bestCut_14 (fun c14 => by exfalso; omega) (fun c14 => ?_)
    refine A_al0 X dX4_bestCut_17 ?_
    refine A_al1 X dX4_bestCut_18 ?_
    refine A_il2 X dX4_bestCut_19 ?_
    refine A_il5 X dX4_bestCut_20 ?_
    refine A_dVi3 X (p_leftToCutter i rfl hs hi hok hC) h_this knX4_leftToCutter mlX4_51 dX4_bestCut_22 ?_
    refine A_is6 X dX4_bestCut_25 ?_
    refine A_il6 X dX4_bestCut_27 ?_
    refine A_il4 X dX4_bestCut_29 ?_
    refine A_icmp_le (t := 41) X (by omega) (by omega) dX4_bestCut_31 (fun c31 => ?_) (fun c31 => ?_)
    · refine A_ii5 X dX4_bestCut_41 ?_
      refine A_goto (t := 8) X dX4_bestCut_44 ?_
      exact A_fg6 (ih _ _ (by rw [ctB]; split <;> omega) (by rw [ctM]; split <;> omega))
    · refine A_il6 X dX4_bestCut_34 ?_
      refine A_is4 X dX4_bestCut_36 ?_
      refine A_il5 X dX4_bestCut_38 ?_
      refine A_is3 X dX4_bestCut_40 ?_
      refine A_ii5 X dX4_bestCut_41 ?_
      refine A_goto (t := 8) X dX4_bestCut_44 ?_
      exact A_fg6 (ih _ _ (by rw [ctB]; split <;> omega) (by rw [ctM]; split <;> omega))
theorem ct_ow {fs : Int → Int} (hok : sOK fs) {side : Int} (hs : side = 0 ∨ side = 1) : ∀ k : Nat, (0 ≤ ctB fs side (k + 1) ∧ ctB fs side (k + 1) < ((k + 1 : Nat) : Int)) ∧ ctM fs side (k + 1) = ow fs side (ctB fs side (k + 1)).toNat
  | 0 => by
    have b2 : 0 ≤ ow fs side 0 ∧ ow fs side 0 ≤ 200 := vl_b hok hs _
    have e0 : ctM fs side 0 = -1 := rfl
    have e1 : ctB fs side (0 + 1) = ((0 : Nat) : Int) := by rw [ctB, if_pos (by omega)]
    have e2 : ctM fs side (0 + 1) = ow fs side 0 := by rw [ctM, if_pos (by omega)]
    rw [e1, e2]
    exact ⟨by decide, rfl⟩
  | k + 1 => by
    have ih := ct_ow hok hs k
    by_cases q : ctM fs side (k + 1) < ow fs side (k + 1)
    · have e1 : ctB fs side (k + 1 + 1) = ((k + 1 : Nat) : Int) := by rw [ctB, if_pos q]
      have e2 : ctM fs side (k + 1 + 1) = ow fs side (k + 1) := by rw [ctM, if_pos q]
      rw [e1, e2]
      exact ⟨by omega, rfl⟩
    · have e1 : ctB fs side (k + 1 + 1) = ctB fs side (k + 1) := by rw [ctB, if_neg q]
      have e2 : ctM fs side (k + 1 + 1) = ctM fs side (k + 1) := by rw [ctM, if_neg q]
      rw [e1, e2]
      exact ⟨by omega, ih.2⟩
set_option maxRecDepth 100000 in
theorem p_greatestSale {G : aG} {d n : Nat} {h : AH} {pa su : Nat} {fs : Int → Int} {c : Int} (hc : 0 ≤ c ∧ c ≤ 9) (hok : sOK fs) (hC : suC G h su fs) : aD G (d + 2) kX4_greatestSale [.ref pa, .ref su, aI c] n h (some (aI ((slB fs c (al fs) : Nat) : Int))) := by
  have hg := hok.1; have hal := al_b hg; have h_suit := suC_o hC
  refine aCt_of (lv := [some (.ref pa), some (.ref su), some (aI c), none, none, none, none]) knX4_greatestSale.1 rfl rfl (Nat.le_of_ble_eq_true rfl) (fun x hG hsc X => ?_)
  subst hG
  refine A_iconst X dX4_greatestSale_0 ?_
  refine A_is3 X dX4_greatestSale_1 ?_
  refine A_iconst X dX4_greatestSale_2 ?_
  refine A_is4 X dX4_greatestSale_3 ?_
  refine lp_0 (P := fun i => ∀ s : Nat, s = slB fs c i → AW x 0 0 n h 5 [some (.ref pa), some (.ref su), some (aI c), some (aI (s : Int)), some (aI (i : Int)), none, none] []) (al fs) ?_ ?_ 0 rfl
  · intro s hs
    refine A_il4 X dX4_greatestSale_5 ?_
    refine A_al1 X dX4_greatestSale_7 ?_
    refine A_dVi0 X (c_all2 hg hC) h_suit knX6_all mlX4_30 dX4_greatestSale_8 ?_
    refine A_icmp_gt (t := 79) X (by omega) (by omega) dX4_greatestSale_11 (fun c11 => ?_) (fun c11 => by exfalso; omega)
    refine A_il3 X dX4_greatestSale_79 ?_
    exact A_ret X dX4_greatestSale_80 rfl ⟨congrArg (fun t => some (aI t)) (by rw [hs]), rfl, rfl⟩
  · intro i hi ih s hs
    have b1 := vl_b hok (Or.inl rfl) i
    have b2 := vl_b hok (Or.inr rfl) i
    have b3 := slB_b fs c i
    have b4 := pct_b i
    have b5 := pct_b s
    have b6 : 0 ≤ c * (pct i : Int) ∧ c * (pct i : Int) ≤ 54 := by
      rcases (show c = 0 ∨ c = 1 ∨ c = 2 ∨ c = 3 ∨ c = 4 ∨ c = 5 ∨ c = 6 ∨ c = 7 ∨ c = 8 ∨ c = 9 by omega) with e | e | e | e | e | e | e | e | e | e <;> subst e <;> omega
    have hs2 : pct (slB fs c i) = pct s := by rw [hs]
    refine A_il4 X dX4_greatestSale_5 ?_
    refine A_al1 X dX4_greatestSale_7 ?_
    refine A_dVi0 X (c_all2 hg hC) h_suit knX6_all mlX4_30 dX4_greatestSale_8 ?_
    refine A_icmp_gt (t := 79) X (by omega) (by omega) dX4_greatestSale_11 (fun c11 => by exfalso; omega) (fun c11 => ?_)
    refine A_il4 X dX4_greatestSale_14 ?_
    refine A_dSi1 X (j_bitCount i rfl (by omega)) knJ6_bitCount_0f7a4 mlX4_81 dX4_greatestSale_16 ?_
    refine A_is5 X dX4_greatestSale_19 ?_
    refine A_al1 X dX4_greatestSale_21 ?_
    refine A_iconst X dX4_greatestSale_22 ?_
    refine A_il4 X dX4_greatestSale_23 ?_
    refine A_dVi2 X (c_valueOf i rfl (Or.inl rfl) hg hi hC) h_suit knX6_valueOf mlX4_27 dX4_greatestSale_25 ?_
    refine A_il2 X dX4_greatestSale_28 ?_
    refine A_il5 X dX4_greatestSale_29 ?_
    refine A_imul X dX4_greatestSale_31 ?_
    refine A_icmp_gt (t := 53) X (by omega) (by omega) dX4_greatestSale_32 (fun c32 => ?_) (fun c32 => ?_)
    · refine A_iconst X dX4_greatestSale_53 ?_
      refine A_is6 X dX4_greatestSale_54 ?_
      refine A_il6 X dX4_greatestSale_56 ?_
      refine A_if_eq (t := 73) X (by omega) dX4_greatestSale_58 (fun c58 => ?_) (fun c58 => by exfalso; omega)
      refine A_ii4 X dX4_greatestSale_73 ?_
      refine A_goto (t := 5) X dX4_greatestSale_76 ?_
      exact A_fg5 (A_fg6 (ih _ (by rw [slB, hs2]; split <;> omega)))
    · refine A_al1 X dX4_greatestSale_35 ?_
      refine A_iconst X dX4_greatestSale_36 ?_
      refine A_il4 X dX4_greatestSale_37 ?_
      refine A_dVi2 X (c_valueOf i rfl (Or.inr rfl) hg hi hC) h_suit knX6_valueOf mlX4_27 dX4_greatestSale_39 ?_
      refine A_il2 X dX4_greatestSale_42 ?_
      refine A_il5 X dX4_greatestSale_43 ?_
      refine A_imul X dX4_greatestSale_45 ?_
      refine A_icmp_gt (t := 53) X (by omega) (by omega) dX4_greatestSale_46 (fun c46 => ?_) (fun c46 => ?_)
      · refine A_iconst X dX4_greatestSale_53 ?_
        refine A_is6 X dX4_greatestSale_54 ?_
        refine A_il6 X dX4_greatestSale_56 ?_
        refine A_if_eq (t := 73) X (by omega) dX4_greatestSale_58 (fun c58 => ?_) (fun c58 => by exfalso; omega)
        refine A_ii4 X dX4_greatestSale_73 ?_
        refine A_goto (t := 5) X dX4_greatestSale_76 ?_
        exact A_fg5 (A_fg6 (ih _ (by rw [slB, hs2]; split <;> omega)))
      · refine A_iconst X dX4_greatestSale_49 ?_
        refine A_goto (t := 54) X dX4_greatestSale_50 ?_
        refine A_is6 X dX4_greatestSale_54 ?_
        refine A_il6 X dX4_greatestSale_56 ?_
        refine A_if_eq (t := 73) X (by omega) dX4_greatestSale_58 (fun c58 => by exfalso; omega) (fun c58 => ?_)
        refine A_il5 X dX4_greatestSale_61 ?_
        refine A_il3 X dX4_greatestSale_63 ?_
        refine A_dSi1 X (j_bitCount s rfl (by omega)) knJ6_bitCount_0f7a4 mlX4_81 dX4_greatestSale_64 ?_
        refine A_icmp_le (t := 73) X (by omega) (by omega) dX4_greatestSale_67 (fun c67 => ?_) (fun c67 => ?_)
        · refine A_ii4 X dX4_greatestSale_73 ?_
          refine A_goto (t := 5) X dX4_greatestSale_76 ?_
          exact A_fg5 (A_fg6 (ih _ (by rw [slB, hs2]; split <;> omega)))
        · refine A_il4 X dX4_greatestSale_70 ?_
          refine A_is3 X dX4_greatestSale_72 ?_
          refine A_ii4 X dX4_greatestSale_73 ?_
          refine A_goto (t := 5) X dX4_greatestSale_76 ?_
          exact A_fg5 (A_fg6 (ih _ (by rw [slB, hs2]; split <;> omega)))
