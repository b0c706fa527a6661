/-! the class: what is asked -/
theorem rn_cg {f g : Nat → Int} {hp : Int} : ∀ k : Nat, (∀ j : Nat, j < k → f j = g j) → rnL f k = rnL g k ∧ rnC f hp k = rnC g hp k ∧ rnM f k = rnM g k ∧ rnD f k = rnD g k
  | 0, _ => ⟨rfl, rfl, rfl, rfl⟩
  | k + 1, h => by
    obtain ⟨a, b, c, e⟩ := rn_cg (hp := hp) k (fun j hj => h j (by omega))
    have h1 := h k (by omega)
    have h2 := h (k - 1) (by omega)
    have eL : rnL f (k + 1) = rnL g (k + 1) := by simp only [rnL, smB, a, h1, h2]
    refine ⟨eL, ?_, ?_, ?_⟩
    · simp only [rnC, smB, a, b, h1, h2]
    · rw [rnM, rnM, eL, c]
    · simp only [rnD, smB, e, h1, h2]
theorem n_k {fn : Int → Int} (hn : nOK fn) : fn 6 = (((fn 6).toNat : Nat) : Int) ∧ (fn 6).toNat ≤ 60 := by have := hn.2.1; omega
theorem n_f {fn nf : Int → Int} (hnf : ∀ i : Nat, (i : Int) < fn 6 → nf (i : Int) = mF fn i) : fOK nf (fn 6).toNat := by
  intro i h1 h2
  have := hnf i.toNat (by omega)
  rw [show ((i.toNat : Nat) : Int) = i by omega] at this
  have := mF_b fn i.toNat
  omega
theorem n_g {fn nf : Int → Int} (hnf : ∀ i : Nat, (i : Int) < fn 6 → nf (i : Int) = mF fn i) : ∀ j : Nat, j < (fn 6).toNat → fN nf j = mF fn j := fun j hj => hnf j (by omega)
set_option maxRecDepth 100000 in
theorem n_setOf {G : aG} {d n : Nat} {h : AH} {r : Nat} {fs fn : Int → Int} {fl w : Int} (hg : 0 ≤ fs 0 ∧ fs 0 ≤ 6) (hw : inR w) (hn : nOK fn) (hN : nowC G h r fn fl) : aD G d kX3_setOf [.ref r, aI w, aI (fs 0)] n h (some (aI ((gO fn w (fs 0).toNat : Nat) : Int))) := by
  obtain ⟨no, nf, ⟨h1, h2, h3⟩, hno, hnf⟩ := hN
  rw [← gO_cg (fs 0).toNat (fun j a b => hno j a (by omega))]
  exact c_setOf (fs 0).toNat (by omega) (by omega) hw (fun k a b => by rw [hno k a b]; exact hn.1 k a b) h1 h2
set_option maxRecDepth 100000 in
theorem n_stepsOf {G : aG} {d n : Nat} {h : AH} {r : Nat} {fn : Int → Int} {fl foot : Int} (hf : inR foot) (hn : nOK fn) (hN : nowC G h r fn fl) : aD G (d + 1) kX3_stepsOf [.ref r, aI foot] n h (some (aI (cnt (mF fn) foot (fn 6).toNat))) := by
  obtain ⟨no, nf, ⟨h1, h2, h3⟩, hno, hnf⟩ := hN
  rw [← cnt_cg (fn 6).toNat (n_g hnf)]
  exact c_stepsOf (fn 6).toNat (n_k hn).1 (n_k hn).2 (n_f hnf) hf h1 h3
set_option maxRecDepth 100000 in
theorem x_isGood {G : aG} {d n : Nat} {h : AH} {xa : Nat} {fs fn fp fi fk ft fe : Int → Int} {un sz sm tr : Int} {g : Int} (hgr : inR g) (hI : xI fs fn fe ft un sz sm) (hW : xW G xa h fs fn fp fi fk ft fe un sz sm tr) : aD G d kX10_isGood [.ref xa, aI g] n h (some (aI (bI (0 ≤ g ∧ g ≤ fs 0 - 1)))) := by
  have hIq := hI; have hWq := hW; obtain ⟨hok, ⟨hn, hbz⟩, he, hun, ⟨z, hz, hz2, htk⟩, hsm, hse⟩ := hI; obtain ⟨su, dr, pl, ts, tk, nu, hT, cT, fo, ga, li, fd, e1, e2, e3, g1, g2, g3, hsd, h_this, hnu, h_this_text, h_this_text_letters, hC, hXd, hNw, hI0, hI1, h_this_partings, h_this_partings_own, h_this_partings_ahead, h_this_partings_sum, h_this_kinds, h_this_deeds, hHs, h_this_seenFoot, h_this_seenCell, h_this_seenWear, hSe, hJd⟩ := hW; have hNw0 := hNw; obtain ⟨no, nf, ⟨h_this_present, h_this_present_owner, h_this_present_feet⟩, hno, hnf⟩ := hNw; have h_this_told := suC_o hC; have hg := hok.1; have hal := al_b hg
  refine aCt_of (lv := [some (.ref xa), some (aI g)]) knX10_isGood.1 rfl rfl (Nat.le_of_ble_eq_true rfl) (fun x hG hsc X => ?_)
  subst hG
  refine A_il1 X dX10_isGood_0 ?_
  refine A_if_lt (t := 19) X (by omega) dX10_isGood_1 (fun c1 => ?_) (fun c1 => ?_)
  · refine A_iconst X dX10_isGood_19 ?_
    exact A_retz X dX10_isGood_20 rfl (Or.inl rfl) ⟨bI_0 (by omega), rfl, rfl⟩
  · refine A_il1 X dX10_isGood_4 ?_
    refine A_al0 X dX10_isGood_5 ?_
    refine A_getf X flX10_19 h_this rfl dX10_isGood_6 ?_
    refine A_getf X flX10_129 h_this_told rfl dX10_isGood_9 ?_
    refine A_icmp_ge (t := 19) X (by omega) (by omega) dX10_isGood_12 (fun c12 => ?_) (fun c12 => ?_)
    · refine A_iconst X dX10_isGood_19 ?_
      exact A_retz X dX10_isGood_20 rfl (Or.inl rfl) ⟨bI_0 (by omega), rfl, rfl⟩
    · refine A_iconst X dX10_isGood_15 ?_
      refine A_goto (t := 20) X dX10_isGood_16 ?_
      exact A_retz X dX10_isGood_20 rfl (Or.inr rfl) ⟨bI_1 (by omega), rfl, rfl⟩
set_option maxRecDepth 100000 in
theorem x_isCell {G : aG} {d n : Nat} {h : AH} {xa : Nat} {fs fn fp fi fk ft fe : Int → Int} {un sz sm tr : Int} {g : Int} (hgr : inR g) (hI : xI fs fn fe ft un sz sm) (hW : xW G xa h fs fn fp fi fk ft fe un sz sm tr) : aD G d kX10_isCell [.ref xa, aI g] n h (some (aI (bI (0 ≤ g ∧ g ≤ fs 3 - 1)))) := by
  have hIq := hI; have hWq := hW; obtain ⟨hok, ⟨hn, hbz⟩, he, hun, ⟨z, hz, hz2, htk⟩, hsm, hse⟩ := hI; obtain ⟨su, dr, pl, ts, tk, nu, hT, cT, fo, ga, li, fd, e1, e2, e3, g1, g2, g3, hsd, h_this, hnu, h_this_text, h_this_text_letters, hC, hXd, hNw, hI0, hI1, h_this_partings, h_this_partings_own, h_this_partings_ahead, h_this_partings_sum, h_this_kinds, h_this_deeds, hHs, h_this_seenFoot, h_this_seenCell, h_this_seenWear, hSe, hJd⟩ := hW; have hNw0 := hNw; obtain ⟨no, nf, ⟨h_this_present, h_this_present_owner, h_this_present_feet⟩, hno, hnf⟩ := hNw; have h_this_told := suC_o hC; have hg := hok.1; have hal := al_b hg
  have h3 := hok.2.2.2.1
  refine aCt_of (lv := [some (.ref xa), some (aI g)]) knX10_isCell.1 rfl rfl (Nat.le_of_ble_eq_true rfl) (fun x hG hsc X => ?_)
  subst hG
  refine A_il1 X dX10_isCell_0 ?_
  refine A_if_lt (t := 19) X (by omega) dX10_isCell_1 (fun c1 => ?_) (fun c1 => ?_)
  · refine A_iconst X dX10_isCell_19 ?_
    exact A_retz X dX10_isCell_20 rfl (Or.inl rfl) ⟨bI_0 (by omega), rfl, rfl⟩
  · refine A_il1 X dX10_isCell_4 ?_
    refine A_al0 X dX10_isCell_5 ?_
    refine A_getf X flX10_19 h_this rfl dX10_isCell_6 ?_
    refine A_getf X flX10_261 h_this_told rfl dX10_isCell_9 ?_
    refine A_icmp_ge (t := 19) X (by omega) (by omega) dX10_isCell_12 (fun c12 => ?_) (fun c12 => ?_)
    · refine A_iconst X dX10_isCell_19 ?_
      exact A_retz X dX10_isCell_20 rfl (Or.inl rfl) ⟨bI_0 (by omega), rfl, rfl⟩
    · refine A_iconst X dX10_isCell_15 ?_
      refine A_goto (t := 20) X dX10_isCell_16 ?_
      exact A_retz X dX10_isCell_20 rfl (Or.inr rfl) ⟨bI_1 (by omega), rfl, rfl⟩
set_option maxRecDepth 100000 in
theorem x_ownValue {G : aG} {d n : Nat} {h : AH} {xa : Nat} {fs fn fp fi fk ft fe : Int → Int} {un sz sm tr : Int} {side : Int} (hs : side = 0 ∨ side = 1) (hI : xI fs fn fe ft un sz sm) (hW : xW G xa h fs fn fp fi fk ft fe un sz sm tr) : aD G (d + 2) kX10_ownValue [.ref xa, aI side] n h (some (aI (vl fs side (gO fn side (fs 0).toNat)))) := by
  have hIq := hI; have hWq := hW; obtain ⟨hok, ⟨hn, hbz⟩, he, hun, ⟨z, hz, hz2, htk⟩, hsm, hse⟩ := hI; obtain ⟨su, dr, pl, ts, tk, nu, hT, cT, fo, ga, li, fd, e1, e2, e3, g1, g2, g3, hsd, h_this, hnu, h_this_text, h_this_text_letters, hC, hXd, hNw, hI0, hI1, h_this_partings, h_this_partings_own, h_this_partings_ahead, h_this_partings_sum, h_this_kinds, h_this_deeds, hHs, h_this_seenFoot, h_this_seenCell, h_this_seenWear, hSe, hJd⟩ := hW; have hNw0 := hNw; obtain ⟨no, nf, ⟨h_this_present, h_this_present_owner, h_this_present_feet⟩, hno, hnf⟩ := hNw; have h_this_told := suC_o hC; have hg := hok.1; have hal := al_b hg
  refine aCt_of (lv := [some (.ref xa), some (aI side)]) knX10_ownValue.1 rfl rfl (Nat.le_of_ble_eq_true rfl) (fun x hG hsc X => ?_)
  subst hG
  refine A_al0 X dX10_ownValue_0 ?_
  refine A_getf X flX10_19 h_this rfl dX10_ownValue_1 ?_
  refine A_il1 X dX10_ownValue_4 ?_
  refine A_al0 X dX10_ownValue_5 ?_
  refine A_getf X flX10_29 h_this rfl dX10_ownValue_6 ?_
  refine A_il1 X dX10_ownValue_9 ?_
  refine A_al0 X dX10_ownValue_10 ?_
  refine A_getf X flX10_19 h_this rfl dX10_ownValue_11 ?_
  refine A_getf X flX10_129 h_this_told rfl dX10_ownValue_14 ?_
  refine A_dVi2 X (n_setOf hg (by omega) hn hNw0) h_this_present knX3_setOf mlX10_132 dX10_ownValue_17 ?_
  refine A_dVi2 X (c_valueOf (gO fn side (fs 0).toNat) rfl hs hg (gO_b _) hC) h_this_told knX6_valueOf mlX10_120 dX10_ownValue_20 ?_
  exact A_ret X dX10_ownValue_23 rfl ⟨rfl, rfl, rfl⟩
set_option maxRecDepth 100000 in
theorem x_envyOf {G : aG} {d n : Nat} {h : AH} {xa : Nat} {fs fn fp fi fk ft fe : Int → Int} {un sz sm tr : Int} {side : Int} (hs : side = 0 ∨ side = 1) (hI : xI fs fn fe ft un sz sm) (hW : xW G xa h fs fn fp fi fk ft fe un sz sm tr) : aD G (d + 3) kX10_envyOf [.ref xa, aI side] n h (some (aI (nvB fs side (gO fn side (fs 0).toNat) (gO fn (1 - side) (fs 0).toNat)))) := by
  have hIq := hI; have hWq := hW; obtain ⟨hok, ⟨hn, hbz⟩, he, hun, ⟨z, hz, hz2, htk⟩, hsm, hse⟩ := hI; obtain ⟨su, dr, pl, ts, tk, nu, hT, cT, fo, ga, li, fd, e1, e2, e3, g1, g2, g3, hsd, h_this, hnu, h_this_text, h_this_text_letters, hC, hXd, hNw, hI0, hI1, h_this_partings, h_this_partings_own, h_this_partings_ahead, h_this_partings_sum, h_this_kinds, h_this_deeds, hHs, h_this_seenFoot, h_this_seenCell, h_this_seenWear, hSe, hJd⟩ := hW; have hNw0 := hNw; obtain ⟨no, nf, ⟨h_this_present, h_this_present_owner, h_this_present_feet⟩, hno, hnf⟩ := hNw; have h_this_told := suC_o hC; have hg := hok.1; have hal := al_b hg
  have b1 := vl_b hok hs (gO fn side (fs 0).toNat)
  have b2 := vl_b hok hs (gO fn (1 - side) (fs 0).toNat)
  refine aCt_of (lv := [some (.ref xa), some (aI side), none]) knX10_envyOf.1 rfl rfl (Nat.le_of_ble_eq_true rfl) (fun x hG hsc X => ?_)
  subst hG
  refine A_al0 X dX10_envyOf_0 ?_
  refine A_getf X flX10_19 h_this rfl dX10_envyOf_1 ?_
  refine A_il1 X dX10_envyOf_4 ?_
  refine A_al0 X dX10_envyOf_5 ?_
  refine A_getf X flX10_29 h_this rfl dX10_envyOf_6 ?_
  refine A_iconst X dX10_envyOf_9 ?_
  refine A_il1 X dX10_envyOf_10 ?_
  refine A_isub X dX10_envyOf_11 ?_
  refine A_al0 X dX10_envyOf_12 ?_
  refine A_getf X flX10_19 h_this rfl dX10_envyOf_13 ?_
  refine A_getf X flX10_129 h_this_told rfl dX10_envyOf_16 ?_
  refine A_dVi2 X (n_setOf hg (by omega) hn hNw0) h_this_present knX3_setOf mlX10_132 dX10_envyOf_19 ?_
  refine A_dVi2 X (c_valueOf (gO fn (1 - side) (fs 0).toNat) rfl hs hg (gO_b _) hC) h_this_told knX6_valueOf mlX10_120 dX10_envyOf_22 ?_
  refine A_is2 X dX10_envyOf_25 ?_
  refine A_iconst X dX10_envyOf_26 ?_
  refine A_il2 X dX10_envyOf_27 ?_
  refine A_al0 X dX10_envyOf_28 ?_
  refine A_il1 X dX10_envyOf_29 ?_
  refine A_dVi1 X (x_ownValue hs hIq hWq) h_this knX10_ownValue mlX10_277 dX10_envyOf_30 ?_
  refine A_isub X dX10_envyOf_33 ?_
  refine A_mmax X (by omega) (by omega) mlX10_280 dX10_envyOf_34 ?_
  exact A_ret X dX10_envyOf_37 rfl ⟨congrArg (fun t => some (aI t)) (by unfold nvB; split <;> omega), rfl, rfl⟩
set_option maxRecDepth 100000 in
theorem x_envy {G : aG} {d n : Nat} {h : AH} {xa : Nat} {fs fn fp fi fk ft fe : Int → Int} {un sz sm tr : Int} {side : Int} (hs : inR side) (hI : xI fs fn fe ft un sz sm) (hW : xW G xa h fs fn fp fi fk ft fe un sz sm tr) : aD G (d + 4) kX10_envy [.ref xa, aI side] n h (some (aI (qEnvy fs fn side))) := by
  have hIq := hI; have hWq := hW; obtain ⟨hok, ⟨hn, hbz⟩, he, hun, ⟨z, hz, hz2, htk⟩, hsm, hse⟩ := hI; obtain ⟨su, dr, pl, ts, tk, nu, hT, cT, fo, ga, li, fd, e1, e2, e3, g1, g2, g3, hsd, h_this, hnu, h_this_text, h_this_text_letters, hC, hXd, hNw, hI0, hI1, h_this_partings, h_this_partings_own, h_this_partings_ahead, h_this_partings_sum, h_this_kinds, h_this_deeds, hHs, h_this_seenFoot, h_this_seenCell, h_this_seenWear, hSe, hJd⟩ := hW; have hNw0 := hNw; obtain ⟨no, nf, ⟨h_this_present, h_this_present_owner, h_this_present_feet⟩, hno, hnf⟩ := hNw; have h_this_told := suC_o hC; have hg := hok.1; have hal := al_b hg
  refine aCt_of (lv := [some (.ref xa), some (aI side)]) knX10_envy.1 rfl rfl (Nat.le_of_ble_eq_true rfl) (fun x hG hsc X => ?_)
  subst hG
  refine A_il1 X dX10_envy_0 ?_
  refine A_dSi1 X (c_isSide hs) knX10_isSide mlX10_113 dX10_envy_1 ?_
  refine A_ifb_eq (t := 15) X dX10_envy_4 (fun c4 => ?_) (fun c4 => ?_)
  · refine A_iconst X dX10_envy_15 ?_
    exact A_ret X dX10_envy_16 rfl ⟨congrArg (fun t => some (aI t)) (by rw [qEnvy, if_neg (by omega)]), rfl, rfl⟩
  · refine A_al0 X dX10_envy_7 ?_
    refine A_il1 X dX10_envy_8 ?_
    refine A_dVi1 X (x_envyOf c4 hIq hWq) h_this knX10_envyOf mlX10_158 dX10_envy_9 ?_
    refine A_goto (t := 16) X dX10_envy_12 ?_
    exact A_ret X dX10_envy_16 rfl ⟨congrArg (fun t => some (aI t)) (by rw [qEnvy, if_pos (by omega)]), rfl, rfl⟩
set_option maxRecDepth 100000 in
theorem x_fair {G : aG} {d n : Nat} {h : AH} {xa : Nat} {fs fn fp fi fk ft fe : Int → Int} {un sz sm tr : Int} {w : Int} (hw : inR w) (hI : xI fs fn fe ft un sz sm) (hW : xW G xa h fs fn fp fi fk ft fe un sz sm tr) : aD G (d + 5) kX10_fair [.ref xa, aI w] n h (some (aI (qFair fs w))) := by
  have hIq := hI; have hWq := hW; obtain ⟨hok, ⟨hn, hbz⟩, he, hun, ⟨z, hz, hz2, htk⟩, hsm, hse⟩ := hI; obtain ⟨su, dr, pl, ts, tk, nu, hT, cT, fo, ga, li, fd, e1, e2, e3, g1, g2, g3, hsd, h_this, hnu, h_this_text, h_this_text_letters, hC, hXd, hNw, hI0, hI1, h_this_partings, h_this_partings_own, h_this_partings_ahead, h_this_partings_sum, h_this_kinds, h_this_deeds, hHs, h_this_seenFoot, h_this_seenCell, h_this_seenWear, hSe, hJd⟩ := hW; have hNw0 := hNw; obtain ⟨no, nf, ⟨h_this_present, h_this_present_owner, h_this_present_feet⟩, hno, hnf⟩ := hNw; have h_this_told := suC_o hC; have hg := hok.1; have hal := al_b hg
  have bb := bs_b fs 1 (al fs)
  have t1 := tg_b hok (bs fs 1 (al fs)).toNat
  have t2 := tg_b hok (bs fs 0 (al fs)).toNat
  refine aCt_of (lv := [some (.ref xa), some (aI w), none, none]) knX10_fair.1 rfl rfl (Nat.le_of_ble_eq_true rfl) (fun x hG hsc X => ?_)
  subst hG
  refine A_il1 X dX10_fair_0 ?_
  refine A_if_lt (t := 9) X (by omega) dX10_fair_1 (fun c1 => ?_) (fun c1 => ?_)
  · refine A_iconst X dX10_fair_9 ?_
    exact A_ret X dX10_fair_10 rfl ⟨congrArg (fun t => some (aI t)) (by rw [qFair, if_neg (by omega)]), rfl, rfl⟩
  · refine A_il1 X dX10_fair_4 ?_
    refine A_iconst X dX10_fair_5 ?_
    refine A_icmp_le (t := 11) X (by omega) (by omega) dX10_fair_6 (fun c6 => ?_) (fun c6 => ?_)
    · refine A_il1 X dX10_fair_11 ?_
      refine A_if_ne (t := 27) X (by omega) dX10_fair_12 (fun c12 => ?_) (fun c12 => ?_)
      · refine A_al0 X dX10_fair_27 ?_
        refine A_getf X flX10_42 h_this rfl dX10_fair_28 ?_
        refine A_al0 X dX10_fair_31 ?_
        refine A_getf X flX10_19 h_this rfl dX10_fair_32 ?_
        refine A_dVi1 X (p_best hok hC h_this_partings) h_this_partings knX4_best mlX10_164 dX10_fair_35 ?_
        refine A_is2 X dX10_fair_38 ?_
        refine A_il2 X dX10_fair_39 ?_
        refine A_bipush X dX10_fair_40 ?_
        refine A_icmp_eq (t := 50) X (by omega) (by omega) dX10_fair_42 (fun c42 => ?_) (fun c42 => ?_)
        · refine A_il2 X dX10_fair_50 ?_
          exact A_ret X dX10_fair_51 rfl ⟨congrArg (fun t => some (aI t)) (by rw [qFair, if_pos (by omega), if_neg (by omega), if_pos (by omega)]), rfl, rfl⟩
        · refine A_il1 X dX10_fair_45 ?_
          refine A_iconst X dX10_fair_46 ?_
          refine A_icmp_ne (t := 52) X (by omega) (by omega) dX10_fair_47 (fun c47 => ?_) (fun c47 => ?_)
          · refine A_al0 X dX10_fair_52 ?_
            refine A_getf X flX10_42 h_this rfl dX10_fair_53 ?_
            refine A_al0 X dX10_fair_56 ?_
            refine A_getf X flX10_19 h_this rfl dX10_fair_57 ?_
            refine A_il2 X dX10_fair_60 ?_
            refine A_dVi2 X (p_total (bs fs 1 (al fs)).toNat (by omega) (by omega) hok hC) h_this_partings knX4_total mlX10_167 dX10_fair_61 ?_
            refine A_is3 X dX10_fair_64 ?_
            refine A_il1 X dX10_fair_65 ?_
            refine A_iconst X dX10_fair_66 ?_
            refine A_icmp_ne (t := 74) X (by omega) (by omega) dX10_fair_67 (fun c67 => ?_) (fun c67 => ?_)
            · refine A_al0 X dX10_fair_74 ?_
              refine A_getf X flX10_42 h_this rfl dX10_fair_75 ?_
              refine A_al0 X dX10_fair_78 ?_
              refine A_getf X flX10_19 h_this rfl dX10_fair_79 ?_
              refine A_dVi1 X (p_mostTotal hok hC h_this_partings) h_this_partings knX4_mostTotal mlX10_171 dX10_fair_82 ?_
              refine A_il3 X dX10_fair_85 ?_
              refine A_isub X dX10_fair_86 ?_
              exact A_ret X dX10_fair_87 rfl ⟨congrArg (fun t => some (aI t)) (by rw [qFair, if_pos (by omega), if_neg (by omega), if_neg (by omega), if_neg (by omega)]), rfl, rfl⟩
            · refine A_il3 X dX10_fair_70 ?_
              refine A_goto (t := 87) X dX10_fair_71 ?_
              exact A_ret X dX10_fair_87 rfl ⟨congrArg (fun t => some (aI t)) (by rw [qFair, if_pos (by omega), if_neg (by omega), if_neg (by omega), if_pos (by omega)]), rfl, rfl⟩
          · refine A_il2 X dX10_fair_50 ?_
            exact A_ret X dX10_fair_51 rfl ⟨congrArg (fun t => some (aI t)) (by rw [qFair, if_pos (by omega), if_neg (by omega), if_pos (by omega)]), rfl, rfl⟩
      · refine A_al0 X dX10_fair_15 ?_
        refine A_getf X flX10_42 h_this rfl dX10_fair_16 ?_
        refine A_al0 X dX10_fair_19 ?_
        refine A_getf X flX10_19 h_this rfl dX10_fair_20 ?_
        refine A_dVi1 X (p_fairCount hok hC h_this_partings) h_this_partings knX4_fairCount mlX10_161 dX10_fair_23 ?_
        exact A_ret X dX10_fair_26 rfl ⟨congrArg (fun t => some (aI t)) (by rw [qFair, if_pos (by omega), if_pos (by omega)]), rfl, rfl⟩
    · refine A_iconst X dX10_fair_9 ?_
      exact A_ret X dX10_fair_10 rfl ⟨congrArg (fun t => some (aI t)) (by rw [qFair, if_neg (by omega)]), rfl, rfl⟩
set_option maxRecDepth 100000 in
theorem x_sell {G : aG} {d n : Nat} {h : AH} {xa : Nat} {fs fn fp fi fk ft fe : Int → Int} {un sz sm tr : Int} {c : Int} (hc : inR c) (hI : xI fs fn fe ft un sz sm) (hW : xW G xa h fs fn fp fi fk ft fe un sz sm tr) : aD G (d + 5) kX10_sell [.ref xa, aI c] n h (some (aI (qSell fs c))) := by
  have hIq := hI; have hWq := hW; obtain ⟨hok, ⟨hn, hbz⟩, he, hun, ⟨z, hz, hz2, htk⟩, hsm, hse⟩ := hI; obtain ⟨su, dr, pl, ts, tk, nu, hT, cT, fo, ga, li, fd, e1, e2, e3, g1, g2, g3, hsd, h_this, hnu, h_this_text, h_this_text_letters, hC, hXd, hNw, hI0, hI1, h_this_partings, h_this_partings_own, h_this_partings_ahead, h_this_partings_sum, h_this_kinds, h_this_deeds, hHs, h_this_seenFoot, h_this_seenCell, h_this_seenWear, hSe, hJd⟩ := hW; have hNw0 := hNw; obtain ⟨no, nf, ⟨h_this_present, h_this_present_owner, h_this_present_feet⟩, hno, hnf⟩ := hNw; have h_this_told := suC_o hC; have hg := hok.1; have hal := al_b hg
  refine aCt_of (lv := [some (.ref xa), some (aI c)]) knX10_sell.1 rfl rfl (Nat.le_of_ble_eq_true rfl) (fun x hG hsc X => ?_)
  subst hG
  refine A_il1 X dX10_sell_0 ?_
  refine A_if_lt (t := 10) X (by omega) dX10_sell_1 (fun c1 => ?_) (fun c1 => ?_)
  · refine A_iconst X dX10_sell_10 ?_
    refine A_goto (t := 26) X dX10_sell_11 ?_
    exact A_ret X dX10_sell_26 rfl ⟨congrArg (fun t => some (aI t)) (by unfold qSell; first | rw [if_neg (by omega)] | rw [if_pos (by omega)]), rfl, rfl⟩
  · refine A_il1 X dX10_sell_4 ?_
    refine A_bipush X dX10_sell_5 ?_
    refine A_icmp_le (t := 14) X (by omega) (by omega) dX10_sell_7 (fun c7 => ?_) (fun c7 => ?_)
    · refine A_al0 X dX10_sell_14 ?_
      refine A_getf X flX10_42 h_this rfl dX10_sell_15 ?_
      refine A_al0 X dX10_sell_18 ?_
      refine A_getf X flX10_19 h_this rfl dX10_sell_19 ?_
      refine A_il1 X dX10_sell_22 ?_
      refine A_dVi2 X (p_greatestSale (by omega) hok hC) h_this_partings knX4_greatestSale mlX10_198 dX10_sell_23 ?_
      exact A_ret X dX10_sell_26 rfl ⟨congrArg (fun t => some (aI t)) (by unfold qSell; first | rw [if_neg (by omega)] | rw [if_pos (by omega)]), rfl, rfl⟩
    · refine A_iconst X dX10_sell_10 ?_
      refine A_goto (t := 26) X dX10_sell_11 ?_
      exact A_ret X dX10_sell_26 rfl ⟨congrArg (fun t => some (aI t)) (by unfold qSell; first | rw [if_neg (by omega)] | rw [if_pos (by omega)]), rfl, rfl⟩
theorem imC_fr {G : aG} {h h' : AH} {r : Nat} {fi fk : Int → Int} {i : Int} (hN : imC G h r fi fk i) (hq : ∀ q, r ≤ q → q < r + 3 → h' q = h q) : imC G h' r fi fk i := by
  rcases hN with ⟨a, b, c⟩ | ⟨a, b⟩
  · exact Or.inl ⟨a, nowC_fr b hq, c⟩
  · exact Or.inr ⟨a, nowX_fr b hq⟩
theorem jdC_fr {h h' : AH} {xa : Nat} (hJ : jdC h xa) (hq : ∀ q, xa + 31 ≤ q → q < xa + 37 → h' q = h q) : jdC h' xa := by
  obtain ⟨a, b, c, d, e, f⟩ := hJ
  exact ⟨(hq _ (by omega) (by omega)).trans a, (hq _ (by omega) (by omega)).trans b, (hq _ (by omega) (by omega)).trans c, (hq _ (by omega) (by omega)).trans d, (hq _ (by omega) (by omega)).trans e, (hq _ (by omega) (by omega)).trans f⟩
theorem xW_p {G : aG} {h h' : AH} {xa : Nat} {fs fn fp fi fk ft fe : Int → Int} {un sz sm tr : Int} (hW : xW G xa h fs fn fp fi fk ft fe un sz sm tr) (hq : ∀ q, (q < xa + 22 ∨ xa + 26 ≤ q) → h' q = h q) (hp : ∃ (fo ga li : Int) (g1 g2 g3 : Int → Int), h' (xa + 22) = some (aOb 4 (pO (xa + 22) fo ga li)) ∧ h' (xa + 23) = some (aIa G 64 g1) ∧ h' (xa + 24) = some (aIa G 64 g2) ∧ h' (xa + 25) = some (aIa G 64 g3)) : xW G xa h' fs fn fp fi fk ft fe un sz sm tr := by
  obtain ⟨su, dr, pl, ts, tk, nu, hT, cT, fo, ga, li, fd, e1, e2, e3, g1, g2, g3, hsd, h_this, hnu, h_this_text, h_this_text_letters, hC, hXd, hNw, hI0, hI1, h_this_partings, h_this_partings_own, h_this_partings_ahead, h_this_partings_sum, h_this_kinds, h_this_deeds, hHs, h_this_seenFoot, h_this_seenCell, h_this_seenWear, hSe, hJd⟩ := hW
  obtain ⟨fo', ga', li', g1', g2', g3', p1, p2, p3, p4⟩ := hp
  exact ⟨su, dr, pl, ts, tk, nu, hT, cT, fo', ga', li', fd, e1, e2, e3, g1', g2', g3', hsd, (hq _ (by omega)).trans h_this, hnu, (hq _ (by omega)).trans h_this_text, (hq _ (by omega)).trans h_this_text_letters, suC_fr hC (fun q a b => hq q (by omega)), suX_fr hXd (fun q a b => hq q (by omega)), nowC_fr hNw (fun q a b => hq q (by omega)), imC_fr hI0 (fun q a b => hq q (by omega)), imC_fr hI1 (fun q a b => hq q (by omega)), p1, p2, p3, p4, (hq _ (by omega)).trans h_this_kinds, (hq _ (by omega)).trans h_this_deeds, hHs, (hq _ (by omega)).trans h_this_seenFoot, (hq _ (by omega)).trans h_this_seenCell, (hq _ (by omega)).trans h_this_seenWear, hSe, jdC_fr hJd (fun q a b => hq q (by omega))⟩
set_option maxRecDepth 100000 in
theorem x_good {G : aG} {d n : Nat} {h : AH} {xa : Nat} {fs fn fp fi fk ft fe : Int → Int} {un sz sm tr : Int} {g w : Int} (hgr : inR g) (hw : inR w) (hI : xI fs fn fe ft un sz sm) (hW : xW G xa h fs fn fp fi fk ft fe un sz sm tr) : aD G (d + 2) kX10_good [.ref xa, aI g, aI w] n h (some (aI (qGood fs fn g w))) := by
  have hIq := hI; have hWq := hW; obtain ⟨hok, ⟨hn, hbz⟩, he, hun, ⟨z, hz, hz2, htk⟩, hsm, hse⟩ := hI; obtain ⟨su, dr, pl, ts, tk, nu, hT, cT, fo, ga, li, fd, e1, e2, e3, g1, g2, g3, hsd, h_this, hnu, h_this_text, h_this_text_letters, hC, hXd, hNw, hI0, hI1, h_this_partings, h_this_partings_own, h_this_partings_ahead, h_this_partings_sum, h_this_kinds, h_this_deeds, hHs, h_this_seenFoot, h_this_seenCell, h_this_seenWear, hSe, hJd⟩ := hW; have hNw0 := hNw; obtain ⟨no, nf, ⟨h_this_present, h_this_present_owner, h_this_present_feet⟩, hno, hnf⟩ := hNw; have h_this_told := suC_o hC; have hg := hok.1; have hal := al_b hg
  refine aCt_of (lv := [some (.ref xa), some (aI g), some (aI w)]) knX10_good.1 rfl rfl (Nat.le_of_ble_eq_true rfl) (fun x hG hsc X => ?_)
  subst hG
  refine A_al0 X dX10_good_0 ?_
  refine A_il1 X dX10_good_1 ?_
  refine A_dVi1 X (x_isGood hgr hIq hWq) h_this knX10_isGood mlX10_102 dX10_good_2 ?_
  refine A_ifb_eq (t := 17) X dX10_good_5 (fun c5 => ?_) (fun c5 => ?_)
  · refine A_iconst X dX10_good_17 ?_
    exact A_ret X dX10_good_18 rfl ⟨congrArg (fun t => some (aI t)) (by rw [qGood, if_neg (by omega)]), rfl, rfl⟩
  · refine A_il2 X dX10_good_8 ?_
    refine A_if_lt (t := 17) X (by omega) dX10_good_9 (fun c9 => ?_) (fun c9 => ?_)
    · refine A_iconst X dX10_good_17 ?_
      exact A_ret X dX10_good_18 rfl ⟨congrArg (fun t => some (aI t)) (by rw [qGood, if_neg (by omega)]), rfl, rfl⟩
    · refine A_il2 X dX10_good_12 ?_
      refine A_iconst X dX10_good_13 ?_
      refine A_icmp_le (t := 19) X (by omega) (by omega) dX10_good_14 (fun c14 => ?_) (fun c14 => ?_)
      · refine A_il2 X dX10_good_19 ?_
        refine A_iconst X dX10_good_20 ?_
        refine A_icmp_ne (t := 35) X (by omega) (by omega) dX10_good_21 (fun c21 => ?_) (fun c21 => ?_)
        · refine A_al0 X dX10_good_35 ?_
          refine A_getf X flX10_19 h_this rfl dX10_good_36 ?_
          refine A_il2 X dX10_good_39 ?_
          refine A_il1 X dX10_good_40 ?_
          refine A_dVi2 X (c_worthC (by omega) (by omega) hg.2 hC) h_this_told knX6_worthOf mlX10_109 dX10_good_41 ?_
          exact A_ret X dX10_good_44 rfl ⟨congrArg (fun t => some (aI t)) (by rw [qGood, if_pos (by omega), if_pos (by omega)]), rfl, rfl⟩
        · refine A_al0 X dX10_good_24 ?_
          refine A_getf X flX10_29 h_this rfl dX10_good_25 ?_
          refine A_il1 X dX10_good_28 ?_
          refine A_dVi1 X (c_whose (by omega) h_this_present h_this_present_owner) h_this_present knX3_whose mlX10_105 dX10_good_29 ?_
          refine A_goto (t := 44) X dX10_good_32 ?_
          exact A_ret X dX10_good_44 rfl ⟨congrArg (fun t => some (aI t)) (by rw [qGood, if_pos (by omega), if_neg (by omega), hno _ (by omega) (by omega), Int.zero_add]), rfl, rfl⟩
      · refine A_iconst X dX10_good_17 ?_
        exact A_ret X dX10_good_18 rfl ⟨congrArg (fun t => some (aI t)) (by rw [qGood, if_neg (by omega)]), rfl, rfl⟩
set_option maxRecDepth 100000 in
theorem x_values {G : aG} {d n : Nat} {h : AH} {xa : Nat} {fs fn fp fi fk ft fe : Int → Int} {un sz sm tr : Int} {side set : Int} (hs : inR side) (hst : inR set) (hI : xI fs fn fe ft un sz sm) (hW : xW G xa h fs fn fp fi fk ft fe un sz sm tr) : aD G (d + 2) kX10_values [.ref xa, aI side, aI set] n h (some (aI (qValues fs side set))) := by
  have hIq := hI; have hWq := hW; obtain ⟨hok, ⟨hn, hbz⟩, he, hun, ⟨z, hz, hz2, htk⟩, hsm, hse⟩ := hI; obtain ⟨su, dr, pl, ts, tk, nu, hT, cT, fo, ga, li, fd, e1, e2, e3, g1, g2, g3, hsd, h_this, hnu, h_this_text, h_this_text_letters, hC, hXd, hNw, hI0, hI1, h_this_partings, h_this_partings_own, h_this_partings_ahead, h_this_partings_sum, h_this_kinds, h_this_deeds, hHs, h_this_seenFoot, h_this_seenCell, h_this_seenWear, hSe, hJd⟩ := hW; have hNw0 := hNw; obtain ⟨no, nf, ⟨h_this_present, h_this_present_owner, h_this_present_feet⟩, hno, hnf⟩ := hNw; have h_this_told := suC_o hC; have hg := hok.1; have hal := al_b hg
  refine aCt_of (lv := [some (.ref xa), some (aI side), some (aI set)]) knX10_values.1 rfl rfl (Nat.le_of_ble_eq_true rfl) (fun x hG hsc X => ?_)
  subst hG
  refine A_il1 X dX10_values_0 ?_
  refine A_dSi1 X (c_isSide hs) knX10_isSide mlX10_113 dX10_values_1 ?_
  refine A_ifb_eq (t := 22) X dX10_values_4 (fun c4 => ?_) (fun c4 => ?_)
  · refine A_iconst X dX10_values_22 ?_
    exact A_ret X dX10_values_23 rfl ⟨congrArg (fun t => some (aI t)) (by rw [qValues, if_neg (by omega)]), rfl, rfl⟩
  · refine A_il2 X dX10_values_7 ?_
    refine A_if_lt (t := 22) X (by omega) dX10_values_8 (fun c8 => ?_) (fun c8 => ?_)
    · refine A_iconst X dX10_values_22 ?_
      exact A_ret X dX10_values_23 rfl ⟨congrArg (fun t => some (aI t)) (by rw [qValues, if_neg (by omega)]), rfl, rfl⟩
    · refine A_il2 X dX10_values_11 ?_
      refine A_al0 X dX10_values_12 ?_
      refine A_getf X flX10_19 h_this rfl dX10_values_13 ?_
      refine A_dVi0 X (c_all2 hg hC) h_this_told knX6_all mlX10_116 dX10_values_16 ?_
      refine A_icmp_le (t := 24) X (by omega) (by omega) dX10_values_19 (fun c19 => ?_) (fun c19 => ?_)
      · refine A_al0 X dX10_values_24 ?_
        refine A_getf X flX10_19 h_this rfl dX10_values_25 ?_
        refine A_il1 X dX10_values_28 ?_
        refine A_il2 X dX10_values_29 ?_
        refine A_dVi2 X (c_valueOf set.toNat (by omega) (by omega) hg (by omega) hC) h_this_told knX6_valueOf mlX10_120 dX10_values_30 ?_
        exact A_ret X dX10_values_33 rfl ⟨congrArg (fun t => some (aI t)) (by rw [qValues, if_pos (by omega)]), rfl, rfl⟩
      · refine A_iconst X dX10_values_22 ?_
        exact A_ret X dX10_values_23 rfl ⟨congrArg (fun t => some (aI t)) (by rw [qValues, if_neg (by omega)]), rfl, rfl⟩
set_option maxRecDepth 100000 in
theorem x_now {G : aG} {d n : Nat} {h : AH} {xa : Nat} {fs fn fp fi fk ft fe : Int → Int} {un sz sm tr : Int} {w : Int} (hw : inR w) (hI : xI fs fn fe ft un sz sm) (hW : xW G xa h fs fn fp fi fk ft fe un sz sm tr) : aD G (d + 2) kX10_now [.ref xa, aI w] n h (some (aI (qNow fs fn un w))) := by
  have hIq := hI; have hWq := hW; obtain ⟨hok, ⟨hn, hbz⟩, he, hun, ⟨z, hz, hz2, htk⟩, hsm, hse⟩ := hI; obtain ⟨su, dr, pl, ts, tk, nu, hT, cT, fo, ga, li, fd, e1, e2, e3, g1, g2, g3, hsd, h_this, hnu, h_this_text, h_this_text_letters, hC, hXd, hNw, hI0, hI1, h_this_partings, h_this_partings_own, h_this_partings_ahead, h_this_partings_sum, h_this_kinds, h_this_deeds, hHs, h_this_seenFoot, h_this_seenCell, h_this_seenWear, hSe, hJd⟩ := hW; have hNw0 := hNw; obtain ⟨no, nf, ⟨h_this_present, h_this_present_owner, h_this_present_feet⟩, hno, hnf⟩ := hNw; have h_this_told := suC_o hC; have hg := hok.1; have hal := al_b hg
  refine aCt_of (lv := [some (.ref xa), some (aI w)]) knX10_now.1 rfl rfl (Nat.le_of_ble_eq_true rfl) (fun x hG hsc X => ?_)
  subst hG
  refine A_il1 X dX10_now_0 ?_
  refine A_if_lt (t := 9) X (by omega) dX10_now_1 (fun c1 => ?_) (fun c1 => ?_)
  · refine A_iconst X dX10_now_9 ?_
    exact A_ret X dX10_now_10 rfl ⟨congrArg (fun t => some (aI t)) (by rw [qNow, if_neg (by omega), if_neg (by omega), if_neg (by omega)]), rfl, rfl⟩
  · refine A_il1 X dX10_now_4 ?_
    refine A_iconst X dX10_now_5 ?_
    refine A_icmp_le (t := 11) X (by omega) (by omega) dX10_now_6 (fun c6 => ?_) (fun c6 => ?_)
    · refine A_il1 X dX10_now_11 ?_
      refine A_iconst X dX10_now_12 ?_
      refine A_icmp_ne (t := 24) X (by omega) (by omega) dX10_now_13 (fun c13 => ?_) (fun c13 => ?_)
      · refine A_il1 X dX10_now_24 ?_
        refine A_iconst X dX10_now_25 ?_
        refine A_icmp_ne (t := 36) X (by omega) (by omega) dX10_now_26 (fun c26 => ?_) (fun c26 => ?_)
        · refine A_al0 X dX10_now_36 ?_
          refine A_getf X flX10_29 h_this rfl dX10_now_37 ?_
          refine A_il1 X dX10_now_40 ?_
          refine A_al0 X dX10_now_41 ?_
          refine A_getf X flX10_19 h_this rfl dX10_now_42 ?_
          refine A_getf X flX10_129 h_this_told rfl dX10_now_45 ?_
          refine A_dVi2 X (n_setOf hg hw hn hNw0) h_this_present knX3_setOf mlX10_132 dX10_now_48 ?_
          exact A_ret X dX10_now_51 rfl ⟨congrArg (fun t => some (aI t)) (by rw [qNow, if_pos (by omega)]), rfl, rfl⟩
        · refine A_al0 X dX10_now_29 ?_
          refine A_getf X flX10_126 h_this rfl dX10_now_30 ?_
          refine A_goto (t := 51) X dX10_now_33 ?_
          exact A_ret X dX10_now_51 rfl ⟨congrArg (fun t => some (aI t)) (by rw [qNow, if_neg (by omega), if_neg (by omega), if_pos (by omega)]), rfl, rfl⟩
      · refine A_al0 X dX10_now_16 ?_
        refine A_getf X flX10_29 h_this rfl dX10_now_17 ?_
        refine A_getf X flX10_123 h_this_present rfl dX10_now_20 ?_
        exact A_ret X dX10_now_23 rfl ⟨congrArg (fun t => some (aI t)) (by rw [qNow, if_neg (by omega), if_pos (by omega)]), rfl, rfl⟩
    · refine A_iconst X dX10_now_9 ?_
      exact A_ret X dX10_now_10 rfl ⟨congrArg (fun t => some (aI t)) (by rw [qNow, if_neg (by omega), if_neg (by omega), if_neg (by omega)]), rfl, rfl⟩
set_option maxRecDepth 100000 in
theorem x_cut {G : aG} {d n : Nat} {h : AH} {xa : Nat} {fs fn fp fi fk ft fe : Int → Int} {un sz sm tr : Int} {side w : Int} (hs : inR side) (hw : inR w) (hI : xI fs fn fe ft un sz sm) (hW : xW G xa h fs fn fp fi fk ft fe un sz sm tr) : aD G (d + 4) kX10_cut [.ref xa, aI side, aI w] n h (some (aI (qCut fs side w))) := by
  have hIq := hI; have hWq := hW; obtain ⟨hok, ⟨hn, hbz⟩, he, hun, ⟨z, hz, hz2, htk⟩, hsm, hse⟩ := hI; obtain ⟨su, dr, pl, ts, tk, nu, hT, cT, fo, ga, li, fd, e1, e2, e3, g1, g2, g3, hsd, h_this, hnu, h_this_text, h_this_text_letters, hC, hXd, hNw, hI0, hI1, h_this_partings, h_this_partings_own, h_this_partings_ahead, h_this_partings_sum, h_this_kinds, h_this_deeds, hHs, h_this_seenFoot, h_this_seenCell, h_this_seenWear, hSe, hJd⟩ := hW; have hNw0 := hNw; obtain ⟨no, nf, ⟨h_this_present, h_this_present_owner, h_this_present_feet⟩, hno, hnf⟩ := hNw; have h_this_told := suC_o hC; have hg := hok.1; have hal := al_b hg
  have ct := fun (q : side = 0 ∨ side = 1) => ct_ow hok q (al fs - 1)
  rw [show al fs - 1 + 1 = al fs by omega] at ct
  refine aCt_of (lv := [some (.ref xa), some (aI side), some (aI w), none]) knX10_cut.1 rfl rfl (Nat.le_of_ble_eq_true rfl) (fun x hG hsc X => ?_)
  subst hG
  refine A_il1 X dX10_cut_0 ?_
  refine A_dSi1 X (c_isSide hs) knX10_isSide mlX10_113 dX10_cut_1 ?_
  refine A_ifb_eq (t := 16) X dX10_cut_4 (fun c4 => ?_) (fun c4 => ?_)
  · refine A_iconst X dX10_cut_16 ?_
    exact A_ret X dX10_cut_17 rfl ⟨congrArg (fun t => some (aI t)) (by rw [qCut, if_neg (by omega)]), rfl, rfl⟩
  · refine A_il2 X dX10_cut_7 ?_
    refine A_if_lt (t := 16) X (by omega) dX10_cut_8 (fun c8 => ?_) (fun c8 => ?_)
    · refine A_iconst X dX10_cut_16 ?_
      exact A_ret X dX10_cut_17 rfl ⟨congrArg (fun t => some (aI t)) (by rw [qCut, if_neg (by omega)]), rfl, rfl⟩
    · refine A_il2 X dX10_cut_11 ?_
      refine A_iconst X dX10_cut_12 ?_
      refine A_icmp_le (t := 18) X (by omega) (by omega) dX10_cut_13 (fun c13 => ?_) (fun c13 => ?_)
      · refine A_al0 X dX10_cut_18 ?_
        refine A_getf X flX10_42 h_this rfl dX10_cut_19 ?_
        refine A_al0 X dX10_cut_22 ?_
        refine A_getf X flX10_19 h_this rfl dX10_cut_23 ?_
        refine A_il1 X dX10_cut_26 ?_
        refine A_dVi2 X (p_bestCut (by omega) hok hC h_this_partings) h_this_partings knX4_bestCut mlX10_174 dX10_cut_27 ?_
        refine A_is3 X dX10_cut_30 ?_
        obtain ⟨ct1, ct2⟩ := ct (by omega)
        refine A_il2 X dX10_cut_31 ?_
        refine A_iconst X dX10_cut_32 ?_
        refine A_icmp_ne (t := 40) X (by omega) (by omega) dX10_cut_33 (fun c33 => ?_) (fun c33 => ?_)
        · refine A_al0 X dX10_cut_40 ?_
          refine A_getf X flX10_42 h_this rfl dX10_cut_41 ?_
          refine A_al0 X dX10_cut_44 ?_
          refine A_getf X flX10_19 h_this rfl dX10_cut_45 ?_
          refine A_il1 X dX10_cut_48 ?_
          refine A_il3 X dX10_cut_49 ?_
          refine A_dVi3 X (p_leftToCutter (ctB fs side (al fs)).toNat (by omega) (by omega) (by omega) hok hC) h_this_partings knX4_leftToCutter mlX10_177 dX10_cut_50 ?_
          exact A_ret X dX10_cut_53 rfl ⟨congrArg (fun t => some (aI t)) (by rw [qCut, if_pos (by omega), if_pos (by omega), ct2]), rfl, rfl⟩
        · refine A_il3 X dX10_cut_36 ?_
          refine A_goto (t := 53) X dX10_cut_37 ?_
          exact A_ret X dX10_cut_53 rfl ⟨congrArg (fun t => some (aI t)) (by rw [qCut, if_pos (by omega), if_neg (by omega)]), rfl, rfl⟩
      · refine A_iconst X dX10_cut_16 ?_
        exact A_ret X dX10_cut_17 rfl ⟨congrArg (fun t => some (aI t)) (by rw [qCut, if_neg (by omega)]), rfl, rfl⟩
set_option maxRecDepth 100000 in
theorem x_lies {G : aG} {d n : Nat} {h : AH} {xa : Nat} {fs fn fp fi fk ft fe : Int → Int} {un sz sm tr : Int} {side w : Int} (hs : inR side) (hw : inR w) (hI : xI fs fn fe ft un sz sm) (hW : xW G xa h fs fn fp fi fk ft fe un sz sm tr) : aE G (d + 5) kX10_lies [.ref xa, aI side, aI w] n h (some (aI (qLies fs side w))) (fun h' => xFr xa h h' ∧ xW G xa h' fs fn fp fi fk ft fe un sz sm tr) := by
  have hIq := hI; have hWq := hW; obtain ⟨hok, ⟨hn, hbz⟩, he, hun, ⟨z, hz, hz2, htk⟩, hsm, hse⟩ := hI; obtain ⟨su, dr, pl, ts, tk, nu, hT, cT, fo, ga, li, fd, e1, e2, e3, g1, g2, g3, hsd, h_this, hnu, h_this_text, h_this_text_letters, hC, hXd, hNw, hI0, hI1, h_this_partings, h_this_partings_own, h_this_partings_ahead, h_this_partings_sum, h_this_kinds, h_this_deeds, hHs, h_this_seenFoot, h_this_seenCell, h_this_seenWear, hSe, hJd⟩ := hW; have hNw0 := hNw; obtain ⟨no, nf, ⟨h_this_present, h_this_present_owner, h_this_present_feet⟩, hno, hnf⟩ := hNw; have h_this_told := suC_o hC; have hg := hok.1; have hal := al_b hg
  refine aCt_of (lv := [some (.ref xa), some (aI side), some (aI w)]) knX10_lies.1 rfl rfl (Nat.le_of_ble_eq_true rfl) (fun x hG hsc X => ?_)
  subst hG
  refine A_il1 X dX10_lies_0 ?_
  refine A_dSi1 X (c_isSide hs) knX10_isSide mlX10_113 dX10_lies_1 ?_
  refine A_ifb_eq (t := 16) X dX10_lies_4 (fun c4 => ?_) (fun c4 => ?_)
  · refine A_iconst X dX10_lies_16 ?_
    exact A_ret X dX10_lies_17 rfl ⟨congrArg (fun t => some (aI t)) (by rw [qLies, if_neg (by omega)]), rfl, fun _ _ => rfl, hWq⟩
  · refine A_il2 X dX10_lies_7 ?_
    refine A_if_lt (t := 16) X (by omega) dX10_lies_8 (fun c8 => ?_) (fun c8 => ?_)
    · refine A_iconst X dX10_lies_16 ?_
      exact A_ret X dX10_lies_17 rfl ⟨congrArg (fun t => some (aI t)) (by rw [qLies, if_neg (by omega)]), rfl, fun _ _ => rfl, hWq⟩
    · refine A_il2 X dX10_lies_11 ?_
      refine A_iconst X dX10_lies_12 ?_
      refine A_icmp_le (t := 18) X (by omega) (by omega) dX10_lies_13 (fun c13 => ?_) (fun c13 => ?_)
      · refine A_al0 X dX10_lies_18 ?_
        refine A_getf X flX10_42 h_this rfl dX10_lies_19 ?_
        refine A_al0 X dX10_lies_22 ?_
        refine A_getf X flX10_19 h_this rfl dX10_lies_23 ?_
        refine A_il1 X dX10_lies_26 ?_
        refine A_eVv2 X (p_seek (by omega) (by omega) hok hC h_this_partings h_this_partings_own h_this_partings_ahead h_this_partings_sum) h_this_partings knX4_seekLie mlX10_188 dX10_lies_27 (fun h27 p27 => ?_)
        obtain ⟨⟨u1, u2, u3, L, h_this_partings, r1, r2, r3⟩, hq⟩ := p27
        have h_this := (hq _ (by omega)).trans h_this
        have hF : xFr xa h h27 := fun q a => hq q (by omega)
        have hW2 := xW_p hWq hq ⟨_, _, _, u1, u2, u3, h_this_partings, r1, r2, r3⟩
        refine A_il2 X dX10_lies_30 ?_
        refine A_if_ne (t := 44) X (by omega) dX10_lies_31 (fun c31 => ?_) (fun c31 => ?_)
        · refine A_al0 X dX10_lies_44 ?_
          refine A_getf X flX10_42 h_this rfl dX10_lies_45 ?_
          refine A_getf X flX10_195 h_this_partings rfl dX10_lies_48 ?_
          exact A_ret X dX10_lies_51 rfl ⟨congrArg (fun t => some (aI t)) (by rw [qLies, if_pos (by omega), if_neg (by omega)]), rfl, hF, hW2⟩
        · refine A_al0 X dX10_lies_34 ?_
          refine A_getf X flX10_42 h_this rfl dX10_lies_35 ?_
          refine A_getf X flX10_192 h_this_partings rfl dX10_lies_38 ?_
          refine A_goto (t := 51) X dX10_lies_41 ?_
          exact A_ret X dX10_lies_51 rfl ⟨congrArg (fun t => some (aI t)) (by rw [qLies, if_pos (by omega), if_pos (by omega)]), rfl, hF, hW2⟩
      · refine A_iconst X dX10_lies_16 ?_
        exact A_ret X dX10_lies_17 rfl ⟨congrArg (fun t => some (aI t)) (by rw [qLies, if_neg (by omega)]), rfl, fun _ _ => rfl, hWq⟩
set_option maxRecDepth 100000 in
theorem x_turns {G : aG} {d n : Nat} {h : AH} {xa : Nat} {fs fn fp fi fk ft fe : Int → Int} {un sz sm tr : Int} {side w : Int} (hs : inR side) (hw : inR w) (hI : xI fs fn fe ft un sz sm) (hW : xW G xa h fs fn fp fi fk ft fe un sz sm tr) : aD G (d + 8) kX10_byTurns [.ref xa, aI side, aI w] n h (some (aI (qTurns fs fn side w))) := by
  have hIq := hI; have hWq := hW; obtain ⟨hok, ⟨hn, hbz⟩, he, hun, ⟨z, hz, hz2, htk⟩, hsm, hse⟩ := hI; obtain ⟨su, dr, pl, ts, tk, nu, hT, cT, fo, ga, li, fd, e1, e2, e3, g1, g2, g3, hsd, h_this, hnu, h_this_text, h_this_text_letters, hC, hXd, hNw, hI0, hI1, h_this_partings, h_this_partings_own, h_this_partings_ahead, h_this_partings_sum, h_this_kinds, h_this_deeds, hHs, h_this_seenFoot, h_this_seenCell, h_this_seenWear, hSe, hJd⟩ := hW; have hNw0 := hNw; obtain ⟨no, nf, ⟨h_this_present, h_this_present_owner, h_this_present_feet⟩, hno, hnf⟩ := hNw; have h_this_told := suC_o hC; have hg := hok.1; have hal := al_b hg
  have hb2 : gO fn 2 (fs 0).toNat < al fs := gO_b _
  have hb1 : gO fn 1 (fs 0).toNat < al fs := gO_b _
  have hp6 := pct_b (gO fn 2 (fs 0).toNat)
  have ol := oC_lt hg (pct (gO fn 2 (fs 0).toNat)) (gO fn 1 (fs 0).toNat) (gO fn 2 (fs 0).toNat) side hb1
  have tr0 := fun (q : side = 0 ∨ side = 1) => oC_tr hok hn q
  have h6 := bt6 (gO fn 2 (fs 0).toNat) (by omega)
  have ot : ∀ (dd : Nat), (side = 0 ∨ side = 1) → aD G (dd + 7) kX4_outcome [.ref su, aI ((gO fn 1 (fs 0).toNat : Nat) : Int), aI ((gO fn 2 (fs 0).toNat : Nat) : Int), aI side, aI 0] n h (some (aI ((oC fs (pct (gO fn 2 (fs 0).toNat)) (gO fn 1 (fs 0).toNat) (gO fn 2 (fs 0).toNat) side : Nat) : Int))) := fun dd q => by
    have e : dd + 7 = (dd + 6 - pct (gO fn 2 (fs 0).toNat)) + pct (gO fn 2 (fs 0).toNat) + 1 := by omega
    rw [e]
    exact p_outcome hok hC (pct (gO fn 2 (fs 0).toNat)) _ (gO fn 1 (fs 0).toNat) (gO fn 2 (fs 0).toNat) side _ _ 0 rfl rfl hb1 hb2 rfl (by omega) (by omega) q
  have e0 : gO fn 2 (fs 0).toNat = 0 → oC fs (pct (gO fn 2 (fs 0).toNat)) (gO fn 1 (fs 0).toNat) (gO fn 2 (fs 0).toNat) side < 64 := fun q => by rw [h6.mpr q, oC]; omega
  generalize hE : oC fs (pct (gO fn 2 (fs 0).toNat)) (gO fn 1 (fs 0).toNat) (gO fn 2 (fs 0).toNat) side = E at *
  refine aCt_of (lv := [some (.ref xa), some (aI side), some (aI w), none, none]) knX10_byTurns.1 rfl rfl (Nat.le_of_ble_eq_true rfl) (fun x hG hsc X => ?_)
  subst hG
  refine A_il1 X dX10_byTurns_0 ?_
  refine A_dSi1 X (c_isSide hs) knX10_isSide mlX10_113 dX10_byTurns_1 ?_
  refine A_ifb_eq (t := 16) X dX10_byTurns_4 (fun c4 => ?_) (fun c4 => ?_)
  · refine A_iconst X dX10_byTurns_16 ?_
    exact A_ret X dX10_byTurns_17 rfl ⟨congrArg (fun t => some (aI t)) (by rw [qTurns, if_neg (by omega)]), rfl, rfl⟩
  · refine A_il2 X dX10_byTurns_7 ?_
    refine A_if_lt (t := 16) X (by omega) dX10_byTurns_8 (fun c8 => ?_) (fun c8 => ?_)
    · refine A_iconst X dX10_byTurns_16 ?_
      exact A_ret X dX10_byTurns_17 rfl ⟨congrArg (fun t => some (aI t)) (by rw [qTurns, if_neg (by omega)]), rfl, rfl⟩
    · refine A_il2 X dX10_byTurns_11 ?_
      refine A_iconst X dX10_byTurns_12 ?_
      refine A_icmp_le (t := 18) X (by omega) (by omega) dX10_byTurns_13 (fun c13 => ?_) (fun c13 => ?_)
      · refine A_al0 X dX10_byTurns_18 ?_
        refine A_getf X flX10_29 h_this rfl dX10_byTurns_19 ?_
        refine A_iconst X dX10_byTurns_22 ?_
        refine A_al0 X dX10_byTurns_23 ?_
        refine A_getf X flX10_19 h_this rfl dX10_byTurns_24 ?_
        refine A_getf X flX10_129 h_this_told rfl dX10_byTurns_27 ?_
        refine A_dVi2 X (n_setOf hg (by omega) hn hNw0) h_this_present knX3_setOf mlX10_132 dX10_byTurns_30 ?_
        refine A_is3 X dX10_byTurns_33 ?_
        refine A_al0 X dX10_byTurns_34 ?_
        refine A_getf X flX10_19 h_this rfl dX10_byTurns_35 ?_
        refine A_al0 X dX10_byTurns_38 ?_
        refine A_getf X flX10_29 h_this rfl dX10_byTurns_39 ?_
        refine A_iconst X dX10_byTurns_42 ?_
        refine A_al0 X dX10_byTurns_43 ?_
        refine A_getf X flX10_19 h_this rfl dX10_byTurns_44 ?_
        refine A_getf X flX10_129 h_this_told rfl dX10_byTurns_47 ?_
        refine A_dVi2 X (n_setOf hg (by omega) hn hNw0) h_this_present knX3_setOf mlX10_132 dX10_byTurns_50 ?_
        refine A_il3 X dX10_byTurns_53 ?_
        refine A_il1 X dX10_byTurns_54 ?_
        refine A_iconst X dX10_byTurns_55 ?_
        refine A_dSNi5 X (ot _ (by omega)) knX4_outcome mlX10_181 dX10_byTurns_56 ?_
        refine A_is4 X dX10_byTurns_59 ?_
        obtain ⟨t1, t2, t3, t4⟩ := tr0 (by omega)
        refine A_il2 X dX10_byTurns_61 ?_
        refine A_iconst X dX10_byTurns_62 ?_
        refine A_icmp_ne (t := 86) X (by omega) (by omega) dX10_byTurns_63 (fun c63 => ?_) (fun c63 => ?_)
        · rw [show ((E : Nat) : Int) = (E : Int) from rfl]
          refine A_al0 X dX10_byTurns_86 ?_
          refine A_getf X flX10_19 h_this rfl dX10_byTurns_87 ?_
          refine A_il2 X dX10_byTurns_90 ?_
          refine A_al0 X dX10_byTurns_91 ?_
          refine A_getf X flX10_19 h_this rfl dX10_byTurns_92 ?_
          refine A_il2 X dX10_byTurns_95 ?_
          refine A_il4 X dX10_byTurns_96 ?_
          refine A_bipush X dX10_byTurns_98 ?_
          refine A_irem X (by omega) (by omega) dX10_byTurns_100 ?_
          rw [show (E : Int) % 64 = ((E % 64 : Nat) : Int) by omega]
          refine A_dVi2 X (c_ownIn (E % 64) rfl (by omega) hg ol.1 hC) h_this_told knX6_ownIn mlX10_185 dX10_byTurns_101 ?_
          refine A_dVi2 X (c_valueOf (oI fs w (E % 64)) rfl (by omega) hg (oI_lt hg ol.1) hC) h_this_told knX6_valueOf mlX10_120 dX10_byTurns_104 ?_
          rcases (show w = 0 ∨ w = 1 by omega) with q | q
          · subst q
            exact A_ret X dX10_byTurns_107 rfl ⟨congrArg (fun t => some (aI t)) (by rw [qTurns, if_pos (by omega), if_pos rfl, ← t1]; rfl), rfl, rfl⟩
          · subst q
            exact A_ret X dX10_byTurns_107 rfl ⟨congrArg (fun t => some (aI t)) (by rw [qTurns, if_pos (by omega), if_neg (by omega), if_pos rfl, ← t2]; rfl), rfl, rfl⟩
        · refine A_il4 X dX10_byTurns_66 ?_
          refine A_bipush X dX10_byTurns_68 ?_
          refine A_icmp_ge (t := 78) X (by omega) (by omega) dX10_byTurns_70 (fun c70 => ?_) (fun c70 => ?_)
          · refine A_il4 X dX10_byTurns_78 ?_
            refine A_bipush X dX10_byTurns_80 ?_
            refine A_idiv X (by omega) (by omega) dX10_byTurns_82 ?_
            refine A_iconst X dX10_byTurns_83 ?_
            refine A_isub X dX10_byTurns_84 ?_
            exact A_ret X dX10_byTurns_85 rfl ⟨congrArg (fun t => some (aI t)) (by rw [qTurns, if_pos (by omega), if_neg (by omega), if_neg (by omega), t3, if_neg (fun q => by have := e0 q; omega)]; omega), rfl, rfl⟩
          · refine A_bipush X dX10_byTurns_73 ?_
            refine A_goto (t := 85) X dX10_byTurns_75 ?_
            exact A_ret X dX10_byTurns_85 rfl ⟨congrArg (fun t => some (aI t)) (by rw [qTurns, if_pos (by omega), if_neg (by omega), if_neg (by omega), t3, if_pos (Decidable.byContradiction fun q => by have := t4 q; omega)]), rfl, rfl⟩
      · refine A_iconst X dX10_byTurns_16 ?_
        exact A_ret X dX10_byTurns_17 rfl ⟨congrArg (fun t => some (aI t)) (by rw [qTurns, if_neg (by omega)]), rfl, rfl⟩
theorem vW_all {fs : Int → Int} {side : Int} {g : Nat} : ∀ k : Nat, k ≤ g → vW fs side (2 ^ g - 1) k = aS fs side k
  | 0, _ => rfl
  | k + 1, hk => by
    have : hasB (2 ^ g - 1) k := by rw [hasT, Nat.testBit_two_pow_sub_one]; simp; omega
    rw [vW, aS, vW_all k (by omega), if_pos this]
set_option maxRecDepth 100000 in
theorem x_adds {G : aG} {d n : Nat} {h : AH} {xa : Nat} {fs fn fp fi fk ft fe : Int → Int} {un sz sm tr : Int} {side : Int} (hs : inR side) (hI : xI fs fn fe ft un sz sm) (hW : xW G xa h fs fn fp fi fk ft fe un sz sm tr) : aD G (d + 3) kX10_adds [.ref xa, aI side] n h (some (aI (qAdds fs side))) := by
  have hIq := hI; have hWq := hW; obtain ⟨hok, ⟨hn, hbz⟩, he, hun, ⟨z, hz, hz2, htk⟩, hsm, hse⟩ := hI; obtain ⟨su, dr, pl, ts, tk, nu, hT, cT, fo, ga, li, fd, e1, e2, e3, g1, g2, g3, hsd, h_this, hnu, h_this_text, h_this_text_letters, hC, hXd, hNw, hI0, hI1, h_this_partings, h_this_partings_own, h_this_partings_ahead, h_this_partings_sum, h_this_kinds, h_this_deeds, hHs, h_this_seenFoot, h_this_seenCell, h_this_seenWear, hSe, hJd⟩ := hW; have hNw0 := hNw; obtain ⟨no, nf, ⟨h_this_present, h_this_present_owner, h_this_present_feet⟩, hno, hnf⟩ := hNw; have h_this_told := suC_o hC; have hg := hok.1; have hal := al_b hg
  obtain ⟨fw, fq, fm, fv, hA, hr, hv⟩ := id hC
  have e := vW_all (fs := fs) (side := side) (g := (fs 0).toNat) (fs 0).toNat (Nat.le_refl _)
  rw [show 2 ^ (fs 0).toNat = al fs from rfl] at e
  refine aCt_of (lv := [some (.ref xa), some (aI side)]) knX10_adds.1 rfl rfl (Nat.le_of_ble_eq_true rfl) (fun x hG hsc X => ?_)
  subst hG
  refine A_il1 X dX10_adds_0 ?_
  refine A_dSi1 X (c_isSide hs) knX10_isSide mlX10_113 dX10_adds_1 ?_
  refine A_ifb_ne (t := 9) X dX10_adds_4 (fun c4 => ?_) (fun c4 => ?_)
  · refine A_al0 X dX10_adds_9 ?_
    refine A_getf X flX10_19 h_this rfl dX10_adds_10 ?_
    refine A_il1 X dX10_adds_13 ?_
    refine A_al0 X dX10_adds_14 ?_
    refine A_getf X flX10_19 h_this rfl dX10_adds_15 ?_
    refine A_dVi0 X (c_all2 hg hC) h_this_told knX6_all mlX10_116 dX10_adds_18 ?_
    refine A_dVi2 X (c_valueOf (al fs - 1) rfl c4 hg (by omega) hC) h_this_told knX6_valueOf mlX10_120 dX10_adds_21 ?_
    refine A_al0 X dX10_adds_24 ?_
    refine A_getf X flX10_19 h_this rfl dX10_adds_25 ?_
    refine A_il1 X dX10_adds_28 ?_
    refine A_al0 X dX10_adds_29 ?_
    refine A_getf X flX10_19 h_this rfl dX10_adds_30 ?_
    refine A_dVi0 X (c_all2 hg hC) h_this_told knX6_all mlX10_116 dX10_adds_33 ?_
    refine A_dVi2 X (c_worthAlone (al fs - 1) rfl (by omega) c4 hg hr hA) h_this_told knX6_worthAlone mlX10_201 dX10_adds_36 ?_
    have b1 := vl_b hok c4 (al fs - 1)
    have b2 := aS_b hok c4 (fs 0).toNat (by omega)
    rw [e]
    refine A_icmp_gt (t := 46) X (by omega) (by omega) dX10_adds_39 (fun c39 => ?_) (fun c39 => ?_)
    · refine A_iconst X dX10_adds_46 ?_
      exact A_ret X dX10_adds_47 rfl ⟨congrArg (fun t => some (aI t)) (by rw [qAdds, if_pos (by omega), bI_f (by omega)]), rfl, rfl⟩
    · refine A_iconst X dX10_adds_42 ?_
      refine A_goto (t := 47) X dX10_adds_43 ?_
      exact A_ret X dX10_adds_47 rfl ⟨congrArg (fun t => some (aI t)) (by rw [qAdds, if_pos (by omega), bI_t (by omega)]), rfl, rfl⟩
  · refine A_iconst X dX10_adds_7 ?_
    exact A_ret X dX10_adds_8 rfl ⟨congrArg (fun t => some (aI t)) (by rw [qAdds, if_neg (by omega)]), rfl, rfl⟩
set_option maxRecDepth 100000 in
theorem x_odds {G : aG} {d n : Nat} {h : AH} {xa : Nat} {fs fn fp fi fk ft fe : Int → Int} {un sz sm tr : Int} {p w : Int} (hp : inR p) (hw : inR w) (hI : xI fs fn fe ft un sz sm) (hW : xW G xa h fs fn fp fi fk ft fe un sz sm tr) : aD G (d + 5) kX10_odds [.ref xa, aI p, aI w] n h (some (aI (qOdds fs p w))) := by
  have hIq := hI; have hWq := hW; obtain ⟨hok, ⟨hn, hbz⟩, he, hun, ⟨z, hz, hz2, htk⟩, hsm, hse⟩ := hI; obtain ⟨su, dr, pl, ts, tk, nu, hT, cT, fo, ga, li, fd, e1, e2, e3, g1, g2, g3, hsd, h_this, hnu, h_this_text, h_this_text_letters, hC, hXd, hNw, hI0, hI1, h_this_partings, h_this_partings_own, h_this_partings_ahead, h_this_partings_sum, h_this_kinds, h_this_deeds, hHs, h_this_seenFoot, h_this_seenCell, h_this_seenWear, hSe, hJd⟩ := hW; have hNw0 := hNw; obtain ⟨no, nf, ⟨h_this_present, h_this_present_owner, h_this_present_feet⟩, hno, hnf⟩ := hNw; have h_this_told := suC_o hC; have hg := hok.1; have hal := al_b hg
  have hab := fun (q : 0 ≤ p ∧ p ≤ 10) => ab_b hg q (al fs)
  have h10 : 1 ≤ 10 ^ (fs 0).toNat ∧ 10 ^ (fs 0).toNat ≤ 1000000 := ⟨Nat.one_le_pow _ _ (by omega), Nat.pow_le_pow_right (n := 10) (by omega) (show (fs 0).toNat ≤ 6 by omega)⟩
  refine aCt_of (lv := [some (.ref xa), some (aI p), some (aI w), none, none, none]) knX10_odds.1 rfl rfl (Nat.le_of_ble_eq_true rfl) (fun x hG hsc X => ?_)
  subst hG
  refine A_il1 X dX10_odds_0 ?_
  refine A_if_lt (t := 19) X (by omega) dX10_odds_1 (fun c1 => ?_) (fun c1 => ?_)
  · refine A_iconst X dX10_odds_19 ?_
    exact A_ret X dX10_odds_20 rfl ⟨congrArg (fun t => some (aI t)) (by rw [qOdds, if_neg (by omega)]), rfl, rfl⟩
  · refine A_il1 X dX10_odds_4 ?_
    refine A_bipush X dX10_odds_5 ?_
    refine A_icmp_gt (t := 19) X (by omega) (by omega) dX10_odds_7 (fun c7 => ?_) (fun c7 => ?_)
    · refine A_iconst X dX10_odds_19 ?_
      exact A_ret X dX10_odds_20 rfl ⟨congrArg (fun t => some (aI t)) (by rw [qOdds, if_neg (by omega)]), rfl, rfl⟩
    · refine A_il2 X dX10_odds_10 ?_
      refine A_if_lt (t := 19) X (by omega) dX10_odds_11 (fun c11 => ?_) (fun c11 => ?_)
      · refine A_iconst X dX10_odds_19 ?_
        exact A_ret X dX10_odds_20 rfl ⟨congrArg (fun t => some (aI t)) (by rw [qOdds, if_neg (by omega)]), rfl, rfl⟩
      · refine A_il2 X dX10_odds_14 ?_
        refine A_iconst X dX10_odds_15 ?_
        refine A_icmp_le (t := 21) X (by omega) (by omega) dX10_odds_16 (fun c16 => ?_) (fun c16 => ?_)
        · refine A_al0 X dX10_odds_21 ?_
          refine A_getf X flX10_42 h_this rfl dX10_odds_22 ?_
          refine A_al0 X dX10_odds_25 ?_
          refine A_getf X flX10_19 h_this rfl dX10_odds_26 ?_
          refine A_il1 X dX10_odds_29 ?_
          refine A_dVi2 X (p_fairLots (by omega) hok hC h_this_partings) h_this_partings knX4_fairLots mlX10_204 dX10_odds_30 ?_
          refine A_is3 X dX10_odds_33 ?_
          refine A_bipush X dX10_odds_34 ?_
          refine A_al0 X dX10_odds_36 ?_
          refine A_getf X flX10_19 h_this rfl dX10_odds_37 ?_
          refine A_getf X flX10_129 h_this_told rfl dX10_odds_40 ?_
          refine A_dSi2 X (c_power (fs 0).toNat (by omega) (by omega)) knX10_power mlX10_207 dX10_odds_43 ?_
          have hb := hab (by omega)
          rw [show (10 : Int) ^ (fs 0).toNat = ((10 ^ (fs 0).toNat : Nat) : Int) by rw [Int.natCast_pow]; rfl]
          refine A_is4 X dX10_odds_46 ?_
          refine A_il3 X dX10_odds_48 ?_
          refine A_il4 X dX10_odds_49 ?_
          refine A_dSi2 X (c_gcd (ab fs p (al fs)).toNat (10 ^ (fs 0).toNat) (by omega) rfl (by omega) h10.2) knX10_greatestDivisor mlX10_210 dX10_odds_51 ?_
          have g1 : 1 ≤ Nat.gcd (ab fs p (al fs)).toNat (10 ^ (fs 0).toNat) := Nat.gcd_pos_of_pos_right _ (by omega)
          have g2 : Nat.gcd (ab fs p (al fs)).toNat (10 ^ (fs 0).toNat) ≤ 10 ^ (fs 0).toNat := Nat.gcd_le_right _ (by omega)
          refine A_is5 X dX10_odds_54 ?_
          refine A_il5 X dX10_odds_56 ?_
          refine A_iconst X dX10_odds_58 ?_
          refine A_icmp_ge (t := 65) X (by omega) (by omega) dX10_odds_59 (fun c59 => ?_) (fun c59 => by exfalso; omega)
          refine A_il2 X dX10_odds_65 ?_
          refine A_if_ne (t := 73) X (by omega) dX10_odds_66 (fun c66 => ?_) (fun c66 => ?_)
          · refine A_il4 X dX10_odds_73 ?_
            refine A_il5 X dX10_odds_75 ?_
            refine A_idiv X (by omega) (by omega) dX10_odds_77 ?_
            exact A_ret X dX10_odds_78 rfl ⟨congrArg (fun t => some (aI t)) (by first | rw [qOdds, if_pos (by omega), if_pos (by omega)] | rw [qOdds, if_pos (by omega), if_neg (by omega)]), rfl, rfl⟩
          · refine A_il3 X dX10_odds_69 ?_
            refine A_goto (t := 75) X dX10_odds_70 ?_
            refine A_il5 X dX10_odds_75 ?_
            refine A_idiv X (by omega) (by omega) dX10_odds_77 ?_
            exact A_ret X dX10_odds_78 rfl ⟨congrArg (fun t => some (aI t)) (by first | rw [qOdds, if_pos (by omega), if_pos (by omega)] | rw [qOdds, if_pos (by omega), if_neg (by omega)]), rfl, rfl⟩
        · refine A_iconst X dX10_odds_19 ?_
          exact A_ret X dX10_odds_20 rfl ⟨congrArg (fun t => some (aI t)) (by rw [qOdds, if_neg (by omega)]), rfl, rfl⟩
set_option maxRecDepth 100000 in
theorem x_foot {G : aG} {d n : Nat} {h : AH} {xa : Nat} {fs fn fp fi fk ft fe : Int → Int} {un sz sm tr : Int} {i : Int} (hi : inR i) (hI : xI fs fn fe ft un sz sm) (hW : xW G xa h fs fn fp fi fk ft fe un sz sm tr) : aD G (d + 1) kX10_foot [.ref xa, aI i] n h (some (aI (qFoot fn i))) := by
  have hIq := hI; have hWq := hW; obtain ⟨hok, ⟨hn, hbz⟩, he, hun, ⟨z, hz, hz2, htk⟩, hsm, hse⟩ := hI; obtain ⟨su, dr, pl, ts, tk, nu, hT, cT, fo, ga, li, fd, e1, e2, e3, g1, g2, g3, hsd, h_this, hnu, h_this_text, h_this_text_letters, hC, hXd, hNw, hI0, hI1, h_this_partings, h_this_partings_own, h_this_partings_ahead, h_this_partings_sum, h_this_kinds, h_this_deeds, hHs, h_this_seenFoot, h_this_seenCell, h_this_seenWear, hSe, hJd⟩ := hW; have hNw0 := hNw; obtain ⟨no, nf, ⟨h_this_present, h_this_present_owner, h_this_present_feet⟩, hno, hnf⟩ := hNw; have h_this_told := suC_o hC; have hg := hok.1; have hal := al_b hg
  have h60 := hn.2.1
  refine aCt_of (lv := [some (.ref xa), some (aI i)]) knX10_foot.1 rfl rfl (Nat.le_of_ble_eq_true rfl) (fun x hG hsc X => ?_)
  subst hG
  refine A_il1 X dX10_foot_0 ?_
  refine A_if_lt (t := 15) X (by omega) dX10_foot_1 (fun c1 => ?_) (fun c1 => ?_)
  · refine A_iconst X dX10_foot_15 ?_
    refine A_goto (t := 27) X dX10_foot_16 ?_
    exact A_ret X dX10_foot_27 rfl ⟨congrArg (fun t => some (aI t)) (by first | rw [qFoot, if_neg (by omega)] | (rw [qFoot, if_pos (by omega), ← hnf i.toNat (by omega)]; congr 1; omega)), rfl, rfl⟩
  · refine A_il1 X dX10_foot_4 ?_
    refine A_al0 X dX10_foot_5 ?_
    refine A_getf X flX10_29 h_this rfl dX10_foot_6 ?_
    refine A_getf X flX10_123 h_this_present rfl dX10_foot_9 ?_
    refine A_icmp_lt (t := 19) X (by omega) (by omega) dX10_foot_12 (fun c12 => ?_) (fun c12 => ?_)
    · refine A_al0 X dX10_foot_19 ?_
      refine A_getf X flX10_29 h_this rfl dX10_foot_20 ?_
      refine A_il1 X dX10_foot_23 ?_
      refine A_dVi1 X (c_footOf (by omega) h_this_present h_this_present_feet) h_this_present knX3_footOf mlX10_213 dX10_foot_24 ?_
      exact A_ret X dX10_foot_27 rfl ⟨congrArg (fun t => some (aI t)) (by first | rw [qFoot, if_neg (by omega)] | (rw [qFoot, if_pos (by omega), ← hnf i.toNat (by omega)]; congr 1; omega)), rfl, rfl⟩
    · refine A_iconst X dX10_foot_15 ?_
      refine A_goto (t := 27) X dX10_foot_16 ?_
      exact A_ret X dX10_foot_27 rfl ⟨congrArg (fun t => some (aI t)) (by first | rw [qFoot, if_neg (by omega)] | (rw [qFoot, if_pos (by omega), ← hnf i.toNat (by omega)]; congr 1; omega)), rfl, rfl⟩
theorem flp_no (ft : Nat → Int) : flp ft (-1) = ft := by
  funext i
  unfold flp
  rw [if_neg (by omega)]
set_option maxRecDepth 100000 in
theorem x_worn {G : aG} {d n : Nat} {h : AH} {xa : Nat} {fs fn fp fi fk ft fe : Int → Int} {un sz sm tr : Int} {foot cell : Int} (hf : inR foot) (hc : inR cell) (hI : xI fs fn fe ft un sz sm) (hW : xW G xa h fs fn fp fi fk ft fe un sz sm tr) : aD G (d + 2) kX10_worn [.ref xa, aI foot, aI cell] n h (some (aI (qWorn fs fn foot cell))) := by
  have hIq := hI; have hWq := hW; obtain ⟨hok, ⟨hn, hbz⟩, he, hun, ⟨z, hz, hz2, htk⟩, hsm, hse⟩ := hI; obtain ⟨su, dr, pl, ts, tk, nu, hT, cT, fo, ga, li, fd, e1, e2, e3, g1, g2, g3, hsd, h_this, hnu, h_this_text, h_this_text_letters, hC, hXd, hNw, hI0, hI1, h_this_partings, h_this_partings_own, h_this_partings_ahead, h_this_partings_sum, h_this_kinds, h_this_deeds, hHs, h_this_seenFoot, h_this_seenCell, h_this_seenWear, hSe, hJd⟩ := hW; have hNw0 := hNw; obtain ⟨no, nf, ⟨h_this_present, h_this_present_owner, h_this_present_feet⟩, hno, hnf⟩ := hNw; have h_this_told := suC_o hC; have hg := hok.1; have hal := al_b hg
  have h3 := hok.2.2.2.1
  have hk := n_k hn
  have cb := cnt_b (mF fn) foot (fn 6).toNat
  refine aCt_of (lv := [some (.ref xa), some (aI foot), some (aI cell)]) knX10_worn.1 rfl rfl (Nat.le_of_ble_eq_true rfl) (fun x hG hsc X => ?_)
  subst hG
  refine A_il1 X dX10_worn_0 ?_
  refine A_dSi1 X (c_isSide hf) knX10_isSide mlX10_113 dX10_worn_1 ?_
  refine A_ifb_eq (t := 15) X dX10_worn_4 (fun c4 => ?_) (fun c4 => ?_)
  · refine A_iconst X dX10_worn_15 ?_
    exact A_ret X dX10_worn_16 rfl ⟨congrArg (fun t => some (aI t)) (by rw [qWorn, if_neg (by omega)]), rfl, rfl⟩
  · refine A_al0 X dX10_worn_7 ?_
    refine A_il2 X dX10_worn_8 ?_
    refine A_dVi1 X (x_isCell hc hIq hWq) h_this knX10_isCell mlX10_216 dX10_worn_9 ?_
    refine A_ifb_ne (t := 17) X dX10_worn_12 (fun c12 => ?_) (fun c12 => ?_)
    · refine A_al0 X dX10_worn_17 ?_
      refine A_getf X flX10_19 h_this rfl dX10_worn_18 ?_
      refine A_al0 X dX10_worn_21 ?_
      refine A_getf X flX10_29 h_this rfl dX10_worn_22 ?_
      refine A_il1 X dX10_worn_25 ?_
      refine A_dVi1 X (n_stepsOf hf hn hNw0) h_this_present knX3_stepsOf mlX10_143 dX10_worn_26 ?_
      refine A_il2 X dX10_worn_29 ?_
      refine A_dVi2 X (c_wear h3 (by omega) (by omega) hC) h_this_told knX6_wear mlX10_152 dX10_worn_30 ?_
      exact A_ret X dX10_worn_33 rfl ⟨congrArg (fun t => some (aI t)) (by rw [qWorn, if_pos (by omega), flp_no, wrn_wr h3 (by omega)]), rfl, rfl⟩
    · refine A_iconst X dX10_worn_15 ?_
      exact A_ret X dX10_worn_16 rfl ⟨congrArg (fun t => some (aI t)) (by rw [qWorn, if_neg (by omega)]), rfl, rfl⟩
set_option maxRecDepth 100000 in
theorem x_judge {G : aG} {d n : Nat} {h : AH} {xa : Nat} {fs fn fp fi fk ft fe : Int → Int} {un sz sm tr : Int} {w : Int} (hw : inR w) (hI : xI fs fn fe ft un sz sm) (hW : xW G xa h fs fn fp fi fk ft fe un sz sm tr) : aD G (d + 3) kX10_judge [.ref xa, aI w] n h (some (aI (qJudge fs fn w))) := by
  have hIq := hI; have hWq := hW; obtain ⟨hok, ⟨hn, hbz⟩, he, hun, ⟨z, hz, hz2, htk⟩, hsm, hse⟩ := hI; obtain ⟨su, dr, pl, ts, tk, nu, hT, cT, fo, ga, li, fd, e1, e2, e3, g1, g2, g3, hsd, h_this, hnu, h_this_text, h_this_text_letters, hC, hXd, hNw, hI0, hI1, h_this_partings, h_this_partings_own, h_this_partings_ahead, h_this_partings_sum, h_this_kinds, h_this_deeds, hHs, h_this_seenFoot, h_this_seenCell, h_this_seenWear, hSe, hJd⟩ := hW; have hNw0 := hNw; obtain ⟨no, nf, ⟨h_this_present, h_this_present_owner, h_this_present_feet⟩, hno, hnf⟩ := hNw; have h_this_told := suC_o hC; have hg := hok.1; have hal := al_b hg
  have h2 := hok.2.2.1
  have hk := n_k hn
  obtain ⟨r1, r2, r3, r4⟩ := rn_cg (hp := fs 2) (fn 6).toNat (n_g hnf)
  refine aCt_of (lv := [some (.ref xa), some (aI w)]) knX10_judge.1 rfl rfl (Nat.le_of_ble_eq_true rfl) (fun x hG hsc X => ?_)
  subst hG
  refine A_il1 X dX10_judge_0 ?_
  refine A_if_lt (t := 9) X (by omega) dX10_judge_1 (fun c1 => ?_) (fun c1 => ?_)
  · refine A_iconst X dX10_judge_9 ?_
    exact A_ret X dX10_judge_10 rfl ⟨congrArg (fun t => some (aI t)) (by rw [qJudge, if_neg (by omega)]), rfl, rfl⟩
  · refine A_il1 X dX10_judge_4 ?_
    refine A_iconst X dX10_judge_5 ?_
    refine A_icmp_le (t := 11) X (by omega) (by omega) dX10_judge_6 (fun c6 => ?_) (fun c6 => ?_)
    · refine A_il1 X dX10_judge_11 ?_
      refine A_if_ne (t := 32) X (by omega) dX10_judge_12 (fun c12 => ?_) (fun c12 => ?_)
      · refine A_il1 X dX10_judge_32 ?_
        refine A_iconst X dX10_judge_33 ?_
        refine A_icmp_ne (t := 47) X (by omega) (by omega) dX10_judge_34 (fun c34 => ?_) (fun c34 => ?_)
        · refine A_al0 X dX10_judge_47 ?_
          refine A_getf X flX10_29 h_this rfl dX10_judge_48 ?_
          refine A_dVi0 X (c_changes (fn 6).toNat hk.1 hk.2 (n_f hnf) h_this_present h_this_present_feet) h_this_present knX3_changes mlX10_228 dX10_judge_51 ?_
          exact A_ret X dX10_judge_54 rfl ⟨congrArg (fun t => some (aI t)) (by first | rw [qJudge, if_pos (by omega), if_neg (by omega), if_pos (by omega), r3] | rw [qJudge, if_pos (by omega), if_neg (by omega), if_neg (by omega), r4]), rfl, rfl⟩
        · refine A_al0 X dX10_judge_37 ?_
          refine A_getf X flX10_29 h_this rfl dX10_judge_38 ?_
          refine A_dVi0 X (c_longestRun (fn 6).toNat hk.1 hk.2 (n_f hnf) h_this_present h_this_present_feet) h_this_present knX3_longestRun mlX10_225 dX10_judge_41 ?_
          refine A_goto (t := 54) X dX10_judge_44 ?_
          exact A_ret X dX10_judge_54 rfl ⟨congrArg (fun t => some (aI t)) (by first | rw [qJudge, if_pos (by omega), if_neg (by omega), if_pos (by omega), r3] | rw [qJudge, if_pos (by omega), if_neg (by omega), if_neg (by omega), r4]), rfl, rfl⟩
      · refine A_al0 X dX10_judge_15 ?_
        refine A_getf X flX10_29 h_this rfl dX10_judge_16 ?_
        refine A_al0 X dX10_judge_19 ?_
        refine A_getf X flX10_19 h_this rfl dX10_judge_20 ?_
        refine A_getf X flX10_219 h_this_told rfl dX10_judge_23 ?_
        refine A_iconst X dX10_judge_26 ?_
        refine A_iadd X dX10_judge_27 ?_
        refine A_dVi1 X (c_firstRunOver (fn 6).toNat hk.1 hk.2 (n_f hnf) h2 h_this_present h_this_present_feet) h_this_present knX3_firstRunOver mlX10_222 dX10_judge_28 ?_
        exact A_ret X dX10_judge_31 rfl ⟨congrArg (fun t => some (aI t)) (by rw [qJudge, if_pos (by omega), if_pos (by omega), r2]), rfl, rfl⟩
    · refine A_iconst X dX10_judge_9 ?_
      exact A_ret X dX10_judge_10 rfl ⟨congrArg (fun t => some (aI t)) (by rw [qJudge, if_neg (by omega)]), rfl, rfl⟩
set_option maxRecDepth 100000 in
theorem x_count {G : aG} {d n : Nat} {h : AH} {xa : Nat} {fs fn fp fi fk ft fe : Int → Int} {un sz sm tr : Int} {w : Int} (hw : inR w) (hI : xI fs fn fe ft un sz sm) (hW : xW G xa h fs fn fp fi fk ft fe un sz sm tr) : aD G d kX10_count [.ref xa, aI w] n h (some (aI (qCount fs sm sz w))) := by
  have hIq := hI; have hWq := hW; obtain ⟨hok, ⟨hn, hbz⟩, he, hun, ⟨z, hz, hz2, htk⟩, hsm, hse⟩ := hI; obtain ⟨su, dr, pl, ts, tk, nu, hT, cT, fo, ga, li, fd, e1, e2, e3, g1, g2, g3, hsd, h_this, hnu, h_this_text, h_this_text_letters, hC, hXd, hNw, hI0, hI1, h_this_partings, h_this_partings_own, h_this_partings_ahead, h_this_partings_sum, h_this_kinds, h_this_deeds, hHs, h_this_seenFoot, h_this_seenCell, h_this_seenWear, hSe, hJd⟩ := hW; have hNw0 := hNw; obtain ⟨no, nf, ⟨h_this_present, h_this_present_owner, h_this_present_feet⟩, hno, hnf⟩ := hNw; have h_this_told := suC_o hC; have hg := hok.1; have hal := al_b hg
  refine aCt_of (lv := [some (.ref xa), some (aI w)]) knX10_count.1 rfl rfl (Nat.le_of_ble_eq_true rfl) (fun x hG hsc X => ?_)
  subst hG
  refine A_il1 X dX10_count_0 ?_
  rcases (show (w) < 0 ∨ (w) > 5 ∨ (w) = 0 ∨ (w) = 1 ∨ (w) = 2 ∨ (w) = 3 ∨ (w) = 4 ∨ (w) = 5 by omega) with c1 | c1 | c1 | c1 | c1 | c1 | c1 | c1
  · refine A_tabOut (t := 85) X (by omega) dX10_count_1 (by omega) ?_
    refine A_iconst X dX10_count_85 ?_
    exact A_ret X dX10_count_86 rfl ⟨congrArg (fun t => some (aI t)) (by rw [qCount, if_neg (by omega), if_neg (by omega), if_neg (by omega)]), rfl, rfl⟩
  · refine A_tabOut (t := 85) X (by omega) dX10_count_1 (by omega) ?_
    refine A_iconst X dX10_count_85 ?_
    exact A_ret X dX10_count_86 rfl ⟨congrArg (fun t => some (aI t)) (by rw [qCount, if_neg (by omega), if_neg (by omega), if_neg (by omega)]), rfl, rfl⟩
  · refine A_tabIn (t := 40) X (by omega) dX10_count_1 0 (by omega) (by omega) rfl ?_
    refine A_al0 X dX10_count_40 ?_
    refine A_getf X flX10_19 h_this rfl dX10_count_41 ?_
    refine A_getf X flX10_129 h_this_told rfl dX10_count_44 ?_
    exact A_ret X dX10_count_47 rfl ⟨congrArg (fun t => some (aI t)) (by rw [qCount, if_pos (by omega), c1]), rfl, rfl⟩
  · refine A_tabIn (t := 48) X (by omega) dX10_count_1 1 (by omega) (by omega) rfl ?_
    refine A_al0 X dX10_count_48 ?_
    refine A_getf X flX10_19 h_this rfl dX10_count_49 ?_
    refine A_getf X flX10_258 h_this_told rfl dX10_count_52 ?_
    exact A_ret X dX10_count_55 rfl ⟨congrArg (fun t => some (aI t)) (by rw [qCount, if_pos (by omega), c1]), rfl, rfl⟩
  · refine A_tabIn (t := 56) X (by omega) dX10_count_1 2 (by omega) (by omega) rfl ?_
    refine A_al0 X dX10_count_56 ?_
    refine A_getf X flX10_19 h_this rfl dX10_count_57 ?_
    refine A_getf X flX10_219 h_this_told rfl dX10_count_60 ?_
    exact A_ret X dX10_count_63 rfl ⟨congrArg (fun t => some (aI t)) (by rw [qCount, if_pos (by omega), c1]), rfl, rfl⟩
  · refine A_tabIn (t := 64) X (by omega) dX10_count_1 3 (by omega) (by omega) rfl ?_
    refine A_al0 X dX10_count_64 ?_
    refine A_getf X flX10_19 h_this rfl dX10_count_65 ?_
    refine A_getf X flX10_261 h_this_told rfl dX10_count_68 ?_
    exact A_ret X dX10_count_71 rfl ⟨congrArg (fun t => some (aI t)) (by rw [qCount, if_pos (by omega), c1]), rfl, rfl⟩
  · refine A_tabIn (t := 72) X (by omega) dX10_count_1 4 (by omega) (by omega) rfl ?_
    refine A_al0 X dX10_count_72 ?_
    refine A_getf X flX10_231 h_this rfl dX10_count_73 ?_
    exact A_ret X dX10_count_76 rfl ⟨congrArg (fun t => some (aI t)) (by rw [qCount, if_neg (by omega), if_pos (by omega)]), rfl, rfl⟩
  · refine A_tabIn (t := 77) X (by omega) dX10_count_1 5 (by omega) (by omega) rfl ?_
    refine A_al0 X dX10_count_77 ?_
    refine A_getf X flX10_12 h_this rfl dX10_count_78 ?_
    refine A_getf X flX10_88 h_this_text rfl dX10_count_81 ?_
    exact A_ret X dX10_count_84 rfl ⟨congrArg (fun t => some (aI t)) (by rw [qCount, if_neg (by omega), if_neg (by omega), if_pos (by omega)]), rfl, rfl⟩
set_option maxRecDepth 100000 in
theorem x_trace {G : aG} {d n : Nat} {h : AH} {xa : Nat} {fs fn fp fi fk ft fe : Int → Int} {un sz sm tr : Int} (hI : xI fs fn fe ft un sz sm) (hW : xW G xa h fs fn fp fi fk ft fe un sz sm tr) : aD G d kX10_trace [.ref xa] n h (some (aL tr)) := by
  have hIq := hI; have hWq := hW; obtain ⟨hok, ⟨hn, hbz⟩, he, hun, ⟨z, hz, hz2, htk⟩, hsm, hse⟩ := hI; obtain ⟨su, dr, pl, ts, tk, nu, hT, cT, fo, ga, li, fd, e1, e2, e3, g1, g2, g3, hsd, h_this, hnu, h_this_text, h_this_text_letters, hC, hXd, hNw, hI0, hI1, h_this_partings, h_this_partings_own, h_this_partings_ahead, h_this_partings_sum, h_this_kinds, h_this_deeds, hHs, h_this_seenFoot, h_this_seenCell, h_this_seenWear, hSe, hJd⟩ := hW; have hNw0 := hNw; obtain ⟨no, nf, ⟨h_this_present, h_this_present_owner, h_this_present_feet⟩, hno, hnf⟩ := hNw; have h_this_told := suC_o hC; have hg := hok.1; have hal := al_b hg
  refine aCt_of (lv := [some (.ref xa)]) knX10_trace.1 rfl rfl (Nat.le_of_ble_eq_true rfl) (fun x hG hsc X => ?_)
  subst hG
  refine A_al0 X dX10_trace_0 ?_
  refine A_getf X flX10_264 h_this rfl dX10_trace_1 ?_
  exact A_retl X dX10_trace_4 rfl ⟨rfl, rfl, rfl⟩
