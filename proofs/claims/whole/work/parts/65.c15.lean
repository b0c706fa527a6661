/-! the class: what is done -/
set_option maxRecDepth 100000 in
theorem r_add {G : aG} {d n : Nat} {h : AH} {ra : Nat} {sz pl ts tk nu hT cT l : Int} {ft : Int → Int} (hz : 0 ≤ sz ∧ sz ≤ 200) (h_this : h ra = some (aOb 5 (rO ra sz pl ts tk nu hT cT))) (h_this_letters : h (ra + 1) = some (aIa G 200 ft)) : aE G d kX5_add [.ref ra, aI l] n h (some (aI (bI (sz ≠ 200)))) (fun h' => h' ra = some (aOb 5 (rO ra (if sz ≠ 200 then sz + 1 else sz) pl ts tk nu hT cT)) ∧ h' (ra + 1) = some (aIa G 200 (if sz ≠ 200 then aiu ft sz l else ft)) ∧ ∀ q, q ≠ ra → q ≠ ra + 1 → h' q = h q) := by
  refine aCt_of (lv := [some (.ref ra), some (aI l)]) knX5_add.1 rfl rfl (Nat.le_of_ble_eq_true rfl) (fun x hG hsc X => ?_)
  subst hG
  refine A_al0 X dX5_add_0 ?_
  refine A_getf X flX5_15 h_this rfl dX5_add_1 ?_
  refine A_if_lt (t := 17) X (by omega) dX5_add_4 (fun c4 => by exfalso; omega) (fun c4 => ?_)
  refine A_al0 X dX5_add_7 ?_
  refine A_getf X flX5_15 h_this rfl dX5_add_8 ?_
  refine A_sipush X dX5_add_11 ?_
  refine A_icmp_lt (t := 19) X (by omega) (by omega) dX5_add_14 (fun c14 => ?_) (fun c14 => ?_)
  · refine A_al0 X dX5_add_19 ?_
    refine A_getf X flX5_9 h_this rfl dX5_add_20 ?_
    refine A_al0 X dX5_add_23 ?_
    refine A_getf X flX5_15 h_this rfl dX5_add_24 ?_
    refine A_il1 X dX5_add_27 ?_
    refine A_iast X h_this_letters (by omega) dX5_add_28 ?_
    refine A_gen (fun h28 e28 k28 q28 => ?_)
    have h_this := (k28 _ (by omega)).trans h_this
    have h_this_letters := e28
    refine A_al0 X dX5_add_29 ?_
    refine A_dup X dX5_add_30 ?_
    refine A_getf X flX5_15 h_this rfl dX5_add_31 ?_
    refine A_iconst X dX5_add_34 ?_
    refine A_iadd X dX5_add_35 ?_
    refine A_putf X flX5_15 h_this dX5_add_36 ?_
    refine A_gen (fun h36 e36 k36 q36 => ?_)
    have h_this := e36
    have h_this_letters := (k36 _ (by omega)).trans h_this_letters
    refine A_iconst X dX5_add_39 ?_
    exact A_retz X dX5_add_40 rfl (Or.inr rfl) ⟨bI_1 (by omega), rfl, by rw [if_pos (by omega)]; exact h_this, by rw [if_pos (by omega)]; exact h_this_letters, fun q a b => by rw [k36 q a, k28 q b]⟩
  · refine A_iconst X dX5_add_17 ?_
    exact A_retz X dX5_add_18 rfl (Or.inl rfl) ⟨bI_0 (by omega), rfl, by rw [if_neg (by omega)]; exact h_this, by rw [if_neg (by omega)]; exact h_this_letters, fun _ _ _ => rfl⟩
set_option maxRecDepth 100000 in
theorem r_empty {G : aG} {d n : Nat} {h : AH} {ra : Nat} {sz pl ts tk nu hT cT : Int} (h_this : h ra = some (aOb 5 (rO ra sz pl ts tk nu hT cT))) : aE G d kX5_empty [.ref ra] n h none (fun h' => h' ra = some (aOb 5 (rO ra 0 pl ts tk nu hT cT)) ∧ ∀ q, q ≠ ra → h' q = h q) := by
  refine aCt_of (lv := [some (.ref ra)]) knX5_empty.1 rfl rfl (Nat.le_of_ble_eq_true rfl) (fun x hG hsc X => ?_)
  subst hG
  refine A_al0 X dX5_empty_0 ?_
  refine A_iconst X dX5_empty_1 ?_
  refine A_putf X flX5_15 h_this dX5_empty_2 ?_
  refine A_gen (fun h2 e2 k2 q2 => ?_)
  have h_this := e2
  exact A_retv X dX5_empty_5 rfl ⟨rfl, rfl, h_this, k2⟩
set_option maxRecDepth 100000 in
theorem x_type {G : aG} {d n : Nat} {h : AH} {xa : Nat} {fs fn fp fi fk ft fe : Int → Int} {un sz sm tr : Int} {l : Int} (hl : inR l) (hI : xI fs fn fe ft un sz sm) (hW : xW G xa h fs fn fp fi fk ft fe un sz sm tr) : aE G (d + 1) kX10_type [.ref xa, aI l] n h (some (aI (qType l sz))) (fun h' => xFr xa h h' ∧ xW G xa h' fs fn fp fi fk (if okTy l sz then aiu ft sz l else ft) fe un (if okTy l sz then sz + 1 else sz) sm tr) := by
  have hIq := hI; have hWq := hW; obtain ⟨hok, ⟨hn, hbz⟩, he, hun, ⟨z, hz, hz2, htk⟩, hsm, hse⟩ := hI; obtain ⟨su, dr, pl, ts, tk, nu, hT, cT, fo, ga, li, fd, e1, e2, e3, g1, g2, g3, hsd, h_this, hnu, h_this_text, h_this_text_letters, hC, hXd, hNw, hI0, hI1, h_this_partings, h_this_partings_own, h_this_partings_ahead, h_this_partings_sum, h_this_kinds, h_this_deeds, hHs, h_this_seenFoot, h_this_seenCell, h_this_seenWear, hSe, hJd⟩ := hW; have hNw0 := hNw; obtain ⟨no, nf, ⟨h_this_present, h_this_present_owner, h_this_present_feet⟩, hno, hnf⟩ := hNw; have h_this_told := suC_o hC; have hg := hok.1; have hal := al_b hg
  refine aCt_of (lv := [some (.ref xa), some (aI l)]) knX10_type.1 rfl rfl (Nat.le_of_ble_eq_true rfl) (fun x hG hsc X => ?_)
  subst hG
  refine A_il1 X dX10_type_0 ?_
  refine A_if_lt (t := 11) X (by omega) dX10_type_1 (fun c1 => ?_) (fun c1 => ?_)
  · refine A_iconst X dX10_type_11 ?_
    exact A_ret X dX10_type_12 rfl ⟨congrArg (fun t => some (aI t)) (by rw [qType, if_neg (by omega)]), rfl, fun _ _ => rfl, by rw [if_neg (by omega), if_neg (by omega)]; exact hWq⟩
  · refine A_il1 X dX10_type_4 ?_
    refine A_sipush X dX10_type_5 ?_
    refine A_icmp_le (t := 13) X (by omega) (by omega) dX10_type_8 (fun c8 => ?_) (fun c8 => ?_)
    · refine A_al0 X dX10_type_13 ?_
      refine A_getf X flX10_12 h_this rfl dX10_type_14 ?_
      refine A_il1 X dX10_type_17 ?_
      refine A_eVi1 X (r_add (by omega) h_this_text h_this_text_letters) h_this_text knX5_add mlX10_84 dX10_type_18 (fun h18 p18 => ?_)
      obtain ⟨r1, r2, hq0⟩ := p18
      have h_this_text := r1
      have hq : ∀ q, q ≠ xa + 1 ∧ q ≠ xa + 2 → h18 q = h q := fun q a => hq0 q a.1 a.2
      have h_this2 := (hq _ (by omega)).trans h_this
      refine A_ifb_eq (t := 34) X dX10_type_21 (fun c21 => ?_) (fun c21 => ?_)
      · refine A_bipush X dX10_type_34 ?_
        have hqz : sz = 200 := by omega
        rw [if_neg (by omega)] at r1 r2
        exact A_ret X dX10_type_36 rfl ⟨congrArg (fun t => some (aI t)) (by rw [qType, if_pos (by omega), if_pos (by omega)]), rfl, fun q a => hq q (by omega), by rw [if_neg (by omega), if_neg (by omega)]; exact ⟨su, dr, pl, ts, tk, nu, hT, cT, fo, ga, li, fd, e1, e2, e3, g1, g2, g3, hsd, (hq _ (by omega)).trans h_this, hnu, r1, r2, suC_fr hC (fun q a b => hq q (by omega)), suX_fr hXd (fun q a b => hq q (by omega)), nowC_fr hNw0 (fun q a b => hq q (by omega)), imC_fr hI0 (fun q a b => hq q (by omega)), imC_fr hI1 (fun q a b => hq q (by omega)), (hq _ (by omega)).trans h_this_partings, (hq _ (by omega)).trans h_this_partings_own, (hq _ (by omega)).trans h_this_partings_ahead, (hq _ (by omega)).trans h_this_partings_sum, (hq _ (by omega)).trans h_this_kinds, (hq _ (by omega)).trans h_this_deeds, hHs, (hq _ (by omega)).trans h_this_seenFoot, (hq _ (by omega)).trans h_this_seenCell, (hq _ (by omega)).trans h_this_seenWear, hSe, jdC_fr hJd (fun q a b => hq q (by omega))⟩⟩
      · have h_this := h_this2
        refine A_al0 X dX10_type_24 ?_
        refine A_getf X flX10_12 h_this rfl dX10_type_25 ?_
        refine A_getf X flX10_88 h_this_text rfl dX10_type_28 ?_
        refine A_goto (t := 36) X dX10_type_31 ?_
        rw [if_pos (by omega)] at r1 r2
        rw [if_pos (by omega)]
        exact A_ret X dX10_type_36 rfl ⟨congrArg (fun t => some (aI t)) (by rw [qType, if_pos (by omega), if_neg (by omega)]), rfl, fun q a => hq q (by omega), by rw [if_pos (by omega), if_pos (by omega)]; exact ⟨su, dr, pl, ts, tk, nu, hT, cT, fo, ga, li, fd, e1, e2, e3, g1, g2, g3, hsd, h_this2, hnu, r1, r2, suC_fr hC (fun q a b => hq q (by omega)), suX_fr hXd (fun q a b => hq q (by omega)), nowC_fr hNw0 (fun q a b => hq q (by omega)), imC_fr hI0 (fun q a b => hq q (by omega)), imC_fr hI1 (fun q a b => hq q (by omega)), (hq _ (by omega)).trans h_this_partings, (hq _ (by omega)).trans h_this_partings_own, (hq _ (by omega)).trans h_this_partings_ahead, (hq _ (by omega)).trans h_this_partings_sum, (hq _ (by omega)).trans h_this_kinds, (hq _ (by omega)).trans h_this_deeds, hHs, (hq _ (by omega)).trans h_this_seenFoot, (hq _ (by omega)).trans h_this_seenCell, (hq _ (by omega)).trans h_this_seenWear, hSe, jdC_fr hJd (fun q a b => hq q (by omega))⟩⟩
    · refine A_iconst X dX10_type_11 ?_
      exact A_ret X dX10_type_12 rfl ⟨congrArg (fun t => some (aI t)) (by rw [qType, if_neg (by omega)]), rfl, fun _ _ => rfl, by rw [if_neg (by omega), if_neg (by omega)]; exact hWq⟩
set_option maxRecDepth 100000 in
theorem x_clear {G : aG} {d n : Nat} {h : AH} {xa : Nat} {fs fn fp fi fk ft fe : Int → Int} {un sz sm tr : Int} (hI : xI fs fn fe ft un sz sm) (hW : xW G xa h fs fn fp fi fk ft fe un sz sm tr) : aE G (d + 1) kX10_clear [.ref xa] n h (some (aI sz)) (fun h' => xFr xa h h' ∧ xW G xa h' fs fn fp fi fk ft fe un (0) sm tr) := by
  have hIq := hI; have hWq := hW; obtain ⟨hok, ⟨hn, hbz⟩, he, hun, ⟨z, hz, hz2, htk⟩, hsm, hse⟩ := hI; obtain ⟨su, dr, pl, ts, tk, nu, hT, cT, fo, ga, li, fd, e1, e2, e3, g1, g2, g3, hsd, h_this, hnu, h_this_text, h_this_text_letters, hC, hXd, hNw, hI0, hI1, h_this_partings, h_this_partings_own, h_this_partings_ahead, h_this_partings_sum, h_this_kinds, h_this_deeds, hHs, h_this_seenFoot, h_this_seenCell, h_this_seenWear, hSe, hJd⟩ := hW; have hNw0 := hNw; obtain ⟨no, nf, ⟨h_this_present, h_this_present_owner, h_this_present_feet⟩, hno, hnf⟩ := hNw; have h_this_told := suC_o hC; have hg := hok.1; have hal := al_b hg
  refine aCt_of (lv := [some (.ref xa), none]) knX10_clear.1 rfl rfl (Nat.le_of_ble_eq_true rfl) (fun x hG hsc X => ?_)
  subst hG
  refine A_al0 X dX10_clear_0 ?_
  refine A_getf X flX10_12 h_this rfl dX10_clear_1 ?_
  refine A_getf X flX10_88 h_this_text rfl dX10_clear_4 ?_
  refine A_is1 X dX10_clear_7 ?_
  refine A_al0 X dX10_clear_8 ?_
  refine A_getf X flX10_12 h_this rfl dX10_clear_9 ?_
  refine A_eVv0 X (r_empty h_this_text) h_this_text knX5_empty mlX10_92 dX10_clear_12 (fun h12 p12 => ?_)
  obtain ⟨r1, hq⟩ := p12
  refine A_il1 X dX10_clear_15 ?_
  exact A_ret X dX10_clear_16 rfl ⟨rfl, rfl, fun q a => hq q (by omega), ⟨su, dr, pl, ts, tk, nu, hT, cT, fo, ga, li, fd, e1, e2, e3, g1, g2, g3, hsd, (hq _ (by omega)).trans h_this, hnu, r1, (hq _ (by omega)).trans h_this_text_letters, suC_fr hC (fun q a b => hq q (by omega)), suX_fr hXd (fun q a b => hq q (by omega)), nowC_fr hNw0 (fun q a b => hq q (by omega)), imC_fr hI0 (fun q a b => hq q (by omega)), imC_fr hI1 (fun q a b => hq q (by omega)), (hq _ (by omega)).trans h_this_partings, (hq _ (by omega)).trans h_this_partings_own, (hq _ (by omega)).trans h_this_partings_ahead, (hq _ (by omega)).trans h_this_partings_sum, (hq _ (by omega)).trans h_this_kinds, (hq _ (by omega)).trans h_this_deeds, hHs, (hq _ (by omega)).trans h_this_seenFoot, (hq _ (by omega)).trans h_this_seenCell, (hq _ (by omega)).trans h_this_seenWear, hSe, jdC_fr hJd (fun q a b => hq q (by omega))⟩⟩
set_option maxRecDepth 100000 in
theorem x_forget {G : aG} {d n : Nat} {h : AH} {xa : Nat} {fs fn fp fi fk ft fe : Int → Int} {un sz sm tr : Int} (hI : xI fs fn fe ft un sz sm) (hW : xW G xa h fs fn fp fi fk ft fe un sz sm tr) : aE G d kX10_forget [.ref xa] n h (some (aI sm)) (fun h' => xFr xa h h' ∧ xW G xa h' fs fn fp fi fk ft fe un sz (0) tr) := by
  have hIq := hI; have hWq := hW; obtain ⟨hok, ⟨hn, hbz⟩, he, hun, ⟨z, hz, hz2, htk⟩, hsm, hse⟩ := hI; obtain ⟨su, dr, pl, ts, tk, nu, hT, cT, fo, ga, li, fd, e1, e2, e3, g1, g2, g3, hsd, h_this, hnu, h_this_text, h_this_text_letters, hC, hXd, hNw, hI0, hI1, h_this_partings, h_this_partings_own, h_this_partings_ahead, h_this_partings_sum, h_this_kinds, h_this_deeds, hHs, h_this_seenFoot, h_this_seenCell, h_this_seenWear, hSe, hJd⟩ := hW; have hNw0 := hNw; obtain ⟨no, nf, ⟨h_this_present, h_this_present_owner, h_this_present_feet⟩, hno, hnf⟩ := hNw; have h_this_told := suC_o hC; have hg := hok.1; have hal := al_b hg
  refine aCt_of (lv := [some (.ref xa), none]) knX10_forget.1 rfl rfl (Nat.le_of_ble_eq_true rfl) (fun x hG hsc X => ?_)
  subst hG
  have h0 := h_this
  refine A_al0 X dX10_forget_0 ?_
  refine A_getf X flX10_231 h_this rfl dX10_forget_1 ?_
  refine A_is1 X dX10_forget_4 ?_
  refine A_al0 X dX10_forget_5 ?_
  refine A_iconst X dX10_forget_6 ?_
  refine A_putf X flX10_231 h_this dX10_forget_7 ?_
  refine A_gen (fun h7 e7 k7 q7 => ?_)
  have h_this := e7
  refine A_il1 X dX10_forget_10 ?_
  have hq := k7
  exact A_ret X dX10_forget_11 rfl ⟨rfl, rfl, fun q a => hq q (by omega), ⟨su, dr, pl, ts, tk, nu, hT, cT, fo, ga, li, fd, e1, e2, e3, g1, g2, g3, hsd, h_this, hnu, (hq _ (by omega)).trans h_this_text, (hq _ (by omega)).trans h_this_text_letters, suC_fr hC (fun q a b => hq q (by omega)), suX_fr hXd (fun q a b => hq q (by omega)), nowC_fr hNw0 (fun q a b => hq q (by omega)), imC_fr hI0 (fun q a b => hq q (by omega)), imC_fr hI1 (fun q a b => hq q (by omega)), (hq _ (by omega)).trans h_this_partings, (hq _ (by omega)).trans h_this_partings_own, (hq _ (by omega)).trans h_this_partings_ahead, (hq _ (by omega)).trans h_this_partings_sum, (hq _ (by omega)).trans h_this_kinds, (hq _ (by omega)).trans h_this_deeds, hHs, (hq _ (by omega)).trans h_this_seenFoot, (hq _ (by omega)).trans h_this_seenCell, (hq _ (by omega)).trans h_this_seenWear, (fun k a b => by omega), jdC_fr hJd (fun q a b => hq q (by omega))⟩⟩
set_option maxRecDepth 100000 in
theorem x_saw {G : aG} {d n : Nat} {h : AH} {xa : Nat} {fs fn fp fi fk ft fe : Int → Int} {un sz sm tr : Int} {foot cell v : Int} (hf : inR foot) (hc : inR cell) (hv : inR v) (hI : xI fs fn fe ft un sz sm) (hW : xW G xa h fs fn fp fi fk ft fe un sz sm tr) : aE G (d + 1) kX10_saw [.ref xa, aI foot, aI cell, aI v] n h (some (aI (qSaw fs sm foot cell v))) (fun h' => xFr xa h h' ∧ xW G xa h' fs fn fp fi fk ft (if okSaw fs foot cell v ∧ sm ≠ 6 then aiu (aiu (aiu fe (3 * sm) foot) (3 * sm + 1) cell) (3 * sm + 2) v else fe) un sz (if okSaw fs foot cell v ∧ sm ≠ 6 then sm + 1 else sm) tr) := by
  have hIq := hI; have hWq := hW; obtain ⟨hok, ⟨hn, hbz⟩, he, hun, ⟨z, hz, hz2, htk⟩, hsm, hse⟩ := hI; obtain ⟨su, dr, pl, ts, tk, nu, hT, cT, fo, ga, li, fd, e1, e2, e3, g1, g2, g3, hsd, h_this, hnu, h_this_text, h_this_text_letters, hC, hXd, hNw, hI0, hI1, h_this_partings, h_this_partings_own, h_this_partings_ahead, h_this_partings_sum, h_this_kinds, h_this_deeds, hHs, h_this_seenFoot, h_this_seenCell, h_this_seenWear, hSe, hJd⟩ := hW; have hNw0 := hNw; obtain ⟨no, nf, ⟨h_this_present, h_this_present_owner, h_this_present_feet⟩, hno, hnf⟩ := hNw; have h_this_told := suC_o hC; have hg := hok.1; have hal := al_b hg
  refine aCt_of (lv := [some (.ref xa), some (aI foot), some (aI cell), some (aI v)]) knX10_saw.1 rfl rfl (Nat.le_of_ble_eq_true rfl) (fun x hG hsc X => ?_)
  subst hG
  have hh_this := h_this; have hh_f := h_this_seenFoot; have hh_c := h_this_seenCell; have hh_w := h_this_seenWear
  refine A_il1 X dX10_saw_0 ?_
  refine A_dSi1 X (c_isSide hf) knX10_isSide mlX10_113 dX10_saw_1 ?_
  refine A_ifb_eq (t := 25) X dX10_saw_4 (fun c4 => ?_) (fun c4 => ?_)
  · refine A_iconst X dX10_saw_25 ?_
    exact A_ret X dX10_saw_26 rfl ⟨congrArg (fun t => some (aI t)) (by rw [qSaw, if_neg (by omega)]), rfl, fun _ _ => rfl, by rw [if_neg (by omega), if_neg (by omega)]; exact hWq⟩
  · refine A_al0 X dX10_saw_7 ?_
    refine A_il2 X dX10_saw_8 ?_
    refine A_dVi1 X (x_isCell hc hIq hWq) h_this knX10_isCell mlX10_216 dX10_saw_9 ?_
    refine A_ifb_eq (t := 25) X dX10_saw_12 (fun c12 => ?_) (fun c12 => ?_)
    · refine A_iconst X dX10_saw_25 ?_
      exact A_ret X dX10_saw_26 rfl ⟨congrArg (fun t => some (aI t)) (by rw [qSaw, if_neg (by omega)]), rfl, fun _ _ => rfl, by rw [if_neg (by omega), if_neg (by omega)]; exact hWq⟩
    · refine A_il3 X dX10_saw_15 ?_
      refine A_if_lt (t := 25) X (by omega) dX10_saw_16 (fun c16 => ?_) (fun c16 => ?_)
      · refine A_iconst X dX10_saw_25 ?_
        exact A_ret X dX10_saw_26 rfl ⟨congrArg (fun t => some (aI t)) (by rw [qSaw, if_neg (by omega)]), rfl, fun _ _ => rfl, by rw [if_neg (by omega), if_neg (by omega)]; exact hWq⟩
      · refine A_il3 X dX10_saw_19 ?_
        refine A_bipush X dX10_saw_20 ?_
        refine A_icmp_le (t := 27) X (by omega) (by omega) dX10_saw_22 (fun c22 => ?_) (fun c22 => ?_)
        · refine A_al0 X dX10_saw_27 ?_
          refine A_getf X flX10_231 h_this rfl dX10_saw_28 ?_
          refine A_if_lt (t := 43) X (by omega) dX10_saw_31 (fun c31 => by exfalso; omega) (fun c31 => ?_)
          refine A_al0 X dX10_saw_34 ?_
          refine A_getf X flX10_231 h_this rfl dX10_saw_35 ?_
          refine A_bipush X dX10_saw_38 ?_
          refine A_icmp_lt (t := 46) X (by omega) (by omega) dX10_saw_40 (fun c40 => ?_) (fun c40 => ?_)
          · refine A_al0 X dX10_saw_46 ?_
            refine A_getf X flX10_56 h_this rfl dX10_saw_47 ?_
            refine A_al0 X dX10_saw_50 ?_
            refine A_getf X flX10_231 h_this rfl dX10_saw_51 ?_
            refine A_il1 X dX10_saw_54 ?_
            refine A_iast X h_this_seenFoot (by omega) dX10_saw_55 ?_
            refine A_gen (fun h55 e55 k55 q55 => ?_)
            have h_this := (k55 _ (by omega)).trans h_this
            have h_this_seenFoot := e55
            have h_this_seenCell := (k55 _ (by omega)).trans h_this_seenCell
            have h_this_seenWear := (k55 _ (by omega)).trans h_this_seenWear
            refine A_al0 X dX10_saw_56 ?_
            refine A_getf X flX10_59 h_this rfl dX10_saw_57 ?_
            refine A_al0 X dX10_saw_60 ?_
            refine A_getf X flX10_231 h_this rfl dX10_saw_61 ?_
            refine A_il2 X dX10_saw_64 ?_
            refine A_iast X h_this_seenCell (by omega) dX10_saw_65 ?_
            refine A_gen (fun h65 e65 k65 q65 => ?_)
            have h_this := (k65 _ (by omega)).trans h_this
            have h_this_seenFoot := (k65 _ (by omega)).trans h_this_seenFoot
            have h_this_seenCell := e65
            have h_this_seenWear := (k65 _ (by omega)).trans h_this_seenWear
            refine A_al0 X dX10_saw_66 ?_
            refine A_getf X flX10_62 h_this rfl dX10_saw_67 ?_
            refine A_al0 X dX10_saw_70 ?_
            refine A_getf X flX10_231 h_this rfl dX10_saw_71 ?_
            refine A_il3 X dX10_saw_74 ?_
            refine A_iast X h_this_seenWear (by omega) dX10_saw_75 ?_
            refine A_gen (fun h75 e75 k75 q75 => ?_)
            have h_this := (k75 _ (by omega)).trans h_this
            have h_this_seenFoot := (k75 _ (by omega)).trans h_this_seenFoot
            have h_this_seenCell := (k75 _ (by omega)).trans h_this_seenCell
            have h_this_seenWear := e75
            refine A_al0 X dX10_saw_76 ?_
            refine A_dup X dX10_saw_77 ?_
            refine A_getf X flX10_231 h_this rfl dX10_saw_78 ?_
            refine A_iconst X dX10_saw_81 ?_
            refine A_iadd X dX10_saw_82 ?_
            refine A_putf X flX10_231 h_this dX10_saw_83 ?_
            refine A_gen (fun h83 e83 k83 q83 => ?_)
            have h_this := e83
            have h_this_seenFoot := (k83 _ (by omega)).trans h_this_seenFoot
            have h_this_seenCell := (k83 _ (by omega)).trans h_this_seenCell
            have h_this_seenWear := (k83 _ (by omega)).trans h_this_seenWear
            refine A_al0 X dX10_saw_86 ?_
            refine A_getf X flX10_231 h_this rfl dX10_saw_87 ?_
            have hq : ∀ q, q ≠ xa ∧ q ≠ xa + 28 ∧ q ≠ xa + 29 ∧ q ≠ xa + 30 → h83 q = h q := fun q a => by rw [k83 q (by omega), k75 q (by omega), k65 q (by omega), k55 q (by omega)]
            have hse2 : seC (aiu (aiu (aiu fe (3 * sm) foot) (3 * sm + 1) cell) (3 * sm + 2) v) (aiu e1 sm foot) (aiu e2 sm cell) (aiu e3 sm v) (sm + 1) := by
              intro k a b
              by_cases q : k = sm
              · subst q
                rw [aiu_s, aiu_s, aiu_s, aiu_s, aiu_n (by omega), aiu_n (by omega), aiu_s, aiu_n (by omega), aiu_s]
                exact ⟨rfl, rfl, rfl⟩
              · obtain ⟨s1, s2, s3⟩ := hSe k a (by omega)
                rw [aiu_n q, aiu_n q, aiu_n q, aiu_n (by omega), aiu_n (by omega), aiu_n (by omega), aiu_n (by omega), aiu_n (by omega), aiu_n (by omega), aiu_n (by omega), aiu_n (by omega), aiu_n (by omega)]
                exact ⟨s1, s2, s3⟩
            exact A_ret X dX10_saw_90 rfl ⟨congrArg (fun t => some (aI t)) (by rw [qSaw, if_pos (by omega), if_neg (by omega)]), rfl, fun q a => hq q (by omega), by rw [if_pos (by omega), if_pos (by omega)]; exact ⟨su, dr, pl, ts, tk, nu, hT, cT, fo, ga, li, fd, _, _, _, g1, g2, g3, hsd, h_this, hnu, (hq _ (by omega)).trans h_this_text, (hq _ (by omega)).trans h_this_text_letters, suC_fr hC (fun q a b => hq q (by omega)), suX_fr hXd (fun q a b => hq q (by omega)), nowC_fr hNw0 (fun q a b => hq q (by omega)), imC_fr hI0 (fun q a b => hq q (by omega)), imC_fr hI1 (fun q a b => hq q (by omega)), (hq _ (by omega)).trans h_this_partings, (hq _ (by omega)).trans h_this_partings_own, (hq _ (by omega)).trans h_this_partings_ahead, (hq _ (by omega)).trans h_this_partings_sum, (hq _ (by omega)).trans h_this_kinds, (hq _ (by omega)).trans h_this_deeds, hHs, h_this_seenFoot, h_this_seenCell, h_this_seenWear, hse2, jdC_fr hJd (fun q a b => hq q (by omega))⟩⟩
          · refine A_bipush X dX10_saw_43 ?_
            exact A_ret X dX10_saw_45 rfl ⟨congrArg (fun t => some (aI t)) (by rw [qSaw, if_pos (by omega), if_pos (by omega)]), rfl, fun _ _ => rfl, by rw [if_neg (by omega), if_neg (by omega)]; exact hWq⟩
        · refine A_iconst X dX10_saw_25 ?_
          exact A_ret X dX10_saw_26 rfl ⟨congrArg (fun t => some (aI t)) (by rw [qSaw, if_neg (by omega)]), rfl, fun _ _ => rfl, by rw [if_neg (by omega), if_neg (by omega)]; exact hWq⟩
