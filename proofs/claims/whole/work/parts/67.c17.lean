/-! the class: what is done, with the deeds -/
theorem bv (x k : Nat) : x / 2 ^ k % 2 = if x.testBit k = true then 1 else 0 := by
  rw [Nat.testBit_eq_decide_div_mod_eq]
  have := Nat.mod_two_eq_zero_or_one (x / 2 ^ k)
  by_cases q : x / 2 ^ k % 2 = 1
  · rw [q]; simp
  · simp [q]; omega
theorem mF_st {fn : Int → Int} (hn : nOK fn) {foot : Int} (hf : foot = 0 ∨ foot = 1) (h60 : fn 6 < 60) {i : Nat} (hi : i < 60) : mF (stF fn foot) i = if (i : Int) = fn 6 then (if mF fn i = 1 then 1 else foot) else mF fn i := by
  obtain ⟨s, hs⟩ := Int.eq_ofNat_of_zero_le hn.2.1.1
  have e1 : stF fn foot (7 + (i : Int) / 30) = aiu fn (7 + fn 6 / 30) (stW fn foot) (7 + (i : Int) / 30) := by rw [stF, aiu_n (by omega)]
  unfold mF
  rw [e1]
  by_cases q : (i : Int) / 30 = fn 6 / 30
  · rw [q, aiu_s, stW]
    generalize hw : (fn (7 + fn 6 / 30)).toNat = w
    rw [show (fn 6 % 30).toNat = s % 30 by omega, Int.toNat_natCast, bv, bv, Nat.testBit_or]
    rcases hf with rfl | rfl
    · rw [show (0 : Int).toNat * 2 ^ (s % 30) = 0 by simp, Nat.zero_testBit, Bool.or_false]
      by_cases z : (i : Int) = fn 6
      · rw [if_pos z]; cases w.testBit (i % 30) <;> rfl
      · rw [if_neg z]
    · rw [show (1 : Int).toNat * 2 ^ (s % 30) = 2 ^ (s % 30) by simp, Nat.testBit_two_pow]
      by_cases z : (i : Int) = fn 6
      · rw [if_pos z, decide_eq_true (by omega)]; cases w.testBit (i % 30) <;> rfl
      · rw [if_neg z, decide_eq_false (by omega), Bool.or_false]
  · rw [aiu_n (by omega), if_neg (by omega)]
theorem st_ow {fn : Int → Int} (hn : nOK fn) {foot k : Int} (h1 : 0 ≤ k) (h2 : k < 6) : stF fn foot k = fn k := by
  have := hn.2.1
  rw [stF, aiu_n (by omega), aiu_n (by omega)]
theorem st_nK {fn : Int → Int} (hn : nK fn) {foot : Int} (hf : foot = 0 ∨ foot = 1) (h60 : fn 6 < 60) : nK (stF fn foot) := by
  refine ⟨stF_ok hn.1 (by omega) h60, fun i a b => ?_⟩
  have e6 : stF fn foot 6 = fn 6 + 1 := by rw [stF, aiu_s]
  rw [mF_st hn.1 hf h60 b, if_neg (by omega)]
  exact hn.2 i (by omega) b
theorem st_dR {fn : Int → Int} (hn : nK fn) {foot : Int} (hf : foot = 0 ∨ foot = 1) (h60 : fn 6 < 60) : dR (-1) fn (stF fn foot) := by
  have e6 : stF fn foot 6 = fn 6 + 1 := by rw [stF, aiu_s]
  exact Or.inl ⟨rfl, e6, fun k a b => st_ow hn.1 a b, fun i a => by rw [mF_st hn.1 hf h60 (by omega), if_neg (by omega)]⟩
theorem gv_m {fn : Int → Int} {g to : Int} (hg : 0 ≤ g ∧ g < 6) {i : Nat} (hi : i < 60) : mF (aiu fn (0 + g) to) i = mF fn i := mF_cg (aiu_n (by omega)) (aiu_n (by omega)) hi
theorem gv_nK {fn : Int → Int} (hn : nK fn) {g to : Int} (hg : 0 ≤ g ∧ g < 6) (ht : 0 ≤ to ∧ to ≤ 2) : nK (aiu fn (0 + g) to) := by
  obtain ⟨⟨h1, h2, h3, h4⟩, h5⟩ := hn
  refine ⟨⟨fun k a b => ?_, by rw [aiu_n (by omega)]; exact h2, by rw [aiu_n (by omega)]; exact h3, by rw [aiu_n (by omega)]; exact h4⟩, fun i a b => ?_⟩
  · unfold aiu; split
    · exact ht
    · exact h1 k a b
  · rw [aiu_n (by omega)] at a
    rw [gv_m hg b]; exact h5 i a b
theorem gv_dR {fn : Int → Int} (hn : nK fn) {g to : Int} (hg : 0 ≤ g ∧ g < 6) : dR (3 * g + fn g) fn (aiu fn (0 + g) to) := by
  have := hn.1.2.1
  exact Or.inr ⟨g, fn g, rfl, hg, hn.1.1 g hg.1 hg.2, rfl, aiu_n (by omega), fun k a b c => aiu_n (by omega), fun i a => gv_m hg (by omega)⟩
set_option maxRecDepth 100000 in
theorem x_remember {G : aG} {d n : Nat} {h : AH} {xa su dr : Nat} {un sm tr dd : Int} {fd : Int → Int} (hun : 0 ≤ un ∧ un ≤ 10) (h_this : h xa = some (aOb 10 (xO xa su dr un sm tr))) (h_this_deeds : h (xa + 27) = some (aIa G 10 fd)) : aE G (d + 1) kX10_remember [.ref xa, aI dd] n h none (fun h' => h' xa = some (aOb 10 (xO xa su dr (rmU un) sm tr)) ∧ h' (xa + 27) = some (aIa G 10 (rmD fd un dd)) ∧ ∀ q, q ≠ xa → q ≠ xa + 27 → h' q = h q) := by
  refine aCt_of (lv := [some (.ref xa), some (aI dd)]) knX10_remember.1 rfl rfl (Nat.le_of_ble_eq_true rfl) (fun x hG hsc X => ?_)
  subst hG
  refine A_al0 X dX10_remember_0 ?_
  refine A_getf X flX10_126 h_this rfl dX10_remember_1 ?_
  refine A_bipush X dX10_remember_4 ?_
  refine A_icmp_lt (t := 30) X (by omega) (by omega) dX10_remember_6 (fun c6 => ?_) (fun c6 => ?_)
  · refine A_al0 X dX10_remember_30 ?_
    refine A_getf X flX10_126 h_this rfl dX10_remember_31 ?_
    refine A_if_lt (t := 57) X (by omega) dX10_remember_34 (fun c34 => by exfalso; omega) (fun c34 => ?_)
    refine A_al0 X dX10_remember_37 ?_
    refine A_getf X flX10_52 h_this rfl dX10_remember_38 ?_
    refine A_al0 X dX10_remember_41 ?_
    refine A_getf X flX10_126 h_this rfl dX10_remember_42 ?_
    refine A_il1 X dX10_remember_45 ?_
    refine A_iast X h_this_deeds (by omega) dX10_remember_46 ?_
    refine A_gen (fun h46 e46 k46 q46 => ?_)
    have h_this := (k46 _ (by omega)).trans h_this
    have h_this_deeds := e46
    refine A_al0 X dX10_remember_47 ?_
    refine A_dup X dX10_remember_48 ?_
    refine A_getf X flX10_126 h_this rfl dX10_remember_49 ?_
    refine A_iconst X dX10_remember_52 ?_
    refine A_iadd X dX10_remember_53 ?_
    refine A_putf X flX10_126 h_this dX10_remember_54 ?_
    refine A_gen (fun h54 e54 k54 q54 => ?_)
    have h_this := e54
    have h_this_deeds := (k54 _ (by omega)).trans h_this_deeds
    exact A_retv X dX10_remember_57 rfl ⟨rfl, rfl, by rw [rmU, if_neg (by omega)]; exact h_this, by rw [rmD, if_neg (by omega)]; exact h_this_deeds, fun q a b => by rw [k54 q a, k46 q b]⟩
  · refine A_al0 X dX10_remember_9 ?_
    refine A_getf X flX10_52 h_this rfl dX10_remember_10 ?_
    refine A_iconst X dX10_remember_13 ?_
    refine A_al0 X dX10_remember_14 ?_
    refine A_getf X flX10_52 h_this rfl dX10_remember_15 ?_
    refine A_iconst X dX10_remember_18 ?_
    refine A_bipush X dX10_remember_19 ?_
    refine A_copy X h_this_deeds h_this_deeds (by omega) mlX10_271 dX10_remember_21 ?_
    refine A_gen (fun h21 e21 k21 q21 => ?_)
    have h_this := (k21 _ (by omega)).trans h_this
    have h_this_deeds := e21
    refine A_al0 X dX10_remember_24 ?_
    refine A_bipush X dX10_remember_25 ?_
    refine A_putf X flX10_126 h_this dX10_remember_27 ?_
    refine A_gen (fun h27 e27 k27 q27 => ?_)
    have h_this := e27
    have h_this_deeds := (k27 _ (by omega)).trans h_this_deeds
    refine A_al0 X dX10_remember_30 ?_
    refine A_getf X flX10_126 h_this rfl dX10_remember_31 ?_
    refine A_if_lt (t := 57) X (by omega) dX10_remember_34 (fun c34 => by exfalso; omega) (fun c34 => ?_)
    refine A_al0 X dX10_remember_37 ?_
    refine A_getf X flX10_52 h_this rfl dX10_remember_38 ?_
    refine A_al0 X dX10_remember_41 ?_
    refine A_getf X flX10_126 h_this rfl dX10_remember_42 ?_
    refine A_il1 X dX10_remember_45 ?_
    refine A_iast X h_this_deeds (by omega) dX10_remember_46 ?_
    refine A_gen (fun h46 e46 k46 q46 => ?_)
    have h_this := (k46 _ (by omega)).trans h_this
    have h_this_deeds := e46
    refine A_al0 X dX10_remember_47 ?_
    refine A_dup X dX10_remember_48 ?_
    refine A_getf X flX10_126 h_this rfl dX10_remember_49 ?_
    refine A_iconst X dX10_remember_52 ?_
    refine A_iadd X dX10_remember_53 ?_
    refine A_putf X flX10_126 h_this dX10_remember_54 ?_
    refine A_gen (fun h54 e54 k54 q54 => ?_)
    have h_this := e54
    have h_this_deeds := (k54 _ (by omega)).trans h_this_deeds
    exact A_retv X dX10_remember_57 rfl ⟨rfl, rfl, by rw [rmU, if_pos (by omega)]; exact h_this, by rw [rmD, if_pos (by omega)]; exact h_this_deeds, fun q a b => by rw [k54 q a, k46 q b, k27 q a, k21 q b]⟩
set_option maxRecDepth 100000 in
theorem x_gives {G : aG} {d n : Nat} {h : AH} {xa : Nat} {fs fn fp fi fk ft fe : Int → Int} {un sz sm tr : Int} {g to : Int} (hgr : inR g) (hto : inR to) (hI : xI fs fn fe ft un sz sm) (hW : xW G xa h fs fn fp fi fk ft fe un sz sm tr) : aE G (d + 2) kX10_gives [.ref xa, aI g, aI to] n h (some (aI (qGives fs fn g to))) (fun h' => xFr xa h h' ∧ xW G xa h' fs (if okGv fs g to then aiu fn (0 + g) to else fn) (if okGv fs g to then rmP fn fp un else fp) fi fk ft fe (if okGv fs g to then rmU un else un) sz sm tr) := by
  have hIq := hI; have hWq := hW; obtain ⟨hok, ⟨hn, hbz⟩, he, hun, ⟨z, hz, hz2, htk⟩, hsm, hse⟩ := hI; obtain ⟨su, dr, pl, ts, tk, nu, hT, cT, fo, ga, li, fd, e1, e2, e3, g1, g2, g3, hsd, h_this, hnu, h_this_text, h_this_text_letters, hC, hXd, hNw, hI0, hI1, h_this_partings, h_this_partings_own, h_this_partings_ahead, h_this_partings_sum, h_this_kinds, h_this_deeds, hHs, h_this_seenFoot, h_this_seenCell, h_this_seenWear, hSe, hJd⟩ := hW; have hNw0 := hNw; obtain ⟨no, nf, ⟨h_this_present, h_this_present_owner, h_this_present_feet⟩, hno, hnf⟩ := hNw; have h_this_told := suC_o hC; have hg := hok.1; have hal := al_b hg
  refine aCt_of (lv := [some (.ref xa), some (aI g), some (aI to), none]) knX10_gives.1 rfl rfl (Nat.le_of_ble_eq_true rfl) (fun x hG hsc X => ?_)
  subst hG
  refine A_al0 X dX10_gives_0 ?_
  refine A_il1 X dX10_gives_1 ?_
  refine A_dVi1 X (x_isGood hgr hIq hWq) h_this knX10_isGood mlX10_102 dX10_gives_2 ?_
  refine A_ifb_eq (t := 17) X dX10_gives_5 (fun c5 => ?_) (fun c5 => ?_)
  · refine A_iconst X dX10_gives_17 ?_
    exact A_ret X dX10_gives_18 rfl ⟨congrArg (fun t => some (aI t)) (by rw [qGives, if_neg (by omega)]), rfl, fun _ _ => rfl, by rw [if_neg (by omega), if_neg (by omega), if_neg (by omega)]; exact hWq⟩
  · refine A_il2 X dX10_gives_8 ?_
    refine A_if_lt (t := 17) X (by omega) dX10_gives_9 (fun c9 => ?_) (fun c9 => ?_)
    · refine A_iconst X dX10_gives_17 ?_
      exact A_ret X dX10_gives_18 rfl ⟨congrArg (fun t => some (aI t)) (by rw [qGives, if_neg (by omega)]), rfl, fun _ _ => rfl, by rw [if_neg (by omega), if_neg (by omega), if_neg (by omega)]; exact hWq⟩
    · refine A_il2 X dX10_gives_12 ?_
      refine A_iconst X dX10_gives_13 ?_
      refine A_icmp_le (t := 19) X (by omega) (by omega) dX10_gives_14 (fun c14 => ?_) (fun c14 => ?_)
      · refine A_al0 X dX10_gives_19 ?_
        refine A_getf X flX10_29 h_this rfl dX10_gives_20 ?_
        refine A_il1 X dX10_gives_23 ?_
        refine A_dVi1 X (c_whose (by omega) h_this_present h_this_present_owner) h_this_present knX3_whose mlX10_105 dX10_gives_24 ?_
        refine A_is3 X dX10_gives_27 ?_
        refine A_al0 X dX10_gives_28 ?_
        refine A_getf X flX10_29 h_this rfl dX10_gives_29 ?_
        refine A_il1 X dX10_gives_32 ?_
        refine A_il2 X dX10_gives_33 ?_
        refine A_eVv2 X (c_put (by omega) h_this_present h_this_present_owner) h_this_present knX3_put mlX10_135 dX10_gives_34 (fun h34 p34 => ?_)
        obtain ⟨r1, hq1⟩ := p34
        have h_this2 := (hq1 _ (by omega)).trans h_this
        have h_this_deeds2 := (hq1 _ (by omega)).trans h_this_deeds
        have h_this0 := h_this
        have h_this := h_this2
        refine A_al0 X dX10_gives_37 ?_
        refine A_iconst X dX10_gives_38 ?_
        refine A_il1 X dX10_gives_39 ?_
        refine A_imul X dX10_gives_40 ?_
        refine A_il3 X dX10_gives_41 ?_
        refine A_iadd X dX10_gives_42 ?_
        refine A_eVv1 X (x_remember hun h_this2 h_this_deeds2) h_this knX10_remember mlX10_139 dX10_gives_43 (fun h43 p43 => ?_)
        obtain ⟨r2, r3, hq2⟩ := p43
        have hq : ∀ q, q ≠ xa ∧ q ≠ xa + 27 ∧ q ≠ xa + 14 → h43 q = h q := fun q a => by rw [hq2 q (by omega) (by omega), hq1 q (by omega)]
        have h6 := hn.2.1
        have en : no g = fn g := hno g (by omega) (by omega)
        have hN2 : nowC x.1 h43 (xa + 13) (aiu fn (0 + g) to) 0 := ⟨_, nf, ⟨by rw [aiu_n (by omega)]; exact (hq _ (by omega)).trans h_this_present, (hq2 _ (by omega) (by omega)).trans r1, (hq _ (by omega)).trans h_this_present_feet⟩, fun k a b => by unfold aiu; rw [Int.zero_add]; split; rfl; exact hno k a b, fun i a => by rw [aiu_n (by omega)] at a; rw [gv_m (by omega) (by omega)]; exact hnf i a⟩
        refine A_il3 X dX10_gives_46 ?_
        exact A_ret X dX10_gives_47 rfl ⟨congrArg (fun t => some (aI t)) (by rw [qGives, if_pos (by omega), Int.zero_add, en]), rfl, fun q a => hq q (by omega), by rw [if_pos (by omega), if_pos (by omega), if_pos (by omega)]; exact ⟨su, dr, pl, ts, tk, nu, hT, cT, fo, ga, li, _, e1, e2, e3, g1, g2, g3, hsd, r2, hnu, (hq _ (by omega)).trans h_this_text, (hq _ (by omega)).trans h_this_text_letters, suC_fr hC (fun q a b => hq q (by omega)), suX_fr hXd (fun q a b => hq q (by omega)), hN2, imC_fr hI0 (fun q a b => hq q (by omega)), imC_fr hI1 (fun q a b => hq q (by omega)), (hq _ (by omega)).trans h_this_partings, (hq _ (by omega)).trans h_this_partings_own, (hq _ (by omega)).trans h_this_partings_ahead, (hq _ (by omega)).trans h_this_partings_sum, (hq _ (by omega)).trans h_this_kinds, r3, hs_rm hun ⟨hn, hbz⟩ hHs (en ▸ gv_dR ⟨hn, hbz⟩ (by omega)), (hq _ (by omega)).trans h_this_seenFoot, (hq _ (by omega)).trans h_this_seenCell, (hq _ (by omega)).trans h_this_seenWear, hSe, jdC_fr hJd (fun q a b => hq q (by omega))⟩⟩
      · refine A_iconst X dX10_gives_17 ?_
        exact A_ret X dX10_gives_18 rfl ⟨congrArg (fun t => some (aI t)) (by rw [qGives, if_neg (by omega)]), rfl, fun _ _ => rfl, by rw [if_neg (by omega), if_neg (by omega), if_neg (by omega)]; exact hWq⟩
set_option maxRecDepth 100000 in
theorem x_steps {G : aG} {d n : Nat} {h : AH} {xa : Nat} {fs fn fp fi fk ft fe : Int → Int} {un sz sm tr : Int} {foot : Int} (hfr : inR foot) (hI : xI fs fn fe ft un sz sm) (hW : xW G xa h fs fn fp fi fk ft fe un sz sm tr) : aE G (d + 2) kX10_steps [.ref xa, aI foot] n h (some (aI (qSteps fs fn foot))) (fun h' => xFr xa h h' ∧ xW G xa h' fs (if okSt fn foot then stF fn foot else fn) (if okSt fn foot then rmP fn fp un else fp) fi fk ft fe (if okSt fn foot then rmU un else un) sz sm tr) := by
  have hIq := hI; have hWq := hW; obtain ⟨hok, ⟨hn, hbz⟩, he, hun, ⟨z, hz, hz2, htk⟩, hsm, hse⟩ := hI; obtain ⟨su, dr, pl, ts, tk, nu, hT, cT, fo, ga, li, fd, e1, e2, e3, g1, g2, g3, hsd, h_this, hnu, h_this_text, h_this_text_letters, hC, hXd, hNw, hI0, hI1, h_this_partings, h_this_partings_own, h_this_partings_ahead, h_this_partings_sum, h_this_kinds, h_this_deeds, hHs, h_this_seenFoot, h_this_seenCell, h_this_seenWear, hSe, hJd⟩ := hW; have hNw0 := hNw; obtain ⟨no, nf, ⟨h_this_present, h_this_present_owner, h_this_present_feet⟩, hno, hnf⟩ := hNw; have h_this_told := suC_o hC; have hg := hok.1; have hal := al_b hg
  have h3 := hok.2.2.2.1
  have hk := n_k hn
  have h6 := hn.2.1
  have cb := cnt_b (mF fn) foot (fn 6).toNat
  refine aCt_of (lv := [some (.ref xa), some (aI foot), none]) knX10_steps.1 rfl rfl (Nat.le_of_ble_eq_true rfl) (fun x hG hsc X => ?_)
  subst hG
  refine A_il1 X dX10_steps_0 ?_
  refine A_dSi1 X (c_isSide hfr) knX10_isSide mlX10_113 dX10_steps_1 ?_
  refine A_ifb_ne (t := 9) X dX10_steps_4 (fun c4 => ?_) (fun c4 => ?_)
  · refine A_al0 X dX10_steps_9 ?_
    refine A_getf X flX10_29 h_this rfl dX10_steps_10 ?_
    refine A_il1 X dX10_steps_13 ?_
    refine A_dVi1 X (n_stepsOf hfr hn hNw0) h_this_present knX3_stepsOf mlX10_143 dX10_steps_14 ?_
    refine A_is2 X dX10_steps_17 ?_
    refine A_al0 X dX10_steps_18 ?_
    refine A_getf X flX10_29 h_this rfl dX10_steps_19 ?_
    refine A_il1 X dX10_steps_22 ?_
    refine A_eVi1 X (c_walk (by omega) h_this_present h_this_present_feet) h_this_present knX3_walk mlX10_146 dX10_steps_23 (fun h23 p23 => ?_)
    obtain ⟨r1, r2, hq1⟩ := p23
    refine A_ifb_ne (t := 32) X dX10_steps_26 (fun c26 => ?_) (fun c26 => ?_)
    · rw [if_pos c26] at r1 r2
      have h_this2 := (hq1 _ (by omega) (by omega)).trans h_this
      have h_this_deeds2 := (hq1 _ (by omega) (by omega)).trans h_this_deeds
      have h_this := h_this2
      refine A_al0 X dX10_steps_32 ?_
      refine A_iconst X dX10_steps_33 ?_
      refine A_eVv1 X (x_remember hun h_this2 h_this_deeds2) h_this knX10_remember mlX10_139 dX10_steps_34 (fun h34 p34 => ?_)
      obtain ⟨r3, r4, hq2⟩ := p34
      have hq : ∀ q, q ≠ xa ∧ q ≠ xa + 27 ∧ q ≠ xa + 13 ∧ q ≠ xa + 15 → h34 q = h q := fun q a => by rw [hq2 q (by omega) (by omega), hq1 q (by omega) (by omega)]
      have e6 : stF fn foot 6 = fn 6 + 1 := by rw [stF, aiu_s]
      have hN2 : nowC x.1 h34 (xa + 13) (stF fn foot) 0 := ⟨no, _, ⟨by rw [e6]; exact (hq2 _ (by omega) (by omega)).trans r1, (hq _ (by omega)).trans h_this_present_owner, (hq2 _ (by omega) (by omega)).trans r2⟩, fun k a b => by rw [st_ow hn a b]; exact hno k a b, fun i a => by
        rw [e6] at a
        rw [mF_st hn c4 c26 (by omega)]
        by_cases z : (i : Int) = fn 6
        · have := hbz i (by omega) (by omega)
          rw [if_pos z, this, if_neg (by decide), z, aiu_s]
        · rw [if_neg z, aiu_n z]; exact hnf i (by omega)⟩
      have h_this0 := h_this
      have hC2 := suC_fr hC (h' := h34) (fun q a b => hq q (by omega))
      have h_this_told := suC_o hC2
      have h_this := r3
      refine A_al0 X dX10_steps_37 ?_
      refine A_getf X flX10_19 h_this rfl dX10_steps_38 ?_
      refine A_il2 X dX10_steps_41 ?_
      refine A_iconst X dX10_steps_42 ?_
      refine A_iadd X dX10_steps_43 ?_
      refine A_al0 X dX10_steps_44 ?_
      refine A_getf X flX10_19 h_this rfl dX10_steps_45 ?_
      refine A_il2 X dX10_steps_48 ?_
      refine A_dVi1 X (c_cellBehind h3 (by omega) hC2) h_this_told knX6_cellBehind mlX10_149 dX10_steps_49 ?_
      have hmod := Int.emod_nonneg (cnt (mF fn) foot (fn 6).toNat) (show fs 3 ≠ 0 by omega)
      have hmod2 := Int.emod_lt_of_pos (cnt (mF fn) foot (fn 6).toNat) (show 0 < fs 3 by omega)
      refine A_dVi2 X (c_wear h3 (by omega) (by omega) hC2) h_this_told knX6_wear mlX10_152 dX10_steps_52 ?_
      have hcn : cnt (mF (stF fn foot)) foot ((fn 6).toNat + 1) = cnt (mF fn) foot (fn 6).toNat + 1 := by
        have hz0 := hbz (fn 6).toNat (by omega) (by omega)
        have hmf : mF (stF fn foot) (fn 6).toNat = foot := by rw [mF_st hn c4 c26 (by omega), if_pos (by omega), hz0, if_neg (by decide)]
        rw [cnt, cnt_cg (f := mF (stF fn foot)) (g := mF fn) (fn 6).toNat (fun j hj => by rw [mF_st hn c4 c26 (by omega), if_neg (by omega)]), hmf, if_pos rfl]
      exact A_ret X dX10_steps_55 rfl ⟨congrArg (fun t => some (aI t)) (by rw [qSteps, if_pos (by omega), if_neg (by omega), flp_no, wrn_wr h3 (by omega), hcn]), rfl, fun q a => hq q (by omega), by rw [if_pos (by omega), if_pos (by omega), if_pos (by omega)]; exact ⟨su, dr, pl, ts, tk, nu, hT, cT, fo, ga, li, _, e1, e2, e3, g1, g2, g3, hsd, r3, hnu, (hq _ (by omega)).trans h_this_text, (hq _ (by omega)).trans h_this_text_letters, suC_fr hC (fun q a b => hq q (by omega)), suX_fr hXd (fun q a b => hq q (by omega)), hN2, imC_fr hI0 (fun q a b => hq q (by omega)), imC_fr hI1 (fun q a b => hq q (by omega)), (hq _ (by omega)).trans h_this_partings, (hq _ (by omega)).trans h_this_partings_own, (hq _ (by omega)).trans h_this_partings_ahead, (hq _ (by omega)).trans h_this_partings_sum, (hq _ (by omega)).trans h_this_kinds, r4, hs_rm hun ⟨hn, hbz⟩ hHs (st_dR ⟨hn, hbz⟩ c4 c26), (hq _ (by omega)).trans h_this_seenFoot, (hq _ (by omega)).trans h_this_seenCell, (hq _ (by omega)).trans h_this_seenWear, hSe, jdC_fr hJd (fun q a b => hq q (by omega))⟩⟩
    · refine A_bipush X dX10_steps_29 ?_
      have hq : ∀ q, q ≠ xa + 13 ∧ q ≠ xa + 15 → h23 q = h q := fun q a => hq1 q (by omega) (by omega)
      rw [if_neg c26] at r1 r2
      have hN2 : nowC x.1 h23 (xa + 13) fn 0 := ⟨no, nf, ⟨r1, (hq _ (by omega)).trans h_this_present_owner, r2⟩, hno, hnf⟩
      exact A_ret X dX10_steps_31 rfl ⟨congrArg (fun t => some (aI t)) (by rw [qSteps, if_pos (by omega), if_pos (by omega)]), rfl, fun q a => hq q (by omega), by rw [if_neg (by omega), if_neg (by omega), if_neg (by omega)]; exact ⟨su, dr, pl, ts, tk, nu, hT, cT, fo, ga, li, fd, e1, e2, e3, g1, g2, g3, hsd, (hq _ (by omega)).trans h_this, hnu, (hq _ (by omega)).trans h_this_text, (hq _ (by omega)).trans h_this_text_letters, suC_fr hC (fun q a b => hq q (by omega)), suX_fr hXd (fun q a b => hq q (by omega)), hN2, imC_fr hI0 (fun q a b => hq q (by omega)), imC_fr hI1 (fun q a b => hq q (by omega)), (hq _ (by omega)).trans h_this_partings, (hq _ (by omega)).trans h_this_partings_own, (hq _ (by omega)).trans h_this_partings_ahead, (hq _ (by omega)).trans h_this_partings_sum, (hq _ (by omega)).trans h_this_kinds, (hq _ (by omega)).trans h_this_deeds, hHs, (hq _ (by omega)).trans h_this_seenFoot, (hq _ (by omega)).trans h_this_seenCell, (hq _ (by omega)).trans h_this_seenWear, hSe, jdC_fr hJd (fun q a b => hq q (by omega))⟩⟩
  · refine A_iconst X dX10_steps_7 ?_
    exact A_ret X dX10_steps_8 rfl ⟨congrArg (fun t => some (aI t)) (by rw [qSteps, if_neg (by omega)]), rfl, fun _ _ => rfl, by rw [if_neg (by omega), if_neg (by omega), if_neg (by omega)]; exact hWq⟩
set_option maxRecDepth 100000 in
theorem x_undo {G : aG} {d n : Nat} {h : AH} {xa : Nat} {fs fn fp fi fk ft fe : Int → Int} {un sz sm tr : Int} (hI : xI fs fn fe ft un sz sm) (hW : xW G xa h fs fn fp fi fk ft fe un sz sm tr) : aE G (d + 1) kX10_undo [.ref xa] n h (some (aI (qUndo un))) (fun h' => xFr xa h h' ∧ xW G xa h' fs (if un = 0 then fn else cpF fp fn (9 * (un - 1))) fp fi fk ft fe (if un = 0 then 0 else un - 1) sz sm tr) := by
  have hIq := hI; have hWq := hW; obtain ⟨hok, ⟨hn, hbz⟩, he, hun, ⟨z, hz, hz2, htk⟩, hsm, hse⟩ := hI; obtain ⟨su, dr, pl, ts, tk, nu, hT, cT, fo, ga, li, fd, e1, e2, e3, g1, g2, g3, hsd, h_this, hnu, h_this_text, h_this_text_letters, hC, hXd, hNw, hI0, hI1, h_this_partings, h_this_partings_own, h_this_partings_ahead, h_this_partings_sum, h_this_kinds, h_this_deeds, hHs, h_this_seenFoot, h_this_seenCell, h_this_seenWear, hSe, hJd⟩ := hW; have hNw0 := hNw; obtain ⟨no, nf, ⟨h_this_present, h_this_present_owner, h_this_present_feet⟩, hno, hnf⟩ := hNw; have h_this_told := suC_o hC; have hg := hok.1; have hal := al_b hg
  have h6 := hn.2.1
  refine aCt_of (lv := [some (.ref xa), none]) knX10_undo.1 rfl rfl (Nat.le_of_ble_eq_true rfl) (fun x hG hsc X => ?_)
  subst hG
  by_cases hu0 : un = 0
  · subst hu0
    refine A_al0 X dX10_undo_0 ?_
    refine A_getf X flX10_126 h_this rfl dX10_undo_1 ?_
    refine A_if_le (t := 16) X (by omega) dX10_undo_4 (fun c4 => ?_) (fun c4 => by exfalso; omega)
    refine A_bipush X dX10_undo_16 ?_
    exact A_ret X dX10_undo_18 rfl ⟨rfl, rfl, fun _ _ => rfl, hWq⟩
  · obtain ⟨hs2, hsq⟩ := hs_un (by omega) hHs
    obtain ⟨hdr, hnk⟩ := hHs (un - 1) (by omega) (by omega)
    have esn : sn fp fn un (un - 1 + 1) = fn := by rw [sn, if_neg (by omega)]
    rw [esn] at hdr
    have hdr2 := dR_9 hsq (eq9_r fn) hnk.1.2.1.2 hdr
    have hnk2 := nK_9 hsq hnk
    generalize hF : cpF fp fn (9 * (un - 1)) = f2 at *
    have b6 := hnk2.1.2.1
    clear hdr hsq hnk esn
    generalize hdd : fd (un - 1) = dd at *
    rcases hdr2 with ⟨d1, d2, d3, d4⟩ | ⟨g, w, d1, d2, d3, d4, d5, d6, d7⟩
    · refine A_al0 X dX10_undo_0 ?_
      refine A_getf X flX10_126 h_this rfl dX10_undo_1 ?_
      refine A_if_le (t := 16) X (by omega) dX10_undo_4 (fun c4 => by exfalso; omega) (fun c4 => ?_)
      refine A_al0 X dX10_undo_7 ?_
      refine A_getf X flX10_126 h_this rfl dX10_undo_8 ?_
      refine A_bipush X dX10_undo_11 ?_
      refine A_icmp_le (t := 19) X (by omega) (by omega) dX10_undo_13 (fun c13 => ?_) (fun c13 => by exfalso; omega)
      refine A_al0 X dX10_undo_19 ?_
      refine A_dup X dX10_undo_20 ?_
      refine A_getf X flX10_126 h_this rfl dX10_undo_21 ?_
      refine A_iconst X dX10_undo_24 ?_
      refine A_isub X dX10_undo_25 ?_
      refine A_putf X flX10_126 h_this dX10_undo_26 ?_
      refine A_gen (fun h26 e26 k26 q26 => ?_)
      have h_this := e26
      have h_this_present := (k26 _ (by omega)).trans h_this_present
      have h_this_present_owner := (k26 _ (by omega)).trans h_this_present_owner
      have h_this_present_feet := (k26 _ (by omega)).trans h_this_present_feet
      have h_this_deeds := (k26 _ (by omega)).trans h_this_deeds
      refine A_al0 X dX10_undo_29 ?_
      refine A_getf X flX10_52 h_this rfl dX10_undo_30 ?_
      refine A_al0 X dX10_undo_33 ?_
      refine A_getf X flX10_126 h_this rfl dX10_undo_34 ?_
      refine A_iald X h_this_deeds (by omega) dX10_undo_37 ?_
      rw [hdd]
      refine A_is1 X dX10_undo_38 ?_
      refine A_il1 X dX10_undo_39 ?_
      refine A_iconst X dX10_undo_40 ?_
      refine A_icmp_ne (t := 54) X (by omega) (by omega) dX10_undo_41 (fun c41 => by exfalso; omega) (fun c41 => ?_)
      refine A_al0 X dX10_undo_44 ?_
      refine A_getf X flX10_29 h_this rfl dX10_undo_45 ?_
      refine A_eVv0 X (c_unwalk (by omega) h_this_present) h_this_present knX3_unwalk mlX10_155 dX10_undo_48 (fun h48 p48 => ?_)
      obtain ⟨r1, hq1⟩ := p48
      rw [if_pos (by omega)] at r1
      have hq : ∀ q, q ≠ xa ∧ q ≠ xa + 13 → h48 q = h q := fun q a => by rw [hq1 q (by omega), k26 q (by omega)]
      have h_this := (hq1 _ (by omega)).trans h_this
      have hN2 : nowC x.1 h48 (xa + 13) f2 0 := ⟨no, nf, ⟨by rw [show f2 6 = fn 6 - 1 by omega]; exact r1, (hq1 _ (by omega)).trans h_this_present_owner, (hq1 _ (by omega)).trans h_this_present_feet⟩, fun k a b => by rw [← d3 k a b]; exact hno k a b, fun i a => by rw [← d4 i a]; exact hnf i (by omega)⟩
      refine A_goto (t := 67) X dX10_undo_51 ?_
      refine A_al0 X dX10_undo_67 ?_
      refine A_getf X flX10_126 h_this rfl dX10_undo_68 ?_
      exact A_ret X dX10_undo_71 rfl ⟨congrArg (fun t => some (aI t)) (by rw [qUndo, if_neg hu0]), rfl, fun q a => hq q (by omega), by rw [if_neg hu0, if_neg hu0]; exact ⟨su, dr, pl, ts, tk, nu, hT, cT, fo, ga, li, fd, e1, e2, e3, g1, g2, g3, hsd, h_this, hnu, (hq _ (by omega)).trans h_this_text, (hq _ (by omega)).trans h_this_text_letters, suC_fr hC (fun q a b => hq q (by omega)), suX_fr hXd (fun q a b => hq q (by omega)), hN2, imC_fr hI0 (fun q a b => hq q (by omega)), imC_fr hI1 (fun q a b => hq q (by omega)), (hq _ (by omega)).trans h_this_partings, (hq _ (by omega)).trans h_this_partings_own, (hq _ (by omega)).trans h_this_partings_ahead, (hq _ (by omega)).trans h_this_partings_sum, (hq _ (by omega)).trans h_this_kinds, (hq1 _ (by omega)).trans h_this_deeds, hs2, (hq _ (by omega)).trans h_this_seenFoot, (hq _ (by omega)).trans h_this_seenCell, (hq _ (by omega)).trans h_this_seenWear, hSe, jdC_fr hJd (fun q a b => hq q (by omega))⟩⟩
    · refine A_al0 X dX10_undo_0 ?_
      refine A_getf X flX10_126 h_this rfl dX10_undo_1 ?_
      refine A_if_le (t := 16) X (by omega) dX10_undo_4 (fun c4 => by exfalso; omega) (fun c4 => ?_)
      refine A_al0 X dX10_undo_7 ?_
      refine A_getf X flX10_126 h_this rfl dX10_undo_8 ?_
      refine A_bipush X dX10_undo_11 ?_
      refine A_icmp_le (t := 19) X (by omega) (by omega) dX10_undo_13 (fun c13 => ?_) (fun c13 => by exfalso; omega)
      refine A_al0 X dX10_undo_19 ?_
      refine A_dup X dX10_undo_20 ?_
      refine A_getf X flX10_126 h_this rfl dX10_undo_21 ?_
      refine A_iconst X dX10_undo_24 ?_
      refine A_isub X dX10_undo_25 ?_
      refine A_putf X flX10_126 h_this dX10_undo_26 ?_
      refine A_gen (fun h26 e26 k26 q26 => ?_)
      have h_this := e26
      have h_this_present := (k26 _ (by omega)).trans h_this_present
      have h_this_present_owner := (k26 _ (by omega)).trans h_this_present_owner
      have h_this_present_feet := (k26 _ (by omega)).trans h_this_present_feet
      have h_this_deeds := (k26 _ (by omega)).trans h_this_deeds
      refine A_al0 X dX10_undo_29 ?_
      refine A_getf X flX10_52 h_this rfl dX10_undo_30 ?_
      refine A_al0 X dX10_undo_33 ?_
      refine A_getf X flX10_126 h_this rfl dX10_undo_34 ?_
      refine A_iald X h_this_deeds (by omega) dX10_undo_37 ?_
      rw [hdd]
      refine A_is1 X dX10_undo_38 ?_
      refine A_il1 X dX10_undo_39 ?_
      refine A_iconst X dX10_undo_40 ?_
      refine A_icmp_ne (t := 54) X (by omega) (by omega) dX10_undo_41 (fun c41 => ?_) (fun c41 => by exfalso; omega)
      refine A_al0 X dX10_undo_54 ?_
      refine A_getf X flX10_29 h_this rfl dX10_undo_55 ?_
      refine A_il1 X dX10_undo_58 ?_
      refine A_iconst X dX10_undo_59 ?_
      refine A_idiv X (by omega) (by omega) dX10_undo_60 ?_
      refine A_il1 X dX10_undo_61 ?_
      refine A_iconst X dX10_undo_62 ?_
      refine A_irem X (by omega) (by omega) dX10_undo_63 ?_
      rw [show dd / 3 = g by omega, show dd % 3 = w by omega]
      refine A_eVv2 X (c_put (by omega) h_this_present h_this_present_owner) h_this_present knX3_put mlX10_135 dX10_undo_64 (fun h64 p64 => ?_)
      obtain ⟨r1, hq1⟩ := p64
      have hq : ∀ q, q ≠ xa ∧ q ≠ xa + 14 → h64 q = h q := fun q a => by rw [hq1 q (by omega), k26 q (by omega)]
      have h_this := (hq1 _ (by omega)).trans h_this
      have hN2 : nowC x.1 h64 (xa + 13) f2 0 := ⟨_, nf, ⟨by rw [← d5]; exact (hq1 _ (by omega)).trans h_this_present, r1, (hq1 _ (by omega)).trans h_this_present_feet⟩, fun k a b => by
        by_cases z : k = g
        · rw [z, aiu_s, d4]
        · rw [aiu_n z, ← d6 k a b z]; exact hno k a b, fun i a => by rw [← d7 i a]; exact hnf i (by omega)⟩
      refine A_al0 X dX10_undo_67 ?_
      refine A_getf X flX10_126 h_this rfl dX10_undo_68 ?_
      exact A_ret X dX10_undo_71 rfl ⟨congrArg (fun t => some (aI t)) (by rw [qUndo, if_neg hu0]), rfl, fun q a => hq q (by omega), by rw [if_neg hu0, if_neg hu0]; exact ⟨su, dr, pl, ts, tk, nu, hT, cT, fo, ga, li, fd, e1, e2, e3, g1, g2, g3, hsd, h_this, hnu, (hq _ (by omega)).trans h_this_text, (hq _ (by omega)).trans h_this_text_letters, suC_fr hC (fun q a b => hq q (by omega)), suX_fr hXd (fun q a b => hq q (by omega)), hN2, imC_fr hI0 (fun q a b => hq q (by omega)), imC_fr hI1 (fun q a b => hq q (by omega)), (hq _ (by omega)).trans h_this_partings, (hq _ (by omega)).trans h_this_partings_own, (hq _ (by omega)).trans h_this_partings_ahead, (hq _ (by omega)).trans h_this_partings_sum, (hq _ (by omega)).trans h_this_kinds, (hq1 _ (by omega)).trans h_this_deeds, hs2, (hq _ (by omega)).trans h_this_seenFoot, (hq _ (by omega)).trans h_this_seenCell, (hq _ (by omega)).trans h_this_seenWear, hSe, jdC_fr hJd (fun q a b => hq q (by omega))⟩⟩
