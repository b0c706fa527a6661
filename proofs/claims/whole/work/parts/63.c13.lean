/-! the class: soles -/
def agQ (c : Int) (fe : Int → Int) (l r : Int) : Nat → Bool
  | 0 => true
  | k + 1 => agQ c fe l r k && decide (wr (if fe (3 * (k : Int)) = 1 then r else l) (fe (3 * (k : Int) + 1)) c = fe (3 * (k : Int) + 2))
theorem agQ_f {c : Int} {fe : Int → Int} {l r : Int} {k : Nat} (h : agQ c fe l r k = false) : ∀ m, agQ c fe l r (k + m) = false
  | 0 => h
  | m + 1 => by rw [← Nat.add_assoc, agQ, agQ_f h m, Bool.false_and]
theorem wr_b {m cell c : Int} (hm : m < 1000) (hc : 1 ≤ c ∧ c ≤ 6) (hce : 0 ≤ cell) : 0 ≤ wr m cell c ∧ wr m cell c ≤ 1000 := by
  unfold wr
  split
  · omega
  · have h0 : 0 ≤ m - cell + c - 1 := by omega
    refine ⟨Int.ediv_nonneg h0 (by omega), ?_⟩
    have := Int.ediv_le_self c h0
    rcases (show c = 1 ∨ c = 2 ∨ c = 3 ∨ c = 4 ∨ c = 5 ∨ c = 6 by omega) with rfl | rfl | rfl | rfl | rfl | rfl <;> omega
set_option maxRecDepth 100000 in
theorem x_agrees {G : aG} {d n : Nat} {h : AH} {xa : Nat} {fs fn fp fi fk ft fe : Int → Int} {un sz sm tr : Int} {l r : Int} (hl : -100 ≤ l ∧ l ≤ 100) (hr : -100 ≤ r ∧ r ≤ 100) (hI : xI fs fn fe ft un sz sm) (hW : xW G xa h fs fn fp fi fk ft fe un sz sm tr) : aD G (d + 1) kX10_agrees [.ref xa, aI l, aI r] n h (some (aI (bI (agQ (fs 3) fe l r sm.toNat = true)))) := by
  have hIq := hI; have hWq := hW; obtain ⟨hok, ⟨hn, hbz⟩, he, hun, ⟨z, hz, hz2, htk⟩, hsm, hse⟩ := hI; obtain ⟨su, dr, pl, ts, tk, nu, hT, cT, fo, ga, li, fd, e1, e2, e3, g1, g2, g3, hsd, h_this, hnu, h_this_text, h_this_text_letters, hC, hXd, hNw, hI0, hI1, h_this_partings, h_this_partings_own, h_this_partings_ahead, h_this_partings_sum, h_this_kinds, h_this_deeds, hHs, h_this_seenFoot, h_this_seenCell, h_this_seenWear, hSe, hJd⟩ := hW; have hNw0 := hNw; obtain ⟨no, nf, ⟨h_this_present, h_this_present_owner, h_this_present_feet⟩, hno, hnf⟩ := hNw; have h_this_told := suC_o hC; have hg := hok.1; have hal := al_b hg
  have h3 := hok.2.2.2.1
  refine aCt_of (lv := [some (.ref xa), some (aI l), some (aI r), none, none]) knX10_agrees.1 rfl rfl (Nat.le_of_ble_eq_true rfl) (fun x hG hsc X => ?_)
  subst hG
  refine A_iconst X dX10_agrees_0 ?_
  refine A_is3 X dX10_agrees_1 ?_
  refine lp_0 (P := fun i => agQ (fs 3) fe l r i = true → AW x 0 0 n h 2 [some (.ref xa), some (aI l), some (aI r), some (aI (i : Int)), none] []) sm.toNat ?_ ?_ rfl
  · intro ha
    refine A_il3 X dX10_agrees_2 ?_
    refine A_al0 X dX10_agrees_3 ?_
    refine A_getf X flX10_231 h_this rfl dX10_agrees_4 ?_
    refine A_icmp_ge (t := 65) X (by omega) (by omega) dX10_agrees_7 (fun c7 => ?_) (fun c7 => by exfalso; omega)
    refine A_iconst X dX10_agrees_65 ?_
    exact A_retz X dX10_agrees_66 rfl (Or.inr rfl) ⟨bI_1 (ha), rfl, rfl⟩
  · intro i hi ih ha
    obtain ⟨s1, s2⟩ := hse (i : Int) (by omega) (by omega)
    obtain ⟨t1, t2, t3⟩ := hSe (i : Int) (by omega) (by omega)
    have b1 := he (3 * (i : Int) + 1) (by omega) (by omega)
    have b2 := he (3 * (i : Int) + 2) (by omega) (by omega)
    have w1 := wr_b (m := l) (cell := fe (3 * (i : Int) + 1)) (by omega) h3 (by omega)
    have w2 := wr_b (m := r) (cell := fe (3 * (i : Int) + 1)) (by omega) h3 (by omega)
    have no : wr (if fe (3 * (i : Int)) = 1 then r else l) (fe (3 * (i : Int) + 1)) (fs 3) ≠ fe (3 * (i : Int) + 2) → ¬ agQ (fs 3) fe l r sm.toNat = true := fun q z => by
      have := agQ_f (c := fs 3) (fe := fe) (l := l) (r := r) (k := i + 1) (by rw [agQ, decide_eq_false q, Bool.and_false]) (sm.toNat - (i + 1))
      rw [show i + 1 + (sm.toNat - (i + 1)) = sm.toNat by omega, z] at this
      exact Bool.noConfusion this
    refine A_il3 X dX10_agrees_2 ?_
    refine A_al0 X dX10_agrees_3 ?_
    refine A_getf X flX10_231 h_this rfl dX10_agrees_4 ?_
    refine A_icmp_ge (t := 65) X (by omega) (by omega) dX10_agrees_7 (fun c7 => by exfalso; omega) (fun c7 => ?_)
    refine A_il3 X dX10_agrees_10 ?_
    refine A_bipush X dX10_agrees_11 ?_
    refine A_icmp_ge (t := 65) X (by omega) (by omega) dX10_agrees_13 (fun c13 => by exfalso; omega) (fun c13 => ?_)
    refine A_al0 X dX10_agrees_16 ?_
    refine A_getf X flX10_56 h_this rfl dX10_agrees_17 ?_
    refine A_il3 X dX10_agrees_20 ?_
    refine A_iald X h_this_seenFoot (by omega) dX10_agrees_21 ?_
    refine A_iconst X dX10_agrees_22 ?_
    refine A_icmp_ne (t := 30) X (by omega) (by omega) dX10_agrees_23 (fun c23 => ?_) (fun c23 => ?_)
    · refine A_il1 X dX10_agrees_30 ?_
      refine A_is4 X dX10_agrees_31 ?_
      refine A_al0 X dX10_agrees_33 ?_
      refine A_getf X flX10_19 h_this rfl dX10_agrees_34 ?_
      refine A_il4 X dX10_agrees_37 ?_
      refine A_al0 X dX10_agrees_39 ?_
      refine A_getf X flX10_59 h_this rfl dX10_agrees_40 ?_
      refine A_il3 X dX10_agrees_43 ?_
      refine A_iald X h_this_seenCell (by omega) dX10_agrees_44 ?_
      rw [t2]
      refine A_dVi2 X (c_wear h3 (by omega) (by omega) hC) h_this_told knX6_wear mlX10_152 dX10_agrees_45 ?_
      refine A_al0 X dX10_agrees_48 ?_
      refine A_getf X flX10_62 h_this rfl dX10_agrees_49 ?_
      refine A_il3 X dX10_agrees_52 ?_
      refine A_iald X h_this_seenWear (by omega) dX10_agrees_53 ?_
      rw [t3]
      refine A_icmp_eq (t := 59) X (by omega) (by omega) dX10_agrees_54 (fun c54 => ?_) (fun c54 => ?_)
      · refine A_ii3 X dX10_agrees_59 ?_
        refine A_goto (t := 2) X dX10_agrees_62 ?_
        exact A_fg4 (ih (by rw [agQ, ha, Bool.true_and, decide_eq_true_eq, if_neg (by omega)]; omega))
      · refine A_iconst X dX10_agrees_57 ?_
        exact A_retz X dX10_agrees_58 rfl (Or.inl rfl) ⟨bI_0 (no (by rw [if_neg (by omega)]; omega)), rfl, rfl⟩
    · refine A_il2 X dX10_agrees_26 ?_
      refine A_goto (t := 31) X dX10_agrees_27 ?_
      refine A_is4 X dX10_agrees_31 ?_
      refine A_al0 X dX10_agrees_33 ?_
      refine A_getf X flX10_19 h_this rfl dX10_agrees_34 ?_
      refine A_il4 X dX10_agrees_37 ?_
      refine A_al0 X dX10_agrees_39 ?_
      refine A_getf X flX10_59 h_this rfl dX10_agrees_40 ?_
      refine A_il3 X dX10_agrees_43 ?_
      refine A_iald X h_this_seenCell (by omega) dX10_agrees_44 ?_
      rw [t2]
      refine A_dVi2 X (c_wear h3 (by omega) (by omega) hC) h_this_told knX6_wear mlX10_152 dX10_agrees_45 ?_
      refine A_al0 X dX10_agrees_48 ?_
      refine A_getf X flX10_62 h_this rfl dX10_agrees_49 ?_
      refine A_il3 X dX10_agrees_52 ?_
      refine A_iald X h_this_seenWear (by omega) dX10_agrees_53 ?_
      rw [t3]
      refine A_icmp_eq (t := 59) X (by omega) (by omega) dX10_agrees_54 (fun c54 => ?_) (fun c54 => ?_)
      · refine A_ii3 X dX10_agrees_59 ?_
        refine A_goto (t := 2) X dX10_agrees_62 ?_
        exact A_fg4 (ih (by rw [agQ, ha, Bool.true_and, decide_eq_true_eq, if_pos (by omega)]; omega))
      · refine A_iconst X dX10_agrees_57 ?_
        exact A_retz X dX10_agrees_58 rfl (Or.inl rfl) ⟨bI_0 (no (by rw [if_pos (by omega)]; omega)), rfl, rfl⟩
theorem so_ag {ft : Nat → Int} {c : Int} {fe : Int → Int} {o : Int} {st m : Nat} (hc : 1 ≤ c ∧ c ≤ 6) (hm : m ≤ 6) (he : eOK fe) (hse : ∀ k : Int, 0 ≤ k → k < (m : Int) → (fe (3 * k) = 0 ∨ fe (3 * k) = 1) ∧ fe (3 * k + 1) < c) : ∀ k : Nat, k ≤ m → soQ ft c fe o st k = agQ c fe (cnt (flp ft o) 0 st) (cnt (flp ft o) 1 st) k
  | 0, _ => rfl
  | k + 1, hk => by
    obtain ⟨s1, s2⟩ := hse (k : Int) (by omega) (by omega)
    have b1 := he (3 * (k : Int) + 1) (by omega) (by omega)
    rw [soQ, agQ, so_ag hc hm he hse k (by omega), wrn_wr hc (by omega)]
    rcases s1 with e | e
    · rw [e, if_neg (by decide)]
    · rw [e, if_pos rfl]
theorem cnt_flp (ft : Nat → Int) (w : Int) (i : Nat) : ∀ k : Nat, cnt (flp ft (i : Int)) w k = cnt ft w k + (if i < k then (if 1 - ft i = w then 1 else 0) - (if ft i = w then 1 else 0) else 0)
  | 0 => by rw [cnt, cnt, if_neg (by omega)]; rfl
  | k + 1 => by
    rw [cnt, cnt, cnt_flp ft w i k]
    unfold flp
    by_cases q : (k : Int) = (i : Int)
    · have q2 : k = i := by omega
      subst q2
      rw [if_pos rfl]
      repeat' split
      all_goals omega
    · rw [if_neg q]
      repeat' split
      all_goals omega
set_option maxRecDepth 100000 in
theorem x_asTold {G : aG} {d n : Nat} {h : AH} {xa : Nat} {fs fn fp fi fk ft fe : Int → Int} {un sz sm tr : Int} (hI : xI fs fn fe ft un sz sm) (hW : xW G xa h fs fn fp fi fk ft fe un sz sm tr) : aD G (d + 2) kX10_asTold [.ref xa] n h (some (aI (bI (soQ (mF fn) (fs 3) fe (-1) (fn 6).toNat sm.toNat = true)))) := by
  have hIq := hI; have hWq := hW; obtain ⟨hok, ⟨hn, hbz⟩, he, hun, ⟨z, hz, hz2, htk⟩, hsm, hse⟩ := hI; obtain ⟨su, dr, pl, ts, tk, nu, hT, cT, fo, ga, li, fd, e1, e2, e3, g1, g2, g3, hsd, h_this, hnu, h_this_text, h_this_text_letters, hC, hXd, hNw, hI0, hI1, h_this_partings, h_this_partings_own, h_this_partings_ahead, h_this_partings_sum, h_this_kinds, h_this_deeds, hHs, h_this_seenFoot, h_this_seenCell, h_this_seenWear, hSe, hJd⟩ := hW; have hNw0 := hNw; obtain ⟨no, nf, ⟨h_this_present, h_this_present_owner, h_this_present_feet⟩, hno, hnf⟩ := hNw; have h_this_told := suC_o hC; have hg := hok.1; have hal := al_b hg
  have h3 := hok.2.2.2.1
  have hk := n_k hn
  have c0 := cnt_b (mF fn) 0 (fn 6).toNat
  have c1_ := cnt_b (mF fn) 1 (fn 6).toNat
  have e := so_ag (ft := mF fn) (o := -1) (st := (fn 6).toNat) (m := sm.toNat) h3 (by omega) he (fun k a b => hse k a (by omega)) sm.toNat (Nat.le_refl _)
  rw [flp_no] at e
  rw [e]
  refine aCt_of (lv := [some (.ref xa)]) knX10_asTold.1 rfl rfl (Nat.le_of_ble_eq_true rfl) (fun x hG hsc X => ?_)
  subst hG
  refine A_al0 X dX10_asTold_0 ?_
  refine A_al0 X dX10_asTold_1 ?_
  refine A_getf X flX10_29 h_this rfl dX10_asTold_2 ?_
  refine A_iconst X dX10_asTold_5 ?_
  refine A_dVi1 X (n_stepsOf (by omega) hn hNw0) h_this_present knX3_stepsOf mlX10_143 dX10_asTold_6 ?_
  refine A_al0 X dX10_asTold_9 ?_
  refine A_getf X flX10_29 h_this rfl dX10_asTold_10 ?_
  refine A_iconst X dX10_asTold_13 ?_
  refine A_dVi1 X (n_stepsOf (by omega) hn hNw0) h_this_present knX3_stepsOf mlX10_143 dX10_asTold_14 ?_
  refine A_dVi2 X (x_agrees (by omega) (by omega) hIq hWq) h_this knX10_agrees mlX10_234 dX10_asTold_17 ?_
  refine A_ifb_eq (t := 27) X dX10_asTold_20 (fun c20 => ?_) (fun c20 => ?_)
  · refine A_iconst X dX10_asTold_27 ?_
    exact A_ret X dX10_asTold_28 rfl ⟨congrArg (fun t => some (aI t)) (by rw [bI_f c20]), rfl, rfl⟩
  · refine A_iconst X dX10_asTold_23 ?_
    refine A_goto (t := 28) X dX10_asTold_24 ?_
    exact A_ret X dX10_asTold_28 rfl ⟨congrArg (fun t => some (aI t)) (by rw [bI_t c20]), rfl, rfl⟩
theorem wrS_st {ft : Nat → Int} {c : Int} {fe : Int → Int} {st m : Nat} {part : Int} {k : Nat} (h : (st : Int) ≤ 30 * part + (k : Int)) : ∀ j : Nat, wrS ft c fe st m part (k + j) = wrS ft c fe st m part k
  | 0 => rfl
  | j + 1 => by rw [← Nat.add_assoc, wrS, wrS_st h j, if_neg (fun q => by omega), Nat.or_zero]
theorem wrS_lt {ft : Nat → Int} {c : Int} {fe : Int → Int} {st m : Nat} {part : Int} : ∀ k : Nat, wrS ft c fe st m part k < 2 ^ k
  | 0 => by simp [wrS]
  | k + 1 => by
    rw [wrS]
    have ih := wrS_lt (ft := ft) (c := c) (fe := fe) (st := st) (m := m) (part := part) k
    have h2 : 2 ^ k < 2 ^ (k + 1) := Nat.pow_lt_pow_right (by omega) (by omega)
    refine Nat.or_lt_two_pow (by omega) ?_
    split <;> omega
set_option maxRecDepth 100000 in
theorem x_wrong {G : aG} {d n : Nat} {h : AH} {xa : Nat} {fs fn fp fi fk ft fe : Int → Int} {un sz sm tr : Int} {part : Int} (hp : inR part) (hI : xI fs fn fe ft un sz sm) (hW : xW G xa h fs fn fp fi fk ft fe un sz sm tr) : aD G (d + 2) kX10_wrong [.ref xa, aI part] n h (some (aI (qWrong fs fn fe sm part))) := by
  have hIq := hI; have hWq := hW; obtain ⟨hok, ⟨hn, hbz⟩, he, hun, ⟨z, hz, hz2, htk⟩, hsm, hse⟩ := hI; obtain ⟨su, dr, pl, ts, tk, nu, hT, cT, fo, ga, li, fd, e1, e2, e3, g1, g2, g3, hsd, h_this, hnu, h_this_text, h_this_text_letters, hC, hXd, hNw, hI0, hI1, h_this_partings, h_this_partings_own, h_this_partings_ahead, h_this_partings_sum, h_this_kinds, h_this_deeds, hHs, h_this_seenFoot, h_this_seenCell, h_this_seenWear, hSe, hJd⟩ := hW; have hNw0 := hNw; obtain ⟨no, nf, ⟨h_this_present, h_this_present_owner, h_this_present_feet⟩, hno, hnf⟩ := hNw; have h_this_told := suC_o hC; have hg := hok.1; have hal := al_b hg
  have h3 := hok.2.2.2.1
  have hk := n_k hn
  have h60 := hn.2.1
  have c0 := cnt_b (mF fn) 0 (fn 6).toNat
  have c1_ := cnt_b (mF fn) 1 (fn 6).toNat
  have e := fun o => so_ag (ft := mF fn) (o := o) (st := (fn 6).toNat) (m := sm.toNat) h3 (by omega) he (fun k a b => hse k a (by omega)) sm.toNat (Nat.le_refl _)
  have eS : ∀ i : Nat, i < (fn 6).toNat → soQ (mF fn) (fs 3) fe (i : Int) (fn 6).toNat sm.toNat = (if mF fn i = 1 then agQ (fs 3) fe (cnt (mF fn) 0 (fn 6).toNat + 1) (cnt (mF fn) 1 (fn 6).toNat - 1) sm.toNat else agQ (fs 3) fe (cnt (mF fn) 0 (fn 6).toNat - 1) (cnt (mF fn) 1 (fn 6).toNat + 1) sm.toNat) := fun i hi => by
    have hb := mF_b fn i
    rw [e, cnt_flp, cnt_flp, if_pos hi, if_pos hi]
    rcases (show mF fn i = 0 ∨ mF fn i = 1 by omega) with q | q
    · rw [q]; rfl
    · rw [q]; rfl
  generalize hL : agQ (fs 3) fe (cnt (mF fn) 0 (fn 6).toNat - 1) (cnt (mF fn) 1 (fn 6).toNat + 1) sm.toNat = bL at *
  generalize hR : agQ (fs 3) fe (cnt (mF fn) 0 (fn 6).toNat + 1) (cnt (mF fn) 1 (fn 6).toNat - 1) sm.toNat = bR at *
  refine aCt_of (lv := [some (.ref xa), some (aI part), none, none, none, none, none, none, none]) knX10_wrong.1 rfl rfl (Nat.le_of_ble_eq_true rfl) (fun x hG hsc X => ?_)
  subst hG
  refine A_il1 X dX10_wrong_0 ?_
  refine A_if_lt (t := 9) X (by omega) dX10_wrong_1 (fun c1 => ?_) (fun c1 => ?_)
  · refine A_iconst X dX10_wrong_9 ?_
    exact A_ret X dX10_wrong_10 rfl ⟨congrArg (fun t => some (aI t)) (by rw [qWrong, if_neg (by omega)]), rfl, rfl⟩
  · refine A_il1 X dX10_wrong_4 ?_
    refine A_iconst X dX10_wrong_5 ?_
    refine A_icmp_le (t := 11) X (by omega) (by omega) dX10_wrong_6 (fun c6 => ?_) (fun c6 => ?_)
    · refine A_al0 X dX10_wrong_11 ?_
      refine A_getf X flX10_29 h_this rfl dX10_wrong_12 ?_
      refine A_iconst X dX10_wrong_15 ?_
      refine A_dVi1 X (n_stepsOf (by omega) hn hNw0) h_this_present knX3_stepsOf mlX10_143 dX10_wrong_16 ?_
      refine A_is2 X dX10_wrong_19 ?_
      refine A_al0 X dX10_wrong_20 ?_
      refine A_getf X flX10_29 h_this rfl dX10_wrong_21 ?_
      refine A_iconst X dX10_wrong_24 ?_
      refine A_dVi1 X (n_stepsOf (by omega) hn hNw0) h_this_present knX3_stepsOf mlX10_143 dX10_wrong_25 ?_
      refine A_is3 X dX10_wrong_28 ?_
      refine A_al0 X dX10_wrong_29 ?_
      refine A_il2 X dX10_wrong_30 ?_
      refine A_iconst X dX10_wrong_31 ?_
      refine A_isub X dX10_wrong_32 ?_
      refine A_il3 X dX10_wrong_33 ?_
      refine A_iconst X dX10_wrong_34 ?_
      refine A_iadd X dX10_wrong_35 ?_
      refine A_dVi2 X (x_agrees (by omega) (by omega) hIq hWq) h_this knX10_agrees mlX10_234 dX10_wrong_36 ?_
      refine A_is4 X dX10_wrong_39 ?_
      refine A_al0 X dX10_wrong_41 ?_
      refine A_il2 X dX10_wrong_42 ?_
      refine A_iconst X dX10_wrong_43 ?_
      refine A_iadd X dX10_wrong_44 ?_
      refine A_il3 X dX10_wrong_45 ?_
      refine A_iconst X dX10_wrong_46 ?_
      refine A_isub X dX10_wrong_47 ?_
      refine A_dVi2 X (x_agrees (by omega) (by omega) hIq hWq) h_this knX10_agrees mlX10_234 dX10_wrong_48 ?_
      refine A_is5 X dX10_wrong_51 ?_
      refine A_il1 X dX10_wrong_53 ?_
      refine A_bipush X dX10_wrong_54 ?_
      refine A_imul X dX10_wrong_56 ?_
      refine A_is6 X dX10_wrong_57 ?_
      refine A_iconst X dX10_wrong_59 ?_
      refine A_is7 X dX10_wrong_60 ?_
      refine A_iconst X dX10_wrong_62 ?_
      refine A_is8 X dX10_wrong_63 ?_
      rw [hL, hR]
      have eQ : qWrong fs fn fe sm part = ((wrS (mF fn) (fs 3) fe (fn 6).toNat sm.toNat part 30 : Nat) : Int) := by rw [qWrong, if_pos (by omega)]
      rw [eQ] at X
      have hpp : 0 ≤ part ∧ part ≤ 1 := by omega
      refine lp_0 (P := fun i => AW x 0 0 n h 65 [some (.ref xa), some (aI part), some (aI (cnt (mF fn) 0 (fn 6).toNat)), some (aI (cnt (mF fn) 1 (fn 6).toNat)), some (aI (bI (bL = true))), some (aI (bI (bR = true))), some (aI (part * 30)), some (aI ((wrS (mF fn) (fs 3) fe (fn 6).toNat sm.toNat part i : Nat) : Int)), some (aI (i : Int))] []) 30 ?_ ?_
      · refine A_il8 X dX10_wrong_65 ?_
        refine A_bipush X dX10_wrong_67 ?_
        refine A_icmp_ge (t := 131) X (by omega) (by omega) dX10_wrong_69 (fun c69 => ?_) (fun c69 => by exfalso; omega)
        refine A_il7 X dX10_wrong_131 ?_
        exact A_ret X dX10_wrong_133 rfl ⟨rfl, rfl, rfl⟩
      · intro i hi ih
        have hlt := wrS_lt (ft := mF fn) (c := fs 3) (fe := fe) (st := (fn 6).toNat) (m := sm.toNat) (part := part) i
        have hp2 := p2k (show i ≤ 30 by omega)
        have stay : (fn 6) ≤ part * 30 + (i : Int) → wrS (mF fn) (fs 3) fe (fn 6).toNat sm.toNat part 30 = wrS (mF fn) (fs 3) fe (fn 6).toNat sm.toNat part i := fun q => by
          have := wrS_st (ft := mF fn) (c := fs 3) (fe := fe) (st := (fn 6).toNat) (m := sm.toNat) (part := part) (k := i) (by omega) (30 - i)
          rw [← this, show i + (30 - i) = 30 by omega]
        have hfi := fun (q : part * 30 + (i : Int) < fn 6) => hnf (30 * part + (i : Int)).toNat (by omega)
        have so := fun (q : part * 30 + (i : Int) < fn 6) => eS (30 * part + (i : Int)).toNat (by omega)
        rw [show (((30 * part + (i : Int)).toNat : Nat) : Int) = 30 * part + (i : Int) by omega] at hfi so
        have hmb := mF_b fn (30 * part + (i : Int)).toNat
        generalize hMF : mF fn (30 * part + (i : Int)).toNat = mf at *
        have oL := bI_or (p := (bL = true))
        have oR := bI_or (p := (bR = true))
        refine A_il8 X dX10_wrong_65 ?_
        refine A_bipush X dX10_wrong_67 ?_
        refine A_icmp_ge (t := 131) X (by omega) (by omega) dX10_wrong_69 (fun c69 => by exfalso; omega) (fun c69 => ?_)
        refine A_il6 X dX10_wrong_72 ?_
        refine A_il8 X dX10_wrong_74 ?_
        refine A_iadd X dX10_wrong_76 ?_
        refine A_al0 X dX10_wrong_77 ?_
        refine A_getf X flX10_29 h_this rfl dX10_wrong_78 ?_
        refine A_getf X flX10_123 h_this_present rfl dX10_wrong_81 ?_
        refine A_icmp_ge (t := 131) X (by omega) (by omega) dX10_wrong_84 (fun c84 => ?_) (fun c84 => ?_)
        · refine A_il7 X dX10_wrong_131 ?_
          exact A_ret X dX10_wrong_133 rfl ⟨congrArg (fun t => some (aI t)) (by rw [stay (by omega)]), rfl, rfl⟩
        · refine A_al0 X dX10_wrong_87 ?_
          refine A_getf X flX10_29 h_this rfl dX10_wrong_88 ?_
          refine A_il6 X dX10_wrong_91 ?_
          refine A_il8 X dX10_wrong_93 ?_
          refine A_iadd X dX10_wrong_95 ?_
          refine A_dVi1 X (c_footOf (by omega) h_this_present h_this_present_feet) h_this_present knX3_footOf mlX10_213 dX10_wrong_96 ?_
          rw [show part * 30 + (i : Int) = 30 * part + (i : Int) by omega, hfi (by omega)]
          refine A_iconst X dX10_wrong_99 ?_
          refine A_icmp_ne (t := 111) X (by omega) (by omega) dX10_wrong_100 (fun c100 => ?_) (fun c100 => ?_)
          · refine A_il4 X dX10_wrong_111 ?_
            refine A_if_eq (t := 125) X (by omega) dX10_wrong_113 (fun c113 => ?_) (fun c113 => ?_)
            · refine A_ii8 X dX10_wrong_125 ?_
              refine A_goto (t := 65) X dX10_wrong_128 ?_
              have hb : ¬ bL = true := fun q => by rw [bI_t q] at c113; omega
              have e1 : wrS (mF fn) (fs 3) fe (fn 6).toNat sm.toNat part (i + 1) = wrS (mF fn) (fs 3) fe (fn 6).toNat sm.toNat part i := by rw [wrS, if_neg (fun q => by rw [so (by omega), if_neg (by omega)] at q; exact hb q.2), Nat.or_zero]
              rw [e1] at ih; exact ih
            · refine A_il7 X dX10_wrong_116 ?_
              refine A_iconst X dX10_wrong_118 ?_
              refine A_il8 X dX10_wrong_119 ?_
              refine A_ishl X 1 i rfl rfl (by omega) (by omega) dX10_wrong_121 ?_
              refine A_ior X (wrS (mF fn) (fs 3) fe (fn 6).toNat sm.toNat part i) (1 * 2 ^ i) rfl rfl dX10_wrong_122 ?_
              refine A_is7 X dX10_wrong_123 ?_
              refine A_ii8 X dX10_wrong_125 ?_
              refine A_goto (t := 65) X dX10_wrong_128 ?_
              have hb : bL = true := Decidable.byContradiction fun q => by rw [bI_f q] at c113; omega
              have e1 : wrS (mF fn) (fs 3) fe (fn 6).toNat sm.toNat part (i + 1) = wrS (mF fn) (fs 3) fe (fn 6).toNat sm.toNat part i ||| 1 * 2 ^ i := by rw [wrS, if_pos ⟨by omega, by rw [so (by omega), if_neg (by omega)]; exact hb⟩]
              rw [e1] at ih; exact ih
          · refine A_il5 X dX10_wrong_103 ?_
            refine A_if_eq (t := 125) X (by omega) dX10_wrong_105 (fun c105 => ?_) (fun c105 => ?_)
            · refine A_ii8 X dX10_wrong_125 ?_
              refine A_goto (t := 65) X dX10_wrong_128 ?_
              have hb : ¬ bR = true := fun q => by rw [bI_t q] at c105; omega
              have e1 : wrS (mF fn) (fs 3) fe (fn 6).toNat sm.toNat part (i + 1) = wrS (mF fn) (fs 3) fe (fn 6).toNat sm.toNat part i := by rw [wrS, if_neg (fun q => by rw [so (by omega), if_pos (by omega)] at q; exact hb q.2), Nat.or_zero]
              rw [e1] at ih; exact ih
            · refine A_goto (t := 116) X dX10_wrong_108 ?_
              refine A_il7 X dX10_wrong_116 ?_
              refine A_iconst X dX10_wrong_118 ?_
              refine A_il8 X dX10_wrong_119 ?_
              refine A_ishl X 1 i rfl rfl (by omega) (by omega) dX10_wrong_121 ?_
              refine A_ior X (wrS (mF fn) (fs 3) fe (fn 6).toNat sm.toNat part i) (1 * 2 ^ i) rfl rfl dX10_wrong_122 ?_
              refine A_is7 X dX10_wrong_123 ?_
              refine A_ii8 X dX10_wrong_125 ?_
              refine A_goto (t := 65) X dX10_wrong_128 ?_
              have hb : bR = true := Decidable.byContradiction fun q => by rw [bI_f q] at c105; omega
              have e1 : wrS (mF fn) (fs 3) fe (fn 6).toNat sm.toNat part (i + 1) = wrS (mF fn) (fs 3) fe (fn 6).toNat sm.toNat part i ||| 1 * 2 ^ i := by rw [wrS, if_pos ⟨by omega, by rw [so (by omega), if_pos (by omega)]; exact hb⟩]
              rw [e1] at ih; exact ih
    · refine A_iconst X dX10_wrong_9 ?_
      exact A_ret X dX10_wrong_10 rfl ⟨congrArg (fun t => some (aI t)) (by rw [qWrong, if_neg (by omega)]), rfl, rfl⟩
