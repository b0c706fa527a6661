/-! the class: read -/
set_option maxRecDepth 100000 in
theorem r_loop {x : aX} {d n : Nat} {h : AH} {ra su : Nat} {ft : Int → Int} {z : Nat} {post : aPost} (X : aOk x (d + 5) cX5_read RX5 "read" (some .int) 0 0 post) (hap : ra + 2 ≤ su) (hz : z ≤ 200) (ht : tOK ft z) (h_letters : h (ra + 1) = some (aIa x.1 200 ft)) (QP : Nat ⊕ ((Int → Int) × Int))
    (hend : ∀ hh : AH, (∃ pl ts tk nu hT cT : Int, inR nu ∧ hh ra = some (aOb 5 (rO ra (z : Int) pl ts tk nu hT cT))) → (∀ f : Nat, QP = .inl f → suX x.1 hh su) → (∀ (fr : Int → Int) (it : Int), QP = .inr (fr, it) → suW x.1 hh su fr) → (∀ q, q ≠ ra → (q < su ∨ su + 5 ≤ q) → hh q = h q) → post (some (aI (sA QP))) n hh) :
    ∀ (k p : Nat) (it : Nat) (fr : Int → Int) (hb cb : Bool) (nu : Int) (hh : AH), z - p ≤ k → p ≤ z → 2 * it ≤ p → sOK fr → inR nu → ps ft z k fr hb cb p (it : Int) = QP → hh ra = some (aOb 5 (rO ra (z : Int) (tkP ft z p : Nat) (sk ft z p : Nat) (tkV ft z p) nu (bI (hb = true)) (bI (cb = true)))) → suW x.1 hh su fr → (∀ q, q ≠ ra → (q < su ∨ su + 5 ≤ q) → hh q = h q) → AW x 0 0 n hh 25 [some (.ref ra), some (.ref su), some (aI (it : Int)), none] [] := by
  have fine : ∀ (p it : Nat) (fr : Int → Int) (hb cb : Bool) (nu : Int) (hh : AH), p ≤ z → 2 * it ≤ p → inR nu → z ≤ sk ft z p → .inr (fr, (it : Int)) = QP → hh ra = some (aOb 5 (rO ra (z : Int) (tkP ft z p : Nat) (sk ft z p : Nat) (tkV ft z p) nu (bI (hb = true)) (bI (cb = true)))) → suW x.1 hh su fr → (∀ q, q ≠ ra → (q < su ∨ su + 5 ≤ q) → hh q = h q) → AW x 0 0 n hh 25 [some (.ref ra), some (.ref su), some (aI (it : Int)), none] [] := by
    intro p it fr hb cb nu hh hp hit hnu hend2 hqp h_this hW hq
    subst hqp
    have e := (tkV_end (p := p) ht).mpr hend2
    refine A_il2 X dX5_read_25 ?_
    refine A_sipush X dX5_read_26 ?_
    refine A_icmp_ge (t := 148) X (by omega) (by omega) dX5_read_29 (fun c29 => by exfalso; omega) (fun c29 => ?_)
    refine A_al0 X dX5_read_32 ?_
    refine A_getf X flX5_37 h_this rfl dX5_read_33 ?_
    refine A_sipush X dX5_read_36 ?_
    refine A_icmp_eq (t := 148) X (by omega) (by omega) dX5_read_39 (fun c39 => ?_) (fun c39 => by exfalso; omega)
    refine A_il2 X dX5_read_148 ?_
    exact A_ret X dX5_read_149 rfl (hend hh ⟨_, _, _, _, _, _, hnu, h_this⟩ (fun f q => by cases q) (fun _ _ q => by cases q; exact hW) hq)
  intro k
  induction k with
  | zero =>
    intro p it fr hb cb nu hh hk hp hit hok hnu hps h_this hW hq
    have e : sk ft z p = p := skP_f (by omega)
    exact fine p it fr hb cb nu hh hp hit hnu (by omega) hps h_this hW hq
  | succ k ih =>
    intro p it fr hb cb nu hh hk hp hit hok hnu hps h_this hW hq
    have h_this_letters := (hq (ra + 1) (by omega) (by omega)).trans h_letters
    have hbd := sk_b (ft := ft) hp
    unfold ps at hps
    by_cases hE : z ≤ sk ft z p
    · rw [if_pos hE] at hps
      exact fine p it fr hb cb nu hh hp hit hnu hE hps h_this hW hq
    · rw [if_neg hE] at hps
      have eV := tkV_end (ft := ft) (p := p) ht
      have bV := tkV_b (ft := ft) (z := z) (p := p) ht
      have h_into := suW_o hW
      have cg := tkV_ch (ft := ft) (z := z) (p := p) (by omega) (c := 103) (by omega)
      have cp := tkV_ch (ft := ft) (z := z) (p := p) (by omega) (c := 112) (by omega)
      have ch_ := tkV_ch (ft := ft) (z := z) (p := p) (by omega) (c := 104) (by omega)
      have cc := tkV_ch (ft := ft) (z := z) (p := p) (by omega) (c := 99) (by omega)
      generalize hs : sk ft z p = s at *
      generalize hr : pItem ft z fr hb cb s = r at *
      have fin : ∀ (hh2 : AH), riP x.1 ra su z (bI ((hb || decide (ft (s : Int) = 104)) = true)) (bI ((cb || decide (ft (s : Int) = 99)) = true)) hh r hh2 → AW x 0 0 n hh2 126 [some (.ref ra), some (.ref su), some (aI (it : Int)), some (aI (bI (isR r = true)))] [] := by
        intro hh2 ⟨⟨hl, hrr⟩, hq2⟩
        cases r with
        | inl f =>
          obtain ⟨⟨pl, tk, nu2, hT, cT, hnu2, h_this⟩, hX⟩ := hl f rfl
          have eB : isR (Sum.inl f : Nat ⊕ ((Int → Int) × Nat)) = false := rfl
          rw [bI_f (by rw [eB]; exact Bool.false_ne_true)]
          dsimp only at hps
          subst hps
          refine A_il3 X dX5_read_126 ?_
          refine A_if_ne (t := 138) X (by omega) dX5_read_127 (fun c127 => by exact absurd c127 (by decide)) (fun c127 => ?_)
          refine A_bipush X dX5_read_130 ?_
          refine A_al0 X dX5_read_132 ?_
          refine A_getf X flX5_53 h_this rfl dX5_read_133 ?_
          refine A_isub X dX5_read_136 ?_
          exact A_ret X dX5_read_137 rfl (hend hh2 ⟨_, _, _, _, _, _, hnu2, h_this⟩ (fun _ _ => hX) (fun _ _ q => by cases q) (fun q h1 h2 => by rw [hq2 q h1 h2, hq q h1 h2]))
        | inr w =>
          obtain ⟨fr3, p3⟩ := w
          obtain ⟨⟨ts, tk, nu2, hnu2, h_this⟩, hW⟩ := hrr fr3 p3 rfl
          have hpb := pItem_b (by omega) hr
          have hok2 := sOK_item (by omega) hok hr
          have h_this_letters := (hq2 _ (by omega) (by omega)).trans h_this_letters
          rw [show bI (isR (Sum.inr (fr3, p3) : Nat ⊕ ((Int → Int) × Nat)) = true) = 1 from bI_t rfl]
          dsimp only at hps
          refine A_il3 X dX5_read_126 ?_
          refine A_if_ne (t := 138) X (by omega) dX5_read_127 (fun c127 => ?_) (fun c127 => by exact absurd c127 (by decide))
          refine A_ii2 X dX5_read_138 ?_
          refine A_al0 X dX5_read_141 ?_
          refine A_eVv0 X (r_next (p := p3) hz hpb.2 ht h_this h_this_letters) h_this knX5_nextToken mlX5_34 dX5_read_142 (fun h142 p142 => ?_)
          obtain ⟨h_this, hq3⟩ := p142
          refine A_goto (t := 25) X dX5_read_145 ?_
          exact A_fg3 (ih p3 (it + 1) fr3 _ _ _ h142 (by omega) hpb.2 (by omega) hok2 (tkN_b hpb.2 hnu2) hps h_this (suW_fr hW (fun q q1 q2 => hq3 q (by omega))) (fun q h1 h2 => by rw [hq3 q h1, hq2 q h1 h2, hq q h1 h2]))
      refine A_il2 X dX5_read_25 ?_
      refine A_sipush X dX5_read_26 ?_
      refine A_icmp_ge (t := 148) X (by omega) (by omega) dX5_read_29 (fun c29 => by exfalso; omega) (fun c29 => ?_)
      refine A_al0 X dX5_read_32 ?_
      refine A_getf X flX5_37 h_this rfl dX5_read_33 ?_
      refine A_sipush X dX5_read_36 ?_
      refine A_icmp_eq (t := 148) X (by omega) (by omega) dX5_read_39 (fun c39 => by exfalso; omega) (fun c39 => ?_)
      refine A_al0 X dX5_read_42 ?_
      refine A_getf X flX5_37 h_this rfl dX5_read_43 ?_
      rcases (show ((tkV ft z p)) = 99 ∨ ((tkV ft z p)) = 103 ∨ ((tkV ft z p)) = 104 ∨ ((tkV ft z p)) = 112 ∨ (((tkV ft z p)) ≠ 99 ∧ ((tkV ft z p)) ≠ 103 ∧ ((tkV ft z p)) ≠ 104 ∧ ((tkV ft z p)) ≠ 112) by omega) with c46 | c46 | c46 | c46 | c46
      · refine A_lookup (t := 115) (off := 69) X (by omega) dX5_read_46 (by simp [Op.lookupswitch.offset, c46]) ?_
        have ep : pItem ft z fr hb cb s = pOne ft z fr s 3 1 6 cb := by rw [pItem, if_neg (by omega), if_neg (by omega), if_neg (by omega), if_pos (cc.1.mp c46)]
        rw [cc.2 c46] at h_this
        refine A_al0 X dX5_read_115 ?_
        refine A_al1 X dX5_read_116 ?_
        refine A_eVi1 X (r_cells (told := cb) rfl hap hok hz (by omega) ht hnu h_this h_this_letters hW) h_this knX5_readCells mlX5_50 dX5_read_117 (fun h117 p117 => ?_)
        refine A_is3 X dX5_read_120 ?_
        refine A_goto (t := 126) X dX5_read_121 ?_
        rw [hr] at ep; rw [← ep] at p117 ⊢
        exact fin h117 (by rw [decide_eq_false (by omega), Bool.or_false, decide_eq_true (by omega), Bool.or_true, bI_t (p := (true = true)) rfl]; exact p117)
      · refine A_lookup (t := 88) (off := 42) X (by omega) dX5_read_46 (by simp [Op.lookupswitch.offset, c46]) ?_
        have ep : pItem ft z fr hb cb s = pGood ft z fr s := by rw [pItem, if_pos (cg.1.mp c46)]
        rw [cg.2 c46] at h_this
        refine A_al0 X dX5_read_88 ?_
        refine A_al1 X dX5_read_89 ?_
        refine A_eVi1 X (r_good hap hok hz (by omega) ht hnu h_this h_this_letters hW) h_this knX5_readGood mlX5_40 dX5_read_90 (fun h90 p90 => ?_)
        refine A_is3 X dX5_read_93 ?_
        refine A_goto (t := 126) X dX5_read_94 ?_
        rw [hr] at ep; rw [← ep] at p90 ⊢
        exact fin h90 (by rw [decide_eq_false (by omega), Bool.or_false, decide_eq_false (by omega), Bool.or_false]; exact p90)
      · refine A_lookup (t := 106) (off := 60) X (by omega) dX5_read_46 (by simp [Op.lookupswitch.offset, c46]) ?_
        have ep : pItem ft z fr hb cb s = pOne ft z fr s 2 0 3 hb := by rw [pItem, if_neg (by omega), if_neg (by omega), if_pos (ch_.1.mp c46)]
        rw [ch_.2 c46] at h_this
        refine A_al0 X dX5_read_106 ?_
        refine A_al1 X dX5_read_107 ?_
        refine A_eVi1 X (r_hops (told := hb) rfl hap hok hz (by omega) ht hnu h_this h_this_letters hW) h_this knX5_readHops mlX5_47 dX5_read_108 (fun h108 p108 => ?_)
        refine A_is3 X dX5_read_111 ?_
        refine A_goto (t := 126) X dX5_read_112 ?_
        rw [hr] at ep; rw [← ep] at p108 ⊢
        exact fin h108 (by rw [decide_eq_true (by omega), Bool.or_true, decide_eq_false (by omega), Bool.or_false, bI_t (p := (true = true)) rfl]; exact p108)
      · refine A_lookup (t := 97) (off := 51) X (by omega) dX5_read_46 (by simp [Op.lookupswitch.offset, c46]) ?_
        have ep : pItem ft z fr hb cb s = pPair ft z fr s := by rw [pItem, if_neg (by omega), if_pos (cp.1.mp c46)]
        rw [cp.2 c46] at h_this
        refine A_al0 X dX5_read_97 ?_
        refine A_al1 X dX5_read_98 ?_
        refine A_eVi1 X (r_pair hap hok hz (by omega) ht hnu h_this h_this_letters hW) h_this knX5_readPair mlX5_44 dX5_read_99 (fun h99 p99 => ?_)
        refine A_is3 X dX5_read_102 ?_
        refine A_goto (t := 126) X dX5_read_103 ?_
        rw [hr] at ep; rw [← ep] at p99 ⊢
        exact fin h99 (by rw [decide_eq_false (by omega), Bool.or_false, decide_eq_false (by omega), Bool.or_false]; exact p99)
      · refine A_lookup (t := 124) (off := 78) X (by omega) dX5_read_46 (by obtain ⟨q0, q1, q2, q3⟩ := c46; simp [Op.lookupswitch.offset, q0, Ne.symm q0, q1, Ne.symm q1, q2, Ne.symm q2, q3, Ne.symm q3]) ?_
        refine A_iconst X dX5_read_124 ?_
        refine A_is3 X dX5_read_125 ?_
        have ep : pItem ft z fr hb cb s = .inl s := by rw [pItem, if_neg (by omega), if_neg (by omega), if_neg (by omega), if_neg (by omega)]
        rw [hr] at ep; subst ep
        exact fin hh (riP_l s rfl hnu h_this (suW_x hW) (fun _ _ _ => rfl))
set_option maxRecDepth 100000 in
theorem r_read {G : aG} {d n : Nat} {h : AH} {ra su : Nat} {pl ts tk nu hT cT : Int} {ft : Int → Int} {z : Nat} (hap : ra + 2 ≤ su) (hz : z ≤ 200) (ht : tOK ft z) (hnu : inR nu) (hX : suX G h su) (h_this : h ra = some (aOb 5 (rO ra (z : Int) pl ts tk nu hT cT))) (h_this_letters : h (ra + 1) = some (aIa G 200 ft)) : aE G (d + 5) kX5_read [.ref ra, .ref su] n h (some (aI (sA (psR ft z)))) (fun h' => (∃ pl ts tk nu hT cT : Int, inR nu ∧ h' ra = some (aOb 5 (rO ra (z : Int) pl ts tk nu hT cT))) ∧ (∀ f : Nat, psR ft z = .inl f → suX G h' su) ∧ (∀ (fr : Int → Int) (it : Int), psR ft z = .inr (fr, it) → suW G h' su fr) ∧ ∀ q, q ≠ ra → (q < su ∨ su + 5 ≤ q) → h' q = h q) := by
  have hX0 := hX
  obtain ⟨a, b, c, e, fw, fq, fm, fv, h_into, -, -, -, -⟩ := hX
  refine aCt_of (lv := [some (.ref ra), some (.ref su), none, none]) knX5_read.1 rfl rfl (Nat.le_of_ble_eq_true rfl) (fun x hG hsc X => ?_)
  subst hG
  refine A_al1 X dX5_read_0 ?_
  refine A_eVv0 X (s_begin hX0) h_into knX6_begin mlX5_19 dX5_read_1 (fun h1 p1 => ?_)
  obtain ⟨hW, hq1⟩ := p1
  have h_this := (hq1 _ (by omega)).trans h_this
  have h_this_letters := (hq1 _ (by omega)).trans h_this_letters
  refine A_al0 X dX5_read_4 ?_
  refine A_iconst X dX5_read_5 ?_
  refine A_putf X flX5_24 h_this dX5_read_6 ?_
  refine A_gen (fun h6 e6 k6 q6 => ?_)
  have h_this := e6
  have h_this_letters := (k6 _ (by omega)).trans h_this_letters
  refine A_al0 X dX5_read_9 ?_
  refine A_iconst X dX5_read_10 ?_
  refine A_putf X flX5_27 h_this dX5_read_11 ?_
  refine A_gen (fun h11 e11 k11 q11 => ?_)
  have h_this := e11
  have h_this_letters := (k11 _ (by omega)).trans h_this_letters
  refine A_al0 X dX5_read_14 ?_
  refine A_iconst X dX5_read_15 ?_
  refine A_putf X flX5_31 h_this dX5_read_16 ?_
  refine A_gen (fun h16 e16 k16 q16 => ?_)
  have h_this := e16
  have h_this_letters := (k16 _ (by omega)).trans h_this_letters
  refine A_iconst X dX5_read_19 ?_
  refine A_is2 X dX5_read_20 ?_
  refine A_al0 X dX5_read_21 ?_
  refine A_eVv0 X (r_next (p := 0) hz (by omega) ht h_this h_this_letters) h_this knX5_nextToken mlX5_34 dX5_read_22 (fun h22 p22 => ?_)
  obtain ⟨h_this, hq2⟩ := p22
  have fr0 : ∀ q, q ≠ ra → h22 q = h1 q := fun q q1 => by rw [hq2 q q1, k16 q q1, k11 q q1, k6 q q1]
  refine r_loop (h := h1) X hap hz ht ?_ (psR ft z) (fun hh a b c e => ⟨rfl, rfl, a, b, c, fun q q1 q2 => by rw [e q q1 q2, hq1 q (by omega)]⟩) 201 0 0 clF false false (tkN ft z 0 nu) h22 (by omega) (by omega) (by omega) sOK_clF (tkN_b (ft := ft) (z := z) (p := 0) (by omega) hnu) rfl ?_ (suW_fr hW (fun q q1 q2 => fr0 q (by omega))) (fun q q1 q2 => fr0 q q1)
  · exact (fr0 (ra + 1) (by omega)).symm.trans ((hq2 _ (by omega)).trans h_this_letters)
  · exact h_this
