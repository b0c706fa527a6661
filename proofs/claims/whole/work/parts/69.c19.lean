/-! the class: suit() -/
theorem pItem_f {ft : Int → Int} {z : Nat} {fr : Int → Int} {ht ct : Bool} {s f : Nat} (hs : s < z) (h : pItem ft z fr ht ct s = .inl f) : f ≤ z := by
  have sk1 : ∀ p, p ≤ z → sk ft z p ≤ z := fun p hp => (sk_b (ft := ft) hp).2
  unfold pItem at h
  split at h
  · unfold pGood at h
    split at h
    · cases h; omega
    split at h
    · cases h; exact sk1 _ (by omega)
    next h1 => have a := nm_b (by omega) h1
               split at h
               · cases h; exact sk1 _ (by omega)
               next h2 => have b := nm_b (by omega) h2
                          split at h
                          · cases h; exact sk1 _ (by omega)
                          · cases h
  split at h
  · unfold pPair at h
    split at h
    · cases h; omega
    split at h
    · cases h; exact sk1 _ (by omega)
    next h1 => have a := nm_b (by omega) h1
               split at h
               · cases h; exact sk1 _ (by omega)
               next h2 => have b := nm_b (by omega) h2
                          split at h
                          · cases h; exact sk1 _ (by omega)
                          split at h
                          · cases h; exact sk1 _ (by omega)
                          next h3 => have c := nm_b (by omega) h3
                                     split at h
                                     · cases h; exact sk1 _ (by omega)
                                     next h4 => have e := nm_b (by omega) h4
                                                split at h
                                                · cases h; exact sk1 _ (by omega)
                                                · cases h
  split at h
  · unfold pOne at h
    split at h
    · cases h; omega
    split at h
    · cases h; exact sk1 _ (by omega)
    next h1 => have a := nm_b (by omega) h1
               split at h
               · cases h; exact sk1 _ (by omega)
               · cases h
  split at h
  · unfold pOne at h
    split at h
    · cases h; omega
    split at h
    · cases h; exact sk1 _ (by omega)
    next h1 => have a := nm_b (by omega) h1
               split at h
               · cases h; exact sk1 _ (by omega)
               · cases h
  · cases h; omega
theorem ps_fl {ft : Int → Int} {z : Nat} : ∀ (k : Nat) (fr : Int → Int) (ht ct : Bool) (p : Nat) (it : Int) (f : Nat), p ≤ z → ps ft z k fr ht ct p it = .inl f → f ≤ z
  | 0, fr, ht, ct, p, it, f, hp, h => by
    unfold ps at h
    cases h
  | k + 1, fr, ht, ct, p, it, f, hp, h => by
    unfold ps at h
    split at h
    · cases h
    next hz => split at h
               · next hi => cases h; exact pItem_f (by omega) hi
               · next hi => exact ps_fl k _ _ _ _ _ _ (pItem_b (by omega) hi).2 h
theorem suC_x {G : aG} {h : AH} {su : Nat} {fs : Int → Int} (hC : suC G h su fs) : suX G h su := by
  obtain ⟨fw, fq, fm, fv, ⟨a1, a2, a3, a4, a5⟩, -, -⟩ := hC
  exact ⟨_, _, _, _, fw, fq, fm, fv, a1, a2, a3, a4, a5⟩
set_option maxRecDepth 100000 in
theorem x_suit {G : aG} {d n : Nat} {h : AH} {xa : Nat} {fs fn fp fi fk ft fe : Int → Int} {un sz sm tr : Int} {z : Nat} (hsz : sz = (z : Int)) (hI : xI fs fn fe ft un sz sm) (hW : xW G xa h fs fn fp fi fk ft fe un sz sm tr) : aE G (d + 6) kX10_suit [.ref xa] n h (some (aI (qSuit ft z))) (fun h' => xFr xa h h' ∧ xW G xa h' (sF (psR ft z) fs) (if isR (psR ft z) = true then bgF else fn) fp fi (if isR (psR ft z) = true then (fun _ => 0) else fk) ft fe (if isR (psR ft z) = true then 0 else un) (if isR (psR ft z) = true then 0 else sz) (if isR (psR ft z) = true then 0 else sm) tr) := by
  have hIq := hI; have hWq := hW
  obtain ⟨hok, ⟨hn, hbz⟩, he, hun, ⟨z0, hz, hz2, htk⟩, hsm, hse⟩ := hI
  have ez : z0 = z := by omega
  subst ez
  subst hsz
  obtain ⟨su, dr, pl, ts, tk, nu, hT, cT, fo, ga, li, fd, e1, e2, e3, g1, g2, g3, hsd, h_this, hnu, h_this_text, h_this_text_letters, hC, hXd, hNw, hI0, hI1, h_this_partings, h_this_partings_own, h_this_partings_ahead, h_this_partings_sum, h_this_kinds, h_this_deeds, hHs, h_this_seenFoot, h_this_seenCell, h_this_seenWear, hSe, hJd⟩ := hW
  have hNw0 := hNw
  have hXd0 := hXd
  obtain ⟨a0, b0, c0, d0, w1, w2, w3, w4, h_this_draft, -, -, -, -⟩ := hXd
  have h_this_told := suC_o hC
  refine aCt_of (lv := [some (.ref xa), none, none]) knX10_suit.1 rfl rfl (Nat.le_of_ble_eq_true rfl) (fun x hG hsc X => ?_)
  subst hG
  unfold qSuit at X
  have rd := fun (dd m : Nat) => r_read (G := x.1) (d := dd) (n := m) (by omega) hz2 htk hnu hXd0 h_this_text h_this_text_letters
  have hfl := ps_fl (ft := ft) (z := z0) 201 clF false false 0 0
  have hit := ps_it (ft := ft) (z := z0) 201 clF false false 0 0
  have hok2 := psR_ok (ft := ft) (z := z0) hok
  rw [show ps ft z0 201 clF false false 0 0 = psR ft z0 from rfl] at hfl hit
  generalize hQ : psR ft z0 = Q at *
  cases Q with
  | inl f =>
    have hf := hfl f (by omega) rfl
    refine A_al0 X dX10_suit_0 ?_
    refine A_getf X flX10_12 h_this rfl dX10_suit_1 ?_
    refine A_al0 X dX10_suit_4 ?_
    refine A_getf X flX10_23 h_this rfl dX10_suit_5 ?_
    refine A_eVi1 X (rd _ _) h_this_text knX5_read mlX10_95 dX10_suit_8 (fun h8 p8 => ?_)
    obtain ⟨⟨pl2, ts2, tk2, nu2, hT2, cT2, hnu2, r1⟩, r2, -, hq0⟩ := p8
    have hq : ∀ q, q ≠ xa + 1 ∧ (q < dr ∨ dr + 5 ≤ q) → h8 q = h q := fun q a => hq0 q a.1 a.2
    rw [show sA (Sum.inl f : Nat ⊕ ((Int → Int) × Int)) = -10 - (f : Int) from rfl]
    refine A_is1 X dX10_suit_11 ?_
    refine A_il1 X dX10_suit_12 ?_
    refine A_if_ge (t := 18) X (by omega) dX10_suit_13 (fun c13 => by exfalso; omega) (fun c13 => ?_)
    refine A_il1 X dX10_suit_16 ?_
    exact A_ret X dX10_suit_17 rfl ⟨rfl, rfl, fun q a => hq q (by omega), ⟨su, dr, _, _, _, _, _, _, fo, ga, li, fd, e1, e2, e3, g1, g2, g3, hsd, (hq _ (by omega)).trans h_this, hnu2, r1, (hq _ (by omega)).trans h_this_text_letters, suC_fr hC (fun q a b => hq q (by omega)), r2 f rfl, nowC_fr hNw0 (fun q a b => hq q (by omega)), imC_fr hI0 (fun q a b => hq q (by omega)), imC_fr hI1 (fun q a b => hq q (by omega)), (hq _ (by omega)).trans h_this_partings, (hq _ (by omega)).trans h_this_partings_own, (hq _ (by omega)).trans h_this_partings_ahead, (hq _ (by omega)).trans h_this_partings_sum, (hq _ (by omega)).trans h_this_kinds, (hq _ (by omega)).trans h_this_deeds, hHs, (hq _ (by omega)).trans h_this_seenFoot, (hq _ (by omega)).trans h_this_seenCell, (hq _ (by omega)).trans h_this_seenWear, hSe, jdC_fr hJd (fun q a b => hq q (by omega))⟩⟩
  | inr w =>
    obtain ⟨fr, it⟩ := w
    have hi2 := hit fr it rfl
    have hok3 : sOK fr := hok2
    refine A_al0 X dX10_suit_0 ?_
    refine A_getf X flX10_12 h_this rfl dX10_suit_1 ?_
    refine A_al0 X dX10_suit_4 ?_
    refine A_getf X flX10_23 h_this rfl dX10_suit_5 ?_
    refine A_eVi1 X (rd _ _) h_this_text knX5_read mlX10_95 dX10_suit_8 (fun h8 p8 => ?_)
    obtain ⟨⟨pl2, ts2, tk2, nu2, hT2, cT2, hnu2, r1⟩, -, r2, hq0⟩ := p8
    have hq8 : ∀ q, q ≠ xa + 1 ∧ (q < dr ∨ dr + 5 ≤ q) → h8 q = h q := fun q a => hq0 q a.1 a.2
    rw [show sA (Sum.inr (fr, it) : Nat ⊕ ((Int → Int) × Int)) = it from rfl]
    obtain ⟨fw2, fq2, fm2, fv2, hA2, hR2⟩ := r2 fr it rfl
    have h_this := (hq8 _ (by omega)).trans h_this
    have h_this_draft := hA2.1
    refine A_is1 X dX10_suit_11 ?_
    refine A_il1 X dX10_suit_12 ?_
    refine A_if_ge (t := 18) X (by omega) dX10_suit_13 (fun c13 => ?_) (fun c13 => by exfalso; omega)
    refine A_al0 X dX10_suit_18 ?_
    refine A_getf X flX10_23 h_this rfl dX10_suit_19 ?_
    refine A_eVv0 X (c_weigh hok3 hR2 hA2) h_this_draft knX6_weigh mlX10_99 dX10_suit_22 (fun h22 p22 => ?_)
    obtain ⟨⟨fv3, hA3, hV3⟩, hq22⟩ := p22
    have h_this := (hq22 _ (by omega)).trans h_this
    have hC22 : suC x.1 h22 dr fr := ⟨fw2, fq2, fm2, fv3, hA3, hR2, hV3⟩
    have h_this_draft := hA3.1
    have r1 := (hq22 _ (by omega)).trans r1
    have hq22b : ∀ q, q ≠ xa + 1 ∧ (q < dr ∨ dr + 5 ≤ q) → h22 q = h q := fun q a => by rw [hq22 q (by omega), hq8 q a]
    refine A_al0 X dX10_suit_25 ?_
    refine A_getf X flX10_19 h_this rfl dX10_suit_26 ?_
    refine A_as2 X dX10_suit_29 ?_
    refine A_al0 X dX10_suit_30 ?_
    refine A_al0 X dX10_suit_31 ?_
    refine A_getf X flX10_23 h_this rfl dX10_suit_32 ?_
    refine A_putf X flX10_19 h_this dX10_suit_35 ?_
    refine A_gen (fun h35 e35 k35 q35 => ?_)
    have h_this := e35
    refine A_al0 X dX10_suit_38 ?_
    refine A_al2 X dX10_suit_39 ?_
    refine A_putf X flX10_23 h_this dX10_suit_40 ?_
    refine A_gen (fun h40 e40 k40 q40 => ?_)
    have h_this := e40
    have hq40 : ∀ q, q ≠ xa → h40 q = h22 q := fun q a => by rw [k40 q a, k35 q a]
    have h_this_text := (hq40 _ (by omega)).trans r1
    refine A_al0 X dX10_suit_43 ?_
    refine A_getf X flX10_12 h_this rfl dX10_suit_44 ?_
    refine A_eVv0 X (r_empty h_this_text) h_this_text knX5_empty mlX10_92 dX10_suit_47 (fun h47 p47 => ?_)
    obtain ⟨r3, hq47⟩ := p47
    have h_this := (hq47 _ (by omega)).trans h_this
    have hq47b : ∀ q, q ≠ xa ∧ q ≠ xa + 1 ∧ (q < dr ∨ dr + 5 ≤ q) → h47 q = h q := fun q a => by rw [hq47 q (by omega), hq40 q (by omega), hq22b q (by omega)]
    obtain ⟨f1, -, -, hx1⟩ := imC_x hI0
    obtain ⟨f2, -, -, hx2⟩ := imC_x hI1
    refine A_al0 X dX10_suit_50 ?_
    refine A_eVv0 X (x_beginAnew (su := dr) (dr := su) h_this (nowX_fr (nowC_x hNw0) (fun q a b => hq47b q (by omega))) (nowX_fr hx1 (fun q a b => hq47b q (by omega))) (nowX_fr hx2 (fun q a b => hq47b q (by omega)))) h_this knX10_beginAnew mlX10_81 dX10_suit_51 (fun h51 p51 => ?_)
    obtain ⟨s1, s2, s3, s4, hq51⟩ := p51
    have hq : ∀ q, q ≠ xa ∧ q ≠ xa + 1 ∧ (q < dr ∨ dr + 5 ≤ q) ∧ (q < xa + 13 ∨ xa + 22 ≤ q) → h51 q = h q := fun q a => by rw [hq51 q (by omega), hq47b q (by omega)]
    have hC51 : suC x.1 h51 dr fr := suC_fr hC22 (fun q a b => by rw [hq51 q (by omega), hq47 q (by omega), hq40 q (by omega)])
    refine A_il1 X dX10_suit_54 ?_
    exact A_ret X dX10_suit_55 rfl ⟨rfl, rfl, fun q a => hq q (by omega), ⟨dr, su, _, _, _, _, _, _, fo, ga, li, fd, e1, e2, e3, g1, g2, g3, hsd.elim (fun q => Or.inr ⟨q.2, q.1⟩) (fun q => Or.inl ⟨q.2, q.1⟩), s1, hnu2, (hq51 _ (by omega)).trans r3, (hq _ (by omega)).trans h_this_text_letters, hC51, suX_fr (suC_x hC) (fun q a b => hq q (by omega)), s2, Or.inr ⟨rfl, s3⟩, Or.inr ⟨rfl, s4⟩, (hq _ (by omega)).trans h_this_partings, (hq _ (by omega)).trans h_this_partings_own, (hq _ (by omega)).trans h_this_partings_ahead, (hq _ (by omega)).trans h_this_partings_sum, (hq _ (by omega)).trans h_this_kinds, (hq _ (by omega)).trans h_this_deeds, hs_0, (hq _ (by omega)).trans h_this_seenFoot, (hq _ (by omega)).trans h_this_seenCell, (hq _ (by omega)).trans h_this_seenWear, (fun k a b => by exfalso; change k < 0 at b; omega), jdC_fr hJd (fun q a b => hq q (by omega))⟩⟩
