/-! the class: images, suit() -/
theorem nowC_9 {G : aG} {h : AH} {r : Nat} {A B : Int → Int} {fl : Int} (h9 : eq9 A B) (h60 : A 6 ≤ 60) (hN : nowC G h r A fl) : nowC G h r B fl := by
  obtain ⟨fo, ff, ⟨a1, a2, a3⟩, b, c⟩ := hN
  have e6 := h9 6 (by omega) (by omega)
  exact ⟨fo, ff, ⟨by rw [← e6]; exact a1, a2, a3⟩, fun k x y => by rw [← h9 k x (by omega)]; exact b k x y, fun i x => by rw [← mF_9 h9 (by omega)]; exact c i (by omega)⟩
theorem imC_9 {G : aG} {h : AH} {r : Nat} {fi fi2 fk fk2 : Int → Int} {i : Int} (hk : fk2 i = fk i) (h9 : eq9 (fun k => fi (9 * i + k)) (fun k => fi2 (9 * i + k))) (hN : imC G h r fi fk i) : imC G h r fi2 fk2 i := by
  rcases hN with ⟨a, b, c⟩ | ⟨a, b⟩
  · exact Or.inl ⟨hk.trans a, nowC_9 h9 c.1.2.1.2 b, nK_9 h9 c⟩
  · exact Or.inr ⟨hk.trans a, b⟩
theorem imC_x {G : aG} {h : AH} {r : Nat} {fi fk : Int → Int} {i : Int} (hN : imC G h r fi fk i) : ∃ fl : Int, fl = fk i ∧ (fl = 0 ∨ fl = 1) ∧ nowX G h r fl := by
  rcases hN with ⟨a, b, c⟩ | ⟨a, b⟩
  · exact ⟨1, a.symm, Or.inr rfl, nowC_x b⟩
  · exact ⟨0, a.symm, Or.inl rfl, b⟩
set_option maxRecDepth 100000 in
theorem x_imageOf {G : aG} {d n : Nat} {h : AH} {xa : Nat} {fs fn fp fi fk ft fe : Int → Int} {un sz sm tr : Int} {i : Int} (hi : i = 0 ∨ i = 1) (hI : xI fs fn fe ft un sz sm) (hW : xW G xa h fs fn fp fi fk ft fe un sz sm tr) : aD G d kX10_imageOf [.ref xa, aI i] n h (some (.ref (if i = 0 then xa + 16 else xa + 19))) := by
  have hIq := hI; have hWq := hW; obtain ⟨hok, ⟨hn, hbz⟩, he, hun, ⟨z, hz, hz2, htk⟩, hsm, hse⟩ := hI; obtain ⟨su, dr, pl, ts, tk, nu, hT, cT, fo, ga, li, fd, e1, e2, e3, g1, g2, g3, hsd, h_this, hnu, h_this_text, h_this_text_letters, hC, hXd, hNw, hI0, hI1, h_this_partings, h_this_partings_own, h_this_partings_ahead, h_this_partings_sum, h_this_kinds, h_this_deeds, hHs, h_this_seenFoot, h_this_seenCell, h_this_seenWear, hSe, hJd⟩ := hW; have hNw0 := hNw; obtain ⟨no, nf, ⟨h_this_present, h_this_present_owner, h_this_present_feet⟩, hno, hnf⟩ := hNw; have h_this_told := suC_o hC; have hg := hok.1; have hal := al_b hg
  refine aCt_of (lv := [some (.ref xa), some (aI i)]) knX10_imageOf.1 rfl rfl (Nat.le_of_ble_eq_true rfl) (fun x hG hsc X => ?_)
  subst hG
  refine A_il1 X dX10_imageOf_0 ?_
  refine A_if_ne (t := 11) X (by omega) dX10_imageOf_1 (fun c1 => ?_) (fun c1 => ?_)
  · refine A_al0 X dX10_imageOf_11 ?_
    refine A_getf X flX10_36 h_this rfl dX10_imageOf_12 ?_
    exact A_reta X dX10_imageOf_15 rfl ⟨by rw [if_neg (by omega)], rfl, rfl⟩
  · refine A_al0 X dX10_imageOf_4 ?_
    refine A_getf X flX10_33 h_this rfl dX10_imageOf_5 ?_
    refine A_goto (t := 15) X dX10_imageOf_8 ?_
    exact A_reta X dX10_imageOf_15 rfl ⟨by rw [if_pos (by omega)], rfl, rfl⟩
set_option maxRecDepth 100000 in
theorem x_keep {G : aG} {d n : Nat} {h : AH} {xa : Nat} {fs fn fp fi fk ft fe : Int → Int} {un sz sm tr : Int} {i : Int} (hi : inR i) (hI : xI fs fn fe ft un sz sm) (hW : xW G xa h fs fn fp fi fk ft fe un sz sm tr) : aE G (d + 2) kX10_keep [.ref xa, aI i] n h (some (aI (qKeep fn i))) (fun h' => xFr xa h h' ∧ xW G xa h' fs fn fp (if isT i then cp9 fn fi 0 (9 * i) else fi) (if isT i then aiu fk i 1 else fk) ft fe un sz sm tr) := by
  have hIq := hI; have hWq := hW; obtain ⟨hok, ⟨hn, hbz⟩, he, hun, ⟨z, hz, hz2, htk⟩, hsm, hse⟩ := hI; obtain ⟨su, dr, pl, ts, tk, nu, hT, cT, fo, ga, li, fd, e1, e2, e3, g1, g2, g3, hsd, h_this, hnu, h_this_text, h_this_text_letters, hC, hXd, hNw, hI0, hI1, h_this_partings, h_this_partings_own, h_this_partings_ahead, h_this_partings_sum, h_this_kinds, h_this_deeds, hHs, h_this_seenFoot, h_this_seenCell, h_this_seenWear, hSe, hJd⟩ := hW; have hNw0 := hNw; obtain ⟨no, nf, ⟨h_this_present, h_this_present_owner, h_this_present_feet⟩, hno, hnf⟩ := hNw; have h_this_told := suC_o hC; have hg := hok.1; have hal := al_b hg
  refine aCt_of (lv := [some (.ref xa), some (aI i), none]) knX10_keep.1 rfl rfl (Nat.le_of_ble_eq_true rfl) (fun x hG hsc X => ?_)
  subst hG
  rcases (show i = 0 ∨ i = 1 ∨ ¬ isT i by omega) with q | q | q
  · subst q
    obtain ⟨fl, hfl, hfl2, hXi⟩ := imC_x hI0
    have hXi0 := hXi
    obtain ⟨st, fo1, ff1, h_res, -, -⟩ := hXi
    have e9 : eq9 fn (fun k => cp9 fn fi 0 (9 * 0) (9 * 0 + k)) := fun k a b => by
      show fn k = cp9 fn fi 0 (9 * 0) (9 * 0 + k)
      rw [cp9, if_pos (by omega)]; congr 1; omega
    have o9 : eq9 (fun k => fi (9 * 1 + k)) (fun k => cp9 fn fi 0 (9 * 0) (9 * 1 + k)) := fun k a b => by
      show fi (9 * 1 + k) = cp9 fn fi 0 (9 * 0) (9 * 1 + k)
      rw [cp9, if_neg (by omega)]
    refine A_il1 X dX10_keep_0 ?_
    refine A_if_lt (t := 9) X (by omega) dX10_keep_1 (fun c1 => by exfalso; omega) (fun c1 => ?_)
    refine A_il1 X dX10_keep_4 ?_
    refine A_iconst X dX10_keep_5 ?_
    refine A_icmp_le (t := 11) X (by omega) (by omega) dX10_keep_6 (fun c6 => ?_) (fun c6 => by exfalso; omega)
    refine A_al0 X dX10_keep_11 ?_
    refine A_il1 X dX10_keep_12 ?_
    refine A_dVa1 X (x_imageOf (by omega) hIq hWq) h_this knX10_imageOf mlX10_246 dX10_keep_13 ?_
    rw [if_pos rfl]
    refine A_as2 X dX10_keep_16 ?_
    refine A_al2 X dX10_keep_17 ?_
    refine A_al0 X dX10_keep_18 ?_
    refine A_getf X flX10_29 h_this rfl dX10_keep_19 ?_
    refine A_eVv1 X (n_become (by omega) hn.2.1.2 hXi0 hNw0) h_res knX3_become mlX10_250 dX10_keep_22 (fun h22 p22 => ?_)
    obtain ⟨hK, hq1⟩ := p22
    obtain ⟨fo2, ff2, ⟨h_res, k2, k3⟩, kk, kl⟩ := hK
    refine A_al2 X dX10_keep_25 ?_
    refine A_iconst X dX10_keep_26 ?_
    refine A_putf X flX10_254 h_res dX10_keep_27 ?_
    refine A_gen (fun h27 e27 k27 q27 => ?_)
    have h_res := e27
    refine A_al2 X dX10_keep_30 ?_
    refine A_getf X flX10_123 h_res rfl dX10_keep_31 ?_
    have hq : ∀ q, (q < xa + 16 ∨ xa + 16 + 3 ≤ q) → h27 q = h q := fun q a => by rw [k27 q (by omega), hq1 q a]
    have hK : nowC x.1 h27 (xa + 16) fn 1 := ⟨fo2, ff2, ⟨h_res, (k27 _ (by omega)).trans k2, (k27 _ (by omega)).trans k3⟩, kk, kl⟩
    exact A_ret X dX10_keep_34 rfl ⟨congrArg (fun t => some (aI t)) (by rw [qKeep, if_pos (by omega)]), rfl, fun q a => hq q (by omega), by rw [if_pos (by omega), if_pos (by omega)]; exact ⟨su, dr, pl, ts, tk, nu, hT, cT, fo, ga, li, fd, e1, e2, e3, g1, g2, g3, hsd, (hq _ (by omega)).trans h_this, hnu, (hq _ (by omega)).trans h_this_text, (hq _ (by omega)).trans h_this_text_letters, suC_fr hC (fun q a b => hq q (by omega)), suX_fr hXd (fun q a b => hq q (by omega)), nowC_fr hNw0 (fun q a b => hq q (by omega)), Or.inl ⟨aiu_s _ _ _, nowC_9 e9 hn.2.1.2 hK, nK_9 e9 ⟨hn, hbz⟩⟩, imC_9 (aiu_n (by decide)) o9 (imC_fr hI1 (fun q a b => hq q (by omega))), (hq _ (by omega)).trans h_this_partings, (hq _ (by omega)).trans h_this_partings_own, (hq _ (by omega)).trans h_this_partings_ahead, (hq _ (by omega)).trans h_this_partings_sum, (hq _ (by omega)).trans h_this_kinds, (hq _ (by omega)).trans h_this_deeds, hHs, (hq _ (by omega)).trans h_this_seenFoot, (hq _ (by omega)).trans h_this_seenCell, (hq _ (by omega)).trans h_this_seenWear, hSe, jdC_fr hJd (fun q a b => hq q (by omega))⟩⟩
  · subst q
    obtain ⟨fl, hfl, hfl2, hXi⟩ := imC_x hI1
    have hXi0 := hXi
    obtain ⟨st, fo1, ff1, h_res, -, -⟩ := hXi
    have e9 : eq9 fn (fun k => cp9 fn fi 0 (9 * 1) (9 * 1 + k)) := fun k a b => by
      show fn k = cp9 fn fi 0 (9 * 1) (9 * 1 + k)
      rw [cp9, if_pos (by omega)]; congr 1; omega
    have o9 : eq9 (fun k => fi (9 * 0 + k)) (fun k => cp9 fn fi 0 (9 * 1) (9 * 0 + k)) := fun k a b => by
      show fi (9 * 0 + k) = cp9 fn fi 0 (9 * 1) (9 * 0 + k)
      rw [cp9, if_neg (by omega)]
    refine A_il1 X dX10_keep_0 ?_
    refine A_if_lt (t := 9) X (by omega) dX10_keep_1 (fun c1 => by exfalso; omega) (fun c1 => ?_)
    refine A_il1 X dX10_keep_4 ?_
    refine A_iconst X dX10_keep_5 ?_
    refine A_icmp_le (t := 11) X (by omega) (by omega) dX10_keep_6 (fun c6 => ?_) (fun c6 => by exfalso; omega)
    refine A_al0 X dX10_keep_11 ?_
    refine A_il1 X dX10_keep_12 ?_
    refine A_dVa1 X (x_imageOf (by omega) hIq hWq) h_this knX10_imageOf mlX10_246 dX10_keep_13 ?_
    rw [if_neg (by decide)]
    refine A_as2 X dX10_keep_16 ?_
    refine A_al2 X dX10_keep_17 ?_
    refine A_al0 X dX10_keep_18 ?_
    refine A_getf X flX10_29 h_this rfl dX10_keep_19 ?_
    refine A_eVv1 X (n_become (by omega) hn.2.1.2 hXi0 hNw0) h_res knX3_become mlX10_250 dX10_keep_22 (fun h22 p22 => ?_)
    obtain ⟨hK, hq1⟩ := p22
    obtain ⟨fo2, ff2, ⟨h_res, k2, k3⟩, kk, kl⟩ := hK
    refine A_al2 X dX10_keep_25 ?_
    refine A_iconst X dX10_keep_26 ?_
    refine A_putf X flX10_254 h_res dX10_keep_27 ?_
    refine A_gen (fun h27 e27 k27 q27 => ?_)
    have h_res := e27
    refine A_al2 X dX10_keep_30 ?_
    refine A_getf X flX10_123 h_res rfl dX10_keep_31 ?_
    have hq : ∀ q, (q < xa + 19 ∨ xa + 19 + 3 ≤ q) → h27 q = h q := fun q a => by rw [k27 q (by omega), hq1 q a]
    have hK : nowC x.1 h27 (xa + 19) fn 1 := ⟨fo2, ff2, ⟨h_res, (k27 _ (by omega)).trans k2, (k27 _ (by omega)).trans k3⟩, kk, kl⟩
    exact A_ret X dX10_keep_34 rfl ⟨congrArg (fun t => some (aI t)) (by rw [qKeep, if_pos (by omega)]), rfl, fun q a => hq q (by omega), by rw [if_pos (by omega), if_pos (by omega)]; exact ⟨su, dr, pl, ts, tk, nu, hT, cT, fo, ga, li, fd, e1, e2, e3, g1, g2, g3, hsd, (hq _ (by omega)).trans h_this, hnu, (hq _ (by omega)).trans h_this_text, (hq _ (by omega)).trans h_this_text_letters, suC_fr hC (fun q a b => hq q (by omega)), suX_fr hXd (fun q a b => hq q (by omega)), nowC_fr hNw0 (fun q a b => hq q (by omega)), imC_9 (aiu_n (by decide)) o9 (imC_fr hI0 (fun q a b => hq q (by omega))), Or.inl ⟨aiu_s _ _ _, nowC_9 e9 hn.2.1.2 hK, nK_9 e9 ⟨hn, hbz⟩⟩, (hq _ (by omega)).trans h_this_partings, (hq _ (by omega)).trans h_this_partings_own, (hq _ (by omega)).trans h_this_partings_ahead, (hq _ (by omega)).trans h_this_partings_sum, (hq _ (by omega)).trans h_this_kinds, (hq _ (by omega)).trans h_this_deeds, hHs, (hq _ (by omega)).trans h_this_seenFoot, (hq _ (by omega)).trans h_this_seenCell, (hq _ (by omega)).trans h_this_seenWear, hSe, jdC_fr hJd (fun q a b => hq q (by omega))⟩⟩
  · refine A_il1 X dX10_keep_0 ?_
    refine A_if_lt (t := 9) X (by omega) dX10_keep_1 (fun c1 => ?_) (fun c1 => ?_)
    · refine A_iconst X dX10_keep_9 ?_
      exact A_ret X dX10_keep_10 rfl ⟨congrArg (fun t => some (aI t)) (by rw [qKeep, if_neg q]), rfl, fun _ _ => rfl, by rw [if_neg q, if_neg q]; exact hWq⟩
    · refine A_il1 X dX10_keep_4 ?_
      refine A_iconst X dX10_keep_5 ?_
      refine A_icmp_le (t := 11) X (by omega) (by omega) dX10_keep_6 (fun c6 => ?_) (fun c6 => ?_)
      · exfalso; omega
      · refine A_iconst X dX10_keep_9 ?_
        exact A_ret X dX10_keep_10 rfl ⟨congrArg (fun t => some (aI t)) (by rw [qKeep, if_neg q]), rfl, fun _ _ => rfl, by rw [if_neg q, if_neg q]; exact hWq⟩
set_option maxRecDepth 100000 in
theorem x_back {G : aG} {d n : Nat} {h : AH} {xa : Nat} {fs fn fp fi fk ft fe : Int → Int} {un sz sm tr : Int} {i : Int} (hi : inR i) (hI : xI fs fn fe ft un sz sm) (hW : xW G xa h fs fn fp fi fk ft fe un sz sm tr) : aE G (d + 2) kX10_back [.ref xa, aI i] n h (some (aI (qBack fi fk i))) (fun h' => xFr xa h h' ∧ xW G xa h' fs (if isT i ∧ fk i ≠ 0 then cpF fi fn (9 * i) else fn) fp fi fk ft fe (if isT i ∧ fk i ≠ 0 then 0 else un) sz sm tr) := by
  have hIq := hI; have hWq := hW; obtain ⟨hok, ⟨hn, hbz⟩, he, hun, ⟨z, hz, hz2, htk⟩, hsm, hse⟩ := hI; obtain ⟨su, dr, pl, ts, tk, nu, hT, cT, fo, ga, li, fd, e1, e2, e3, g1, g2, g3, hsd, h_this, hnu, h_this_text, h_this_text_letters, hC, hXd, hNw, hI0, hI1, h_this_partings, h_this_partings_own, h_this_partings_ahead, h_this_partings_sum, h_this_kinds, h_this_deeds, hHs, h_this_seenFoot, h_this_seenCell, h_this_seenWear, hSe, hJd⟩ := hW; have hNw0 := hNw; obtain ⟨no, nf, ⟨h_this_present, h_this_present_owner, h_this_present_feet⟩, hno, hnf⟩ := hNw; have h_this_told := suC_o hC; have hg := hok.1; have hal := al_b hg
  refine aCt_of (lv := [some (.ref xa), some (aI i), none]) knX10_back.1 rfl rfl (Nat.le_of_ble_eq_true rfl) (fun x hG hsc X => ?_)
  subst hG
  rcases (show i = 0 ∨ i = 1 ∨ ¬ isT i by omega) with q | q | q
  · subst q
    rcases hI0 with ⟨hk1, hK, hKn⟩ | ⟨hk0, hK⟩
    · have hI0 : imC x.1 h (xa + 16) fi fk 0 := Or.inl ⟨hk1, hK, hKn⟩
      have hK0 := hK
      obtain ⟨fo1, ff1, ⟨h_res, -, -⟩, -, -⟩ := hK
      have e9 : eq9 (fun k => fi (9 * 0 + k)) (cpF fi fn (9 * 0)) := fun k a b => by
        show fi (9 * 0 + k) = cpF fi fn (9 * 0) k
        rw [cpF, cp9, if_pos (by omega)]; congr 1; omega
      refine A_il1 X dX10_back_0 ?_
      refine A_if_lt (t := 9) X (by omega) dX10_back_1 (fun c1 => by exfalso; omega) (fun c1 => ?_)
      refine A_il1 X dX10_back_4 ?_
      refine A_iconst X dX10_back_5 ?_
      refine A_icmp_le (t := 11) X (by omega) (by omega) dX10_back_6 (fun c6 => ?_) (fun c6 => by exfalso; omega)
      refine A_al0 X dX10_back_11 ?_
      refine A_il1 X dX10_back_12 ?_
      refine A_dVa1 X (x_imageOf (by omega) hIq hWq) h_this knX10_imageOf mlX10_246 dX10_back_13 ?_
      rw [if_pos rfl]
      refine A_as2 X dX10_back_16 ?_
      refine A_al2 X dX10_back_17 ?_
      refine A_getf X flX10_254 h_res rfl dX10_back_18 ?_
      refine A_if_ne (t := 27) X (by omega) dX10_back_21 (fun c21 => ?_) (fun c21 => by exfalso; omega)
      refine A_al0 X dX10_back_27 ?_
      refine A_getf X flX10_29 h_this rfl dX10_back_28 ?_
      refine A_al2 X dX10_back_31 ?_
      refine A_eVv1 X (n_become (fn := fun k => fi (9 * 0 + k)) (by omega) hKn.1.2.1.2 (nowC_x hNw0) hK0) h_this_present knX3_become mlX10_250 dX10_back_32 (fun h32 p32 => ?_)
      obtain ⟨hP, hq1⟩ := p32
      have h_this := (hq1 _ (by omega)).trans h_this
      obtain ⟨fo2, ff2, ⟨h_this_present, k2, k3⟩, kk, kl⟩ := hP
      refine A_al0 X dX10_back_35 ?_
      refine A_iconst X dX10_back_36 ?_
      refine A_putf X flX10_126 h_this dX10_back_37 ?_
      refine A_gen (fun h37 e37 k37 q37 => ?_)
      have h_this := e37
      have h_this_present := (k37 _ (by omega)).trans h_this_present
      refine A_al0 X dX10_back_40 ?_
      refine A_getf X flX10_29 h_this rfl dX10_back_41 ?_
      refine A_getf X flX10_123 h_this_present rfl dX10_back_44 ?_
      have hq : ∀ q, q ≠ xa ∧ (q < xa + 13 ∨ xa + 16 ≤ q) → h37 q = h q := fun q a => by rw [k37 q (by omega), hq1 q (by omega)]
      have hP : nowC x.1 h37 (xa + 13) (fun k => fi (9 * 0 + k)) 0 := ⟨fo2, ff2, ⟨h_this_present, (k37 _ (by omega)).trans k2, (k37 _ (by omega)).trans k3⟩, kk, kl⟩
      exact A_ret X dX10_back_47 rfl ⟨congrArg (fun t => some (aI t)) (by rw [qBack, if_pos (by omega), if_neg (by omega)]), rfl, fun q a => hq q (by omega), by rw [if_pos (by omega), if_pos (by omega)]; exact ⟨su, dr, pl, ts, tk, nu, hT, cT, fo, ga, li, fd, e1, e2, e3, g1, g2, g3, hsd, e37, hnu, (hq _ (by omega)).trans h_this_text, (hq _ (by omega)).trans h_this_text_letters, suC_fr hC (fun q a b => hq q (by omega)), suX_fr hXd (fun q a b => hq q (by omega)), nowC_9 e9 hKn.1.2.1.2 hP, imC_fr hI0 (fun q a b => hq q (by omega)), imC_fr hI1 (fun q a b => hq q (by omega)), (hq _ (by omega)).trans h_this_partings, (hq _ (by omega)).trans h_this_partings_own, (hq _ (by omega)).trans h_this_partings_ahead, (hq _ (by omega)).trans h_this_partings_sum, (hq _ (by omega)).trans h_this_kinds, (hq _ (by omega)).trans h_this_deeds, hs_0, (hq _ (by omega)).trans h_this_seenFoot, (hq _ (by omega)).trans h_this_seenCell, (hq _ (by omega)).trans h_this_seenWear, hSe, jdC_fr hJd (fun q a b => hq q (by omega))⟩⟩
    · have hI0 : imC x.1 h (xa + 16) fi fk 0 := Or.inr ⟨hk0, hK⟩
      obtain ⟨st, fo1, ff1, h_res, -, -⟩ := hK
      refine A_il1 X dX10_back_0 ?_
      refine A_if_lt (t := 9) X (by omega) dX10_back_1 (fun c1 => by exfalso; omega) (fun c1 => ?_)
      refine A_il1 X dX10_back_4 ?_
      refine A_iconst X dX10_back_5 ?_
      refine A_icmp_le (t := 11) X (by omega) (by omega) dX10_back_6 (fun c6 => ?_) (fun c6 => by exfalso; omega)
      refine A_al0 X dX10_back_11 ?_
      refine A_il1 X dX10_back_12 ?_
      refine A_dVa1 X (x_imageOf (by omega) hIq hWq) h_this knX10_imageOf mlX10_246 dX10_back_13 ?_
      rw [if_pos rfl]
      refine A_as2 X dX10_back_16 ?_
      refine A_al2 X dX10_back_17 ?_
      refine A_getf X flX10_254 h_res rfl dX10_back_18 ?_
      refine A_if_ne (t := 27) X (by omega) dX10_back_21 (fun c21 => by exfalso; omega) (fun c21 => ?_)
      refine A_bipush X dX10_back_24 ?_
      exact A_ret X dX10_back_26 rfl ⟨congrArg (fun t => some (aI t)) (by rw [qBack, if_pos (by omega), if_pos hk0]), rfl, fun _ _ => rfl, by rw [if_neg (by omega), if_neg (by omega)]; exact hWq⟩
  · subst q
    rcases hI1 with ⟨hk1, hK, hKn⟩ | ⟨hk0, hK⟩
    · have hI1 : imC x.1 h (xa + 19) fi fk 1 := Or.inl ⟨hk1, hK, hKn⟩
      have hK0 := hK
      obtain ⟨fo1, ff1, ⟨h_res, -, -⟩, -, -⟩ := hK
      have e9 : eq9 (fun k => fi (9 * 1 + k)) (cpF fi fn (9 * 1)) := fun k a b => by
        show fi (9 * 1 + k) = cpF fi fn (9 * 1) k
        rw [cpF, cp9, if_pos (by omega)]; congr 1; omega
      refine A_il1 X dX10_back_0 ?_
      refine A_if_lt (t := 9) X (by omega) dX10_back_1 (fun c1 => by exfalso; omega) (fun c1 => ?_)
      refine A_il1 X dX10_back_4 ?_
      refine A_iconst X dX10_back_5 ?_
      refine A_icmp_le (t := 11) X (by omega) (by omega) dX10_back_6 (fun c6 => ?_) (fun c6 => by exfalso; omega)
      refine A_al0 X dX10_back_11 ?_
      refine A_il1 X dX10_back_12 ?_
      refine A_dVa1 X (x_imageOf (by omega) hIq hWq) h_this knX10_imageOf mlX10_246 dX10_back_13 ?_
      rw [if_neg (by decide)]
      refine A_as2 X dX10_back_16 ?_
      refine A_al2 X dX10_back_17 ?_
      refine A_getf X flX10_254 h_res rfl dX10_back_18 ?_
      refine A_if_ne (t := 27) X (by omega) dX10_back_21 (fun c21 => ?_) (fun c21 => by exfalso; omega)
      refine A_al0 X dX10_back_27 ?_
      refine A_getf X flX10_29 h_this rfl dX10_back_28 ?_
      refine A_al2 X dX10_back_31 ?_
      refine A_eVv1 X (n_become (fn := fun k => fi (9 * 1 + k)) (by omega) hKn.1.2.1.2 (nowC_x hNw0) hK0) h_this_present knX3_become mlX10_250 dX10_back_32 (fun h32 p32 => ?_)
      obtain ⟨hP, hq1⟩ := p32
      have h_this := (hq1 _ (by omega)).trans h_this
      obtain ⟨fo2, ff2, ⟨h_this_present, k2, k3⟩, kk, kl⟩ := hP
      refine A_al0 X dX10_back_35 ?_
      refine A_iconst X dX10_back_36 ?_
      refine A_putf X flX10_126 h_this dX10_back_37 ?_
      refine A_gen (fun h37 e37 k37 q37 => ?_)
      have h_this := e37
      have h_this_present := (k37 _ (by omega)).trans h_this_present
      refine A_al0 X dX10_back_40 ?_
      refine A_getf X flX10_29 h_this rfl dX10_back_41 ?_
      refine A_getf X flX10_123 h_this_present rfl dX10_back_44 ?_
      have hq : ∀ q, q ≠ xa ∧ (q < xa + 13 ∨ xa + 16 ≤ q) → h37 q = h q := fun q a => by rw [k37 q (by omega), hq1 q (by omega)]
      have hP : nowC x.1 h37 (xa + 13) (fun k => fi (9 * 1 + k)) 0 := ⟨fo2, ff2, ⟨h_this_present, (k37 _ (by omega)).trans k2, (k37 _ (by omega)).trans k3⟩, kk, kl⟩
      exact A_ret X dX10_back_47 rfl ⟨congrArg (fun t => some (aI t)) (by rw [qBack, if_pos (by omega), if_neg (by omega)]), rfl, fun q a => hq q (by omega), by rw [if_pos (by omega), if_pos (by omega)]; exact ⟨su, dr, pl, ts, tk, nu, hT, cT, fo, ga, li, fd, e1, e2, e3, g1, g2, g3, hsd, e37, hnu, (hq _ (by omega)).trans h_this_text, (hq _ (by omega)).trans h_this_text_letters, suC_fr hC (fun q a b => hq q (by omega)), suX_fr hXd (fun q a b => hq q (by omega)), nowC_9 e9 hKn.1.2.1.2 hP, imC_fr hI0 (fun q a b => hq q (by omega)), imC_fr hI1 (fun q a b => hq q (by omega)), (hq _ (by omega)).trans h_this_partings, (hq _ (by omega)).trans h_this_partings_own, (hq _ (by omega)).trans h_this_partings_ahead, (hq _ (by omega)).trans h_this_partings_sum, (hq _ (by omega)).trans h_this_kinds, (hq _ (by omega)).trans h_this_deeds, hs_0, (hq _ (by omega)).trans h_this_seenFoot, (hq _ (by omega)).trans h_this_seenCell, (hq _ (by omega)).trans h_this_seenWear, hSe, jdC_fr hJd (fun q a b => hq q (by omega))⟩⟩
    · have hI1 : imC x.1 h (xa + 19) fi fk 1 := Or.inr ⟨hk0, hK⟩
      obtain ⟨st, fo1, ff1, h_res, -, -⟩ := hK
      refine A_il1 X dX10_back_0 ?_
      refine A_if_lt (t := 9) X (by omega) dX10_back_1 (fun c1 => by exfalso; omega) (fun c1 => ?_)
      refine A_il1 X dX10_back_4 ?_
      refine A_iconst X dX10_back_5 ?_
      refine A_icmp_le (t := 11) X (by omega) (by omega) dX10_back_6 (fun c6 => ?_) (fun c6 => by exfalso; omega)
      refine A_al0 X dX10_back_11 ?_
      refine A_il1 X dX10_back_12 ?_
      refine A_dVa1 X (x_imageOf (by omega) hIq hWq) h_this knX10_imageOf mlX10_246 dX10_back_13 ?_
      rw [if_neg (by decide)]
      refine A_as2 X dX10_back_16 ?_
      refine A_al2 X dX10_back_17 ?_
      refine A_getf X flX10_254 h_res rfl dX10_back_18 ?_
      refine A_if_ne (t := 27) X (by omega) dX10_back_21 (fun c21 => by exfalso; omega) (fun c21 => ?_)
      refine A_bipush X dX10_back_24 ?_
      exact A_ret X dX10_back_26 rfl ⟨congrArg (fun t => some (aI t)) (by rw [qBack, if_pos (by omega), if_pos hk0]), rfl, fun _ _ => rfl, by rw [if_neg (by omega), if_neg (by omega)]; exact hWq⟩
  · refine A_il1 X dX10_back_0 ?_
    refine A_if_lt (t := 9) X (by omega) dX10_back_1 (fun c1 => ?_) (fun c1 => ?_)
    · refine A_iconst X dX10_back_9 ?_
      exact A_ret X dX10_back_10 rfl ⟨congrArg (fun t => some (aI t)) (by rw [qBack, if_neg q]), rfl, fun _ _ => rfl, by rw [if_neg (fun z => q z.1), if_neg (fun z => q z.1)]; exact hWq⟩
    · refine A_il1 X dX10_back_4 ?_
      refine A_iconst X dX10_back_5 ?_
      refine A_icmp_le (t := 11) X (by omega) (by omega) dX10_back_6 (fun c6 => ?_) (fun c6 => ?_)
      · exfalso; omega
      · refine A_iconst X dX10_back_9 ?_
        exact A_ret X dX10_back_10 rfl ⟨congrArg (fun t => some (aI t)) (by rw [qBack, if_neg q]), rfl, fun _ _ => rfl, by rw [if_neg (fun z => q z.1), if_neg (fun z => q z.1)]; exact hWq⟩
set_option maxRecDepth 100000 in
theorem x_beginAnew {G : aG} {d n : Nat} {h : AH} {xa su dr : Nat} {un sm tr f0 f1 f2 : Int} (h_this : h xa = some (aOb 10 (xO xa su dr un sm tr))) (hN : nowX G h (xa + 13) f0) (hN1 : nowX G h (xa + 16) f1) (hN2 : nowX G h (xa + 19) f2) : aE G (d + 1) kX10_beginAnew [.ref xa] n h none (fun h' => h' xa = some (aOb 10 (xO xa su dr 0 0 tr)) ∧ nowC G h' (xa + 13) bgF f0 ∧ nowX G h' (xa + 16) 0 ∧ nowX G h' (xa + 19) 0 ∧ ∀ q, q ≠ xa ∧ (q < xa + 13 ∨ xa + 22 ≤ q) → h' q = h q) := by
  have hN0 := hN
  obtain ⟨s0, o0, w0, h_this_present, -, -⟩ := hN
  obtain ⟨s1, o1, w1, h_this_firstImage, p2, p3⟩ := hN1
  obtain ⟨s2, o2, w2, h_this_secondImage, u2, u3⟩ := hN2
  refine aCt_of (lv := [some (.ref xa)]) knX10_beginAnew.1 rfl rfl (Nat.le_of_ble_eq_true rfl) (fun x hG hsc X => ?_)
  subst hG
  refine A_al0 X dX10_beginAnew_0 ?_
  refine A_getf X flX10_29 h_this rfl dX10_beginAnew_1 ?_
  refine A_eVv0 X (n_begin hN0) h_this_present knX3_begin mlX10_268 dX10_beginAnew_4 (fun h4 p4 => ?_)
  obtain ⟨hB, hq⟩ := p4
  have h_this := (hq _ (by omega)).trans h_this
  have h_this_firstImage := (hq _ (by omega)).trans h_this_firstImage
  have h_this_secondImage := (hq _ (by omega)).trans h_this_secondImage
  refine A_al0 X dX10_beginAnew_7 ?_
  refine A_getf X flX10_33 h_this rfl dX10_beginAnew_8 ?_
  refine A_iconst X dX10_beginAnew_11 ?_
  refine A_putf X flX10_254 h_this_firstImage dX10_beginAnew_12 ?_
  refine A_gen (fun h12 e12 k12 q12 => ?_)
  have h_this := (k12 _ (by omega)).trans h_this
  have h_this_firstImage := e12
  have h_this_secondImage := (k12 _ (by omega)).trans h_this_secondImage
  refine A_al0 X dX10_beginAnew_15 ?_
  refine A_getf X flX10_36 h_this rfl dX10_beginAnew_16 ?_
  refine A_iconst X dX10_beginAnew_19 ?_
  refine A_putf X flX10_254 h_this_secondImage dX10_beginAnew_20 ?_
  refine A_gen (fun h20 e20 k20 q20 => ?_)
  have h_this := (k20 _ (by omega)).trans h_this
  have h_this_firstImage := (k20 _ (by omega)).trans h_this_firstImage
  have h_this_secondImage := e20
  refine A_al0 X dX10_beginAnew_23 ?_
  refine A_iconst X dX10_beginAnew_24 ?_
  refine A_putf X flX10_126 h_this dX10_beginAnew_25 ?_
  refine A_gen (fun h25 e25 k25 q25 => ?_)
  have h_this := e25
  have h_this_firstImage := (k25 _ (by omega)).trans h_this_firstImage
  have h_this_secondImage := (k25 _ (by omega)).trans h_this_secondImage
  refine A_al0 X dX10_beginAnew_28 ?_
  refine A_iconst X dX10_beginAnew_29 ?_
  refine A_putf X flX10_231 h_this dX10_beginAnew_30 ?_
  refine A_gen (fun h30 e30 k30 q30 => ?_)
  have h_this := e30
  have h_this_firstImage := (k30 _ (by omega)).trans h_this_firstImage
  have h_this_secondImage := (k30 _ (by omega)).trans h_this_secondImage
  have hq2 : ∀ q, q ≠ xa ∧ q ≠ xa + 16 ∧ q ≠ xa + 19 → h30 q = h4 q := fun q a => by rw [k30 q (by omega), k25 q (by omega), k20 q (by omega), k12 q (by omega)]
  exact A_retv X dX10_beginAnew_33 rfl ⟨rfl, rfl, h_this, nowC_fr hB (fun q a b => hq2 q (by omega)), ⟨s1, o1, w1, h_this_firstImage, (hq2 _ (by omega)).trans ((hq _ (by omega)).trans p2), (hq2 _ (by omega)).trans ((hq _ (by omega)).trans p3)⟩, ⟨s2, o2, w2, h_this_secondImage, (hq2 _ (by omega)).trans ((hq _ (by omega)).trans u2), (hq2 _ (by omega)).trans ((hq _ (by omega)).trans u3)⟩, fun q a => by rw [hq2 q (by omega), hq q (by omega)]⟩
theorem ps_it {ft : Int → Int} {z : Nat} : ∀ (k : Nat) (fr : Int → Int) (ht ct : Bool) (p : Nat) (it : Int) (fr2 : Int → Int) (it2 : Int), ps ft z k fr ht ct p it = .inr (fr2, it2) → it ≤ it2 ∧ it2 ≤ it + (k : Int)
  | 0, fr, ht, ct, p, it, fr2, it2, h => by
    unfold ps at h
    cases h
    omega
  | k + 1, fr, ht, ct, p, it, fr2, it2, h => by
    unfold ps at h
    split at h
    · cases h; omega
    · split at h
      · cases h
      · have := ps_it k _ _ _ _ _ _ _ h; omega
