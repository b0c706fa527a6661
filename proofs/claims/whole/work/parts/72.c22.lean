/-! the class: judges -/
theorem xW_tr {G : aG} {h h' : AH} {xa : Nat} {fs fn fp fi fk ft fe : Int → Int} {un sz sm tr tr2 : Int} {su dr : Nat} (h0 : h xa = some (aOb 10 (xO xa su dr un sm tr))) (hW : xW G xa h fs fn fp fi fk ft fe un sz sm tr) (h1 : h' xa = some (aOb 10 (xO xa su dr un sm tr2))) (hq : ∀ q, q ≠ xa → h' q = h q) : xW G xa h' fs fn fp fi fk ft fe un sz sm tr2 := by
  obtain ⟨su0, dr0, hsd, hrest⟩ := (show ∃ su0 dr0 : Nat, h xa = some (aOb 10 (xO xa su0 dr0 un sm tr)) ∧ xW G xa h fs fn fp fi fk ft fe un sz sm tr from ⟨su, dr, h0, hW⟩)
  clear hrest hsd
  obtain ⟨su1, dr1, pl, ts, tk, nu, hT, cT, fo, ga, li, fd, e1, e2, e3, g1, g2, g3, hsd, h_this, hnu, h_this_text, h_this_text_letters, hC, hXd, hNw0, hI0, hI1, h_this_partings, h_this_partings_own, h_this_partings_ahead, h_this_partings_sum, h_this_kinds, h_this_deeds, hHs, h_this_seenFoot, h_this_seenCell, h_this_seenWear, hSe, hJd⟩ := hW
  have e : xO xa su dr un sm tr = xO xa su1 dr1 un sm tr := by
    have := h0.symm.trans h_this
    injection this with this
    injection this with this
    injection this
  have es : su = su1 := by unfold xO at e; injection e with _ e; injection e with e _; injection e
  have ed : dr = dr1 := by unfold xO at e; injection e with _ e; injection e with _ e; injection e with e _; injection e
  subst es; subst ed
  exact ⟨su, dr, pl, ts, tk, nu, hT, cT, fo, ga, li, fd, e1, e2, e3, g1, g2, g3, hsd, h1, hnu, (hq _ (by omega)).trans h_this_text, (hq _ (by omega)).trans h_this_text_letters, suC_fr hC (fun q a b => hq q (by omega)), suX_fr hXd (fun q a b => hq q (by omega)), nowC_fr hNw0 (fun q a b => hq q (by omega)), imC_fr hI0 (fun q a b => hq q (by omega)), imC_fr hI1 (fun q a b => hq q (by omega)), (hq _ (by omega)).trans h_this_partings, (hq _ (by omega)).trans h_this_partings_own, (hq _ (by omega)).trans h_this_partings_ahead, (hq _ (by omega)).trans h_this_partings_sum, (hq _ (by omega)).trans h_this_kinds, (hq _ (by omega)).trans h_this_deeds, hHs, (hq _ (by omega)).trans h_this_seenFoot, (hq _ (by omega)).trans h_this_seenCell, (hq _ (by omega)).trans h_this_seenWear, hSe, jdC_fr hJd (fun q a b => hq q (by omega))⟩
set_option maxRecDepth 100000 in
theorem v_judge {G : aG} {d n : Nat} {h : AH} {xa : Nat} {fs fn fp fi fk ft fe : Int → Int} {un sz sm tr : Int} {jr ci : Nat} {side : Int} (hs : side = 0 ∨ side = 1) (h_this : h jr = some (aOb ci [])) (hI : xI fs fn fe ft un sz sm) (hW : xW G xa h fs fn fp fi fk ft fe un sz sm tr) : aE G (d + 3) kX1_verdict [.ref jr, .ref xa, aI side] n h (some (aI (rtV fs fn side))) (fun h' => xW G xa h' fs fn fp fi fk ft fe un sz sm (tr + 1) ∧ ∀ q, q ≠ xa → h' q = h q) := by
  have hIq := hI; have hWq := hW
  obtain ⟨su, dr, pl, ts, tk, nu, hT, cT, fo, ga, li, fd, e1, e2, e3, g1, g2, g3, hsd, h_court, -⟩ := hW
  have hc0 := h_court
  refine aCt_of (lv := [some (.ref jr), some (.ref xa), some (aI side)]) knX1_verdict.1 rfl rfl (Nat.le_of_ble_eq_true rfl) (fun x hG hsc X => ?_)
  subst hG
  refine A_al1 X dX1_verdict_0 ?_
  refine A_dup X dX1_verdict_1 ?_
  refine A_getf X flX1_7 h_court rfl dX1_verdict_2 ?_
  refine A_lconst (z := 1) X dX1_verdict_5 ?_
  refine A_ladd X dX1_verdict_6 ?_
  refine A_putf X flX1_7 h_court dX1_verdict_7 ?_
  refine A_gen (fun h7 e7 k7 q7 => ?_)
  have h_court := e7
  have hW2 := xW_tr hc0 hWq h_court k7
  refine A_al1 X dX1_verdict_10 ?_
  refine A_il2 X dX1_verdict_11 ?_
  refine A_dVNi1 X (x_ownValue hs hIq hW2) h_court knX10_ownValue mlX1_13 dX1_verdict_12 ?_
  exact A_ret X dX1_verdict_15 rfl ⟨rfl, rfl, hW2, k7⟩
theorem suW1 : Cond.instanceMethod kX1_verdict.1 ∈ lw_tbl ∧ Cond.sameMethod kX1_verdict.1.cls kX1_verdict.1.cls kX1_verdict.1.name kX1_verdict.1.desc ∈ lw_tbl ∧ Cond.superclass RX0 RX1 ∈ lw_tbl ∧ Cond.superclass RX9 RX1 ∈ lw_tbl ∧ Cond.superclass RX7 RX1 ∈ lw_tbl := by decide +kernel
theorem suW0 : Cond.sameMethod kX0_verdict.1.cls kX0_verdict.1.cls kX0_verdict.1.name kX0_verdict.1.desc ∈ lw_tbl ∧ Cond.superclass RX2 RX0 ∈ lw_tbl := by decide +kernel
theorem suW9 : Cond.sameMethod kX9_verdict.1.cls kX9_verdict.1.cls kX9_verdict.1.name kX9_verdict.1.desc ∈ lw_tbl ∧ Cond.superclass RX8 RX9 ∈ lw_tbl := by decide +kernel
set_option maxRecDepth 100000 in
theorem v_cobbler {G : aG} {d n : Nat} {h : AH} {xa : Nat} {fs fn fp fi fk ft fe : Int → Int} {un sz sm tr : Int} {jr : Nat} {ci : Nat} {side : Int} (hci : ci < 12) (hs : side = 0 ∨ side = 1) (hjx : jr ≠ xa) (h_this : h jr = some (aOb ci [])) (hI : xI fs fn fe ft un sz sm) (hW : xW G xa h fs fn fp fi fk ft fe un sz sm tr) : aE G (d + 4) kX0_verdict [.ref jr, .ref xa, aI side] n h (some (aI (rtV fs fn side + cnt (mF fn) side (fn 6).toNat))) (fun h' => xW G xa h' fs fn fp fi fk ft fe un sz sm (tr + 11) ∧ ∀ q, q ≠ xa → h' q = h q) := by
  have hIq := hI; have hWq := hW
  obtain ⟨su, dr, pl, ts, tk, nu, hT, cT, fo, ga, li, fd, e1, e2, e3, g1, g2, g3, hsd, h_court, -⟩ := hW
  have hc0 := h_court
  obtain ⟨q0, hq0⟩ : ∃ q0, vwCl[ci]? = some q0 := ⟨_, List.getElem?_eq_getElem (show ci < vwCl.length from hci)⟩
  refine aCt_of (lv := [some (.ref jr), some (.ref xa), some (aI side)]) vdX0.1 rfl rfl (Nat.le_of_ble_eq_true rfl) (fun x hG hsc X => ?_)
  subst hG
  refine A_al1 X dX0_verdict_0 ?_
  refine A_dup X dX0_verdict_1 ?_
  refine A_getf X flX0_7 h_court rfl dX0_verdict_2 ?_
  refine A_ldc2 (z := 10) X kcX0_13 dX0_verdict_5 ?_
  refine A_ladd X dX0_verdict_8 ?_
  refine A_putf X flX0_7 h_court dX0_verdict_9 ?_
  refine A_gen (fun h9 e9 k9 q9 => ?_)
  have h_court := e9
  have h_this := (k9 _ (by omega)).trans h_this
  have hW2 := xW_tr hc0 hWq h_court k9
  refine A_al0 X dX0_verdict_12 ?_
  refine A_al1 X dX0_verdict_13 ?_
  refine A_il2 X dX0_verdict_14 ?_
  refine A_callSU (As := [.ref xa, aI side]) (st := []) X (v_judge (d := d) hs h_this hIq hW2) h_this hq0 knX1_verdict.1 suW1.1 suW1.2.1 suW1.2.2.1 (by decide) rfl mlX0_15 dX0_verdict_15 (fun v n' h' hp => ?_)
  obtain ⟨rfl, rfl, hW3, hq3⟩ := hp
  rw [show tr + 10 + 1 = tr + 11 by omega] at hW3
  have hW30 := hW3
  have hfr : ∀ q, q ≠ xa → h' q = h q := fun q a => by rw [hq3 q a, k9 q a]
  obtain ⟨su3, dr3, -, -, -, -, -, -, -, -, -, -, -, -, -, -, -, -, -, h_court, -, -, -, hC3, -, hN3, -⟩ := hW3
  have hN30 := hN3
  obtain ⟨no3, nf3, ⟨h_court_present, -, -⟩, -, -⟩ := hN3
  refine A_al1 X dX0_verdict_18 ?_
  refine A_getf X flX0_19 h_court rfl dX0_verdict_19 ?_
  refine A_il2 X dX0_verdict_22 ?_
  refine A_dVi1 X (n_stepsOf (by omega) hIq.2.1.1 hN30) h_court_present knX3_stepsOf mlX0_23 dX0_verdict_23 ?_
  refine A_iadd X dX0_verdict_26 ?_
  exact A_ret X dX0_verdict_27 rfl ⟨rfl, rfl, hW30, hfr⟩
set_option maxRecDepth 100000 in
theorem v_umbrella {G : aG} {d n : Nat} {h : AH} {xa : Nat} {fs fn fp fi fk ft fe : Int → Int} {un sz sm tr : Int} {jr : Nat} {ci : Nat} {side : Int} (hci : ci < 12) (hs : side = 0 ∨ side = 1) (hjx : jr ≠ xa) (h_this : h jr = some (aOb ci [])) (hI : xI fs fn fe ft un sz sm) (hW : xW G xa h fs fn fp fi fk ft fe un sz sm tr) : aE G (d + 4) kX9_verdict [.ref jr, .ref xa, aI side] n h (some (aI (rtV fs fn side - nvB fs side (gO fn side (fs 0).toNat) (gO fn (1 - side) (fs 0).toNat)))) (fun h' => xW G xa h' fs fn fp fi fk ft fe un sz sm (tr + 101) ∧ ∀ q, q ≠ xa → h' q = h q) := by
  have hIq := hI; have hWq := hW
  obtain ⟨su, dr, pl, ts, tk, nu, hT, cT, fo, ga, li, fd, e1, e2, e3, g1, g2, g3, hsd, h_court, -⟩ := hW
  have hc0 := h_court
  obtain ⟨q0, hq0⟩ : ∃ q0, vwCl[ci]? = some q0 := ⟨_, List.getElem?_eq_getElem (show ci < vwCl.length from hci)⟩
  refine aCt_of (lv := [some (.ref jr), some (.ref xa), some (aI side)]) vdX9.1 rfl rfl (Nat.le_of_ble_eq_true rfl) (fun x hG hsc X => ?_)
  subst hG
  refine A_al1 X dX9_verdict_0 ?_
  refine A_dup X dX9_verdict_1 ?_
  refine A_getf X flX9_7 h_court rfl dX9_verdict_2 ?_
  refine A_ldc2 (z := 100) X kcX9_13 dX9_verdict_5 ?_
  refine A_ladd X dX9_verdict_8 ?_
  refine A_putf X flX9_7 h_court dX9_verdict_9 ?_
  refine A_gen (fun h9 e9 k9 q9 => ?_)
  have h_court := e9
  have h_this := (k9 _ (by omega)).trans h_this
  have hW2 := xW_tr hc0 hWq h_court k9
  refine A_al0 X dX9_verdict_12 ?_
  refine A_al1 X dX9_verdict_13 ?_
  refine A_il2 X dX9_verdict_14 ?_
  refine A_callSU (As := [.ref xa, aI side]) (st := []) X (v_judge (d := d) hs h_this hIq hW2) h_this hq0 knX1_verdict.1 suW1.1 suW1.2.1 suW1.2.2.2.1 (by decide) rfl mlX9_15 dX9_verdict_15 (fun v n' h' hp => ?_)
  obtain ⟨rfl, rfl, hW3, hq3⟩ := hp
  rw [show tr + 100 + 1 = tr + 101 by omega] at hW3
  have hW30 := hW3
  have hfr : ∀ q, q ≠ xa → h' q = h q := fun q a => by rw [hq3 q a, k9 q a]
  obtain ⟨su3, dr3, -, -, -, -, -, -, -, -, -, -, -, -, -, -, -, -, -, h_court, -, -, -, hC3, -, hN3, -⟩ := hW3
  refine A_al1 X dX9_verdict_18 ?_
  refine A_il2 X dX9_verdict_19 ?_
  refine A_dVNi1 X (x_envyOf hs hIq hW30) h_court knX10_envyOf mlX9_19 dX9_verdict_20 ?_
  refine A_isub X dX9_verdict_23 ?_
  exact A_ret X dX9_verdict_24 rfl ⟨rfl, rfl, hW30, hfr⟩
set_option maxRecDepth 100000 in
theorem v_third {G : aG} {d n : Nat} {h : AH} {xa : Nat} {fs fn fp fi fk ft fe : Int → Int} {un sz sm tr : Int} {jr : Nat} {ci : Nat} {side : Int} (hci : ci < 12) (hs : side = 0 ∨ side = 1) (hjx : jr ≠ xa) (h_this : h jr = some (aOb ci [])) (hI : xI fs fn fe ft un sz sm) (hW : xW G xa h fs fn fp fi fk ft fe un sz sm tr) : aE G (d + 4) kX7_verdict [.ref jr, .ref xa, aI side] n h (some (aI (rtV fs fn side + (pct (gO fn 2 (fs 0).toNat) : Nat)))) (fun h' => xW G xa h' fs fn fp fi fk ft fe un sz sm (tr + 100001) ∧ ∀ q, q ≠ xa → h' q = h q) := by
  have hIq := hI; have hWq := hW
  obtain ⟨su, dr, pl, ts, tk, nu, hT, cT, fo, ga, li, fd, e1, e2, e3, g1, g2, g3, hsd, h_court, -⟩ := hW
  have hc0 := h_court
  obtain ⟨q0, hq0⟩ : ∃ q0, vwCl[ci]? = some q0 := ⟨_, List.getElem?_eq_getElem (show ci < vwCl.length from hci)⟩
  refine aCt_of (lv := [some (.ref jr), some (.ref xa), some (aI side)]) vdX7.1 rfl rfl (Nat.le_of_ble_eq_true rfl) (fun x hG hsc X => ?_)
  subst hG
  refine A_al1 X dX7_verdict_0 ?_
  refine A_dup X dX7_verdict_1 ?_
  refine A_getf X flX7_9 h_court rfl dX7_verdict_2 ?_
  refine A_ldc2 (z := 100000) X kcX7_13 dX7_verdict_5 ?_
  refine A_ladd X dX7_verdict_8 ?_
  refine A_putf X flX7_9 h_court dX7_verdict_9 ?_
  refine A_gen (fun h9 e9 k9 q9 => ?_)
  have h_court := e9
  have h_this := (k9 _ (by omega)).trans h_this
  have hW2 := xW_tr hc0 hWq h_court k9
  refine A_al0 X dX7_verdict_12 ?_
  refine A_al1 X dX7_verdict_13 ?_
  refine A_il2 X dX7_verdict_14 ?_
  refine A_callSU (As := [.ref xa, aI side]) (st := []) X (v_judge (d := d) hs h_this hIq hW2) h_this hq0 knX1_verdict.1 suW1.1 suW1.2.1 suW1.2.2.2.2 (by decide) rfl mlX7_15 dX7_verdict_15 (fun v n' h' hp => ?_)
  obtain ⟨rfl, rfl, hW3, hq3⟩ := hp
  rw [show tr + 100000 + 1 = tr + 100001 by omega] at hW3
  have hW30 := hW3
  have hfr : ∀ q, q ≠ xa → h' q = h q := fun q a => by rw [hq3 q a, k9 q a]
  obtain ⟨su3, dr3, -, -, -, -, -, -, -, -, -, -, -, -, -, -, -, -, -, h_court, -, -, -, hC3, -, hN3, -⟩ := hW3
  have hN30 := hN3
  obtain ⟨no3, nf3, ⟨h_court_present, -, -⟩, -, -⟩ := hN3
  have h_court_told := suC_o hC3
  have hg := hIq.1.1
  refine A_al1 X dX7_verdict_18 ?_
  refine A_getf X flX7_19 h_court rfl dX7_verdict_19 ?_
  refine A_iconst X dX7_verdict_22 ?_
  refine A_al1 X dX7_verdict_23 ?_
  refine A_getf X flX7_23 h_court rfl dX7_verdict_24 ?_
  refine A_getf X flX7_27 h_court_told rfl dX7_verdict_27 ?_
  refine A_dVi2 X (n_setOf hg (by omega) hIq.2.1.1 hN30) h_court_present knX3_setOf mlX7_33 dX7_verdict_30 ?_
  refine A_dSi1 X (j_bitCount (gO fn 2 (fs 0).toNat) rfl (gO_6 (by omega))) knJ6_bitCount_0f7a4 mlX7_39 dX7_verdict_33 ?_
  refine A_iadd X dX7_verdict_36 ?_
  exact A_ret X dX7_verdict_37 rfl ⟨rfl, rfl, hW30, hfr⟩
set_option maxRecDepth 100000 in
theorem v_master {G : aG} {d n : Nat} {h : AH} {xa : Nat} {fs fn fp fi fk ft fe : Int → Int} {un sz sm tr : Int} {jr : Nat} {ci : Nat} {side : Int} (hci : ci < 12) (hs : side = 0 ∨ side = 1) (hjx : jr ≠ xa) (h_this : h jr = some (aOb ci [])) (hI : xI fs fn fe ft un sz sm) (hW : xW G xa h fs fn fp fi fk ft fe un sz sm tr) : aE G (d + 5) kX2_verdict [.ref jr, .ref xa, aI side] n h (some (aI (2 * (rtV fs fn side + cnt (mF fn) side (fn 6).toNat)))) (fun h' => xW G xa h' fs fn fp fi fk ft fe un sz sm (tr + 1011) ∧ ∀ q, q ≠ xa → h' q = h q) := by
  have hIq := hI; have hWq := hW
  obtain ⟨su, dr, pl, ts, tk, nu, hT, cT, fo, ga, li, fd, e1, e2, e3, g1, g2, g3, hsd, h_court, -⟩ := hW
  have hc0 := h_court
  obtain ⟨q0, hq0⟩ : ∃ q0, vwCl[ci]? = some q0 := ⟨_, List.getElem?_eq_getElem (show ci < vwCl.length from hci)⟩
  refine aCt_of (lv := [some (.ref jr), some (.ref xa), some (aI side)]) vdX2.1 rfl rfl (Nat.le_of_ble_eq_true rfl) (fun x hG hsc X => ?_)
  subst hG
  refine A_al1 X dX2_verdict_0 ?_
  refine A_dup X dX2_verdict_1 ?_
  refine A_getf X flX2_7 h_court rfl dX2_verdict_2 ?_
  refine A_ldc2 (z := 1000) X kcX2_13 dX2_verdict_5 ?_
  refine A_ladd X dX2_verdict_8 ?_
  refine A_putf X flX2_7 h_court dX2_verdict_9 ?_
  refine A_gen (fun h9 e9 k9 q9 => ?_)
  have h_court := e9
  have h_this := (k9 _ (by omega)).trans h_this
  have hW2 := xW_tr hc0 hWq h_court k9
  refine A_iconst X dX2_verdict_12 ?_
  refine A_al0 X dX2_verdict_13 ?_
  refine A_al1 X dX2_verdict_14 ?_
  refine A_il2 X dX2_verdict_15 ?_
  refine A_callSU (As := [.ref xa, aI side]) (st := [aI 2]) X (v_cobbler (d := d) hci hs hjx h_this hIq hW2) h_this hq0 vdX0.1 vdX0.2.1 suW0.1 suW0.2 (by decide) rfl mlX2_15 dX2_verdict_16 (fun v n' h' hp => ?_)
  obtain ⟨rfl, rfl, hW3, hq3⟩ := hp
  rw [show tr + 1000 + 11 = tr + 1011 by omega] at hW3
  have hW30 := hW3
  have hfr : ∀ q, q ≠ xa → h' q = h q := fun q a => by rw [hq3 q a, k9 q a]
  obtain ⟨su3, dr3, -, -, -, -, -, -, -, -, -, -, -, -, -, -, -, -, -, h_court, -, -, -, hC3, -, hN3, -⟩ := hW3
  refine A_imul X dX2_verdict_19 ?_
  exact A_ret X dX2_verdict_20 rfl ⟨rfl, rfl, hW30, hfr⟩
set_option maxRecDepth 100000 in
theorem v_torn {G : aG} {d n : Nat} {h : AH} {xa : Nat} {fs fn fp fi fk ft fe : Int → Int} {un sz sm tr : Int} {jr : Nat} {ci : Nat} {side : Int} (hci : ci < 12) (hs : side = 0 ∨ side = 1) (hjx : jr ≠ xa) (h_this : h jr = some (aOb ci [])) (hI : xI fs fn fe ft un sz sm) (hW : xW G xa h fs fn fp fi fk ft fe un sz sm tr) : aE G (d + 5) kX8_verdict [.ref jr, .ref xa, aI side] n h (some (aI (rtV fs fn side - nvB fs side (gO fn side (fs 0).toNat) (gO fn (1 - side) (fs 0).toNat) + side))) (fun h' => xW G xa h' fs fn fp fi fk ft fe un sz sm (tr + 10101) ∧ ∀ q, q ≠ xa → h' q = h q) := by
  have hIq := hI; have hWq := hW
  obtain ⟨su, dr, pl, ts, tk, nu, hT, cT, fo, ga, li, fd, e1, e2, e3, g1, g2, g3, hsd, h_court, -⟩ := hW
  have hc0 := h_court
  obtain ⟨q0, hq0⟩ : ∃ q0, vwCl[ci]? = some q0 := ⟨_, List.getElem?_eq_getElem (show ci < vwCl.length from hci)⟩
  refine aCt_of (lv := [some (.ref jr), some (.ref xa), some (aI side)]) vdX8.1 rfl rfl (Nat.le_of_ble_eq_true rfl) (fun x hG hsc X => ?_)
  subst hG
  refine A_al1 X dX8_verdict_0 ?_
  refine A_dup X dX8_verdict_1 ?_
  refine A_getf X flX8_7 h_court rfl dX8_verdict_2 ?_
  refine A_ldc2 (z := 10000) X kcX8_13 dX8_verdict_5 ?_
  refine A_ladd X dX8_verdict_8 ?_
  refine A_putf X flX8_7 h_court dX8_verdict_9 ?_
  refine A_gen (fun h9 e9 k9 q9 => ?_)
  have h_court := e9
  have h_this := (k9 _ (by omega)).trans h_this
  have hW2 := xW_tr hc0 hWq h_court k9
  refine A_al0 X dX8_verdict_12 ?_
  refine A_al1 X dX8_verdict_13 ?_
  refine A_il2 X dX8_verdict_14 ?_
  refine A_callSU (As := [.ref xa, aI side]) (st := []) X (v_umbrella (d := d) hci hs hjx h_this hIq hW2) h_this hq0 vdX9.1 vdX9.2.1 suW9.1 suW9.2 (by decide) rfl mlX8_15 dX8_verdict_15 (fun v n' h' hp => ?_)
  obtain ⟨rfl, rfl, hW3, hq3⟩ := hp
  rw [show tr + 10000 + 101 = tr + 10101 by omega] at hW3
  have hW30 := hW3
  have hfr : ∀ q, q ≠ xa → h' q = h q := fun q a => by rw [hq3 q a, k9 q a]
  obtain ⟨su3, dr3, -, -, -, -, -, -, -, -, -, -, -, -, -, -, -, -, -, h_court, -, -, -, hC3, -, hN3, -⟩ := hW3
  refine A_il2 X dX8_verdict_18 ?_
  refine A_iadd X dX8_verdict_19 ?_
  exact A_ret X dX8_verdict_20 rfl ⟨rfl, rfl, hW30, hfr⟩
