/-! the class: judges -/
theorem xW_tr {G : aG} {h h' : AH} {xa : Nat} {fs fn fp fi fk ft fe : Int → Int} {un sz sm tr tr2 : Int} {su dr : Nat} (h0 : h xa = some (aOb 10 (xO xa su dr un sm tr))) (hW : xW G xa h fs fn fp fi fk ft fe un sz sm tr) (h1 : h' xa = some (aOb 10 (xO xa su dr un sm tr2))) (hq : ∀ q, q ≠ xa → h' q = h q) : xW G xa h' fs fn fp fi fk ft fe un sz sm tr2 := by
  obtain ⟨su0, dr0, hsd, hrest⟩ := (show ∃ su0 dr0 : Nat, h xa = some (aOb 10 (xO xa su0 dr0 un sm tr)) ∧ xW G xa h fs fn fp fi fk ft fe un sz sm tr from ⟨su, dr, h0, hW⟩)
  clear hrest hsd
  obtain ⟨su1, dr1, pl, ts, tk, nu, hT, cT, fo, ga, li, fd, e1, e2, e3, g1, g2, g3, hsd, h_this, hnu, h_this_text, h_this_text_letters, hC, hXd, hNw0, hI0, hI1, h_this_partings, h_this_partings_own, h_this_partings_ahead, h_this_partings_sum, h_this_kinds, h_this_deeds, hHs, h_this_seenFoot, h_this_seenCell, h_this_seenWear, hSe, hJd⟩ := hW
  have e : xO xa su dr un sm tr = xO xa su1 dr1 un sm tr := by
    have := h0.symm.trans h_this
    injection this with this
    injection this with this
    injection this
  have es : su = su1 := by unfold xO at e; injection e with _ e; injection e with e _; injection e
  have ed : dr = dr1 := by unfold xO at e; injection e with _ e; injection e with _ e; injection e with e _; injection e
  subst es; subst ed
  exact ⟨su, dr, pl, ts, tk, nu, hT, cT, fo, ga, li, fd, e1, e2, e3, g1, g2, g3, hsd, h1, hnu, (hq _ (by omega)).trans h_this_text, (hq _ (by omega)).trans h_this_text_letters, suC_fr hC (fun q a b => hq q (by omega)), suX_fr hXd (fun q a b => hq q (by omega)), nowC_fr hNw0 (fun q a b => hq q (by omega)), imC_fr hI0 (fun q a b => hq q (by omega)), imC_fr hI1 (fun q a b => hq q (by omega)), (hq _ (by omega)).trans h_this_partings, (hq _ (by omega)).trans h_this_partings_own, (hq _ (by omega)).trans h_this_partings_ahead, (hq _ (by omega)).trans h_this_partings_sum, (hq _ (by omega)).trans h_this_kinds, (hq _ (by omega)).trans h_this_deeds, hHs, (hq _ (by omega)).trans h_this_seenFoot, (hq _ (by omega)).trans h_this_seenCell, (hq _ (by omega)).trans h_this_seenWear, hSe, jdC_fr hJd (fun q a b => hq q (by omega))⟩
set_option maxRecDepth 100000 in
theorem v_judge {G : aG} {d n : Nat} {h : AH} {xa : Nat} {fs fn fp fi fk ft fe : Int → Int} {un sz sm tr : Int} {jr ci : Nat} {side : Int} (hs : side = 0 ∨ side = 1) (h_this : h jr = some (aOb ci [])) (hI : xI fs fn fe ft un sz sm) (hW : xW G xa h fs fn fp fi fk ft fe un sz sm tr) : aE G (d + 3) kX1_verdict [.ref jr, .ref xa, aI side] n h (some (aI (rtV fs fn side))) (fun h' => xW G xa h' fs fn fp fi fk ft fe un sz sm (tr + 1) ∧ ∀ q, q ≠ xa → h' q = h q) := by
  have hIq := hI; have hWq := hW
  obtain ⟨su, dr, pl, ts, tk, nu, hT, cT, fo, ga, li, fd, e1, e2, e3, g1, g2, g3, hsd, h_court, -⟩ := hW
  have hc0 := h_court
  refine aCt_of (lv := [some (.ref jr), some (.ref xa), some (aI side)]) knX1_verdict.1 rfl rfl (Nat.le_of_ble_eq_true rfl) (fun x hG hsc X => ?_)
  subst hG
  refine A_al1 X dX1_verdict_0 ?_
  refine A_dup X dX1_verdict_1 ?_
  refine A_getf X flX1_7 h_court rfl dX1_verdict_2 ?_
  refine A_lconst (z := 1) X dX1_verdict_5 ?_
  refine A_ladd X dX1_verdict_6 ?_
  refine A_putf X flX1_7 h_court dX1_verdict_7 ?_
  refine A_gen (fun h7 e7 k7 q7 => ?_)
  have h_court := e7
  have hW2 := xW_tr hc0 hWq h_court k7
  refine A_al1 X dX1_verdict_10 ?_
  refine A_il2 X dX1_verdict_11 ?_
  refine A_dVNi1 X (x_ownValue hs hIq hW2) h_court knX10_ownValue mlX1_13 dX1_verdict_12 ?_
  exact A_ret X dX1_verdict_15 rfl ⟨rfl, rfl, hW2, k7⟩
