/-! the class: rate -/
set_option maxRecDepth 100000 in
theorem x_rate {G : aG} {d n : Nat} {h : AH} {xa : Nat} {fs fn fp fi fk ft fe : Int → Int} {un sz sm tr : Int} {kind side : Int} (hk : inR kind) (hs : inR side) (hI : xI fs fn fe ft un sz sm) (hW : xW G xa h fs fn fp fi fk ft fe un sz sm tr) : aE G (d + 6) kX10_rate [.ref xa, aI kind, aI side] n h (some (aI (qRate fs fn kind side))) (fun h' => xFr xa h h' ∧ xW G xa h' fs fn fp fi fk ft fe un sz sm (if okRt kind side then tr + rtT kind else tr)) := by
  have hIq := hI; have hWq := hW; obtain ⟨hok, ⟨hn, hbz⟩, he, hun, ⟨z, hz, hz2, htk⟩, hsm, hse⟩ := hI; obtain ⟨su, dr, pl, ts, tk, nu, hT, cT, fo, ga, li, fd, e1, e2, e3, g1, g2, g3, hsd, h_this, hnu, h_this_text, h_this_text_letters, hC, hXd, hNw, hI0, hI1, h_this_partings, h_this_partings_own, h_this_partings_ahead, h_this_partings_sum, h_this_kinds, h_this_deeds, hHs, h_this_seenFoot, h_this_seenCell, h_this_seenWear, hSe, hJd⟩ := hW; have hNw0 := hNw; obtain ⟨no, nf, ⟨h_this_present, h_this_present_owner, h_this_present_feet⟩, hno, hnf⟩ := hNw; have h_this_told := suC_o hC; have hg := hok.1; have hal := al_b hg
  refine aCt_of (lv := [some (.ref xa), some (aI kind), some (aI side), none]) knX10_rate.1 rfl rfl (Nat.le_of_ble_eq_true rfl) (fun x hG hsc X => ?_)
  subst hG
  refine A_il1 X dX10_rate_0 ?_
  refine A_if_lt (t := 17) X (by omega) dX10_rate_1 (fun c1 => ?_) (fun c1 => ?_)
  · refine A_ldc (z := -1000000) X kcX10_241 dX10_rate_17 ?_
    exact A_ret X dX10_rate_19 rfl ⟨congrArg (fun t => some (aI t)) (by rw [qRate, if_neg (by omega)]), rfl, fun _ _ => rfl, by rw [if_neg (by omega)]; exact hWq⟩
  · refine A_il1 X dX10_rate_4 ?_
    refine A_bipush X dX10_rate_5 ?_
    refine A_icmp_ge (t := 17) X (by omega) (by omega) dX10_rate_7 (fun c7 => ?_) (fun c7 => ?_)
    · refine A_ldc (z := -1000000) X kcX10_241 dX10_rate_17 ?_
      exact A_ret X dX10_rate_19 rfl ⟨congrArg (fun t => some (aI t)) (by rw [qRate, if_neg (by omega)]), rfl, fun _ _ => rfl, by rw [if_neg (by omega)]; exact hWq⟩
    · refine A_il2 X dX10_rate_10 ?_
      refine A_dSi1 X (c_isSide hs) knX10_isSide mlX10_113 dX10_rate_11 ?_
      refine A_ifb_ne (t := 20) X dX10_rate_14 (fun c14 => ?_) (fun c14 => ?_)
      · refine A_al0 X dX10_rate_20 ?_
        refine A_getf X flX10_48 h_this rfl dX10_rate_21 ?_
        refine A_il1 X dX10_rate_24 ?_
        have hsd2 : side = 0 ∨ side = 1 := by omega
        have eE : qEnvy fs fn side = nvB fs side (gO fn side (fs 0).toNat) (gO fn (1 - side) (fs 0).toNat) := by rw [qEnvy, if_pos (by omega)]
        have eK : ∀ k : Int, (if k = 1 then rtV fs fn side + cnt (mF fn) side (fn 6).toNat else if k = 2 then rtV fs fn side - nvB fs side (gO fn side (fs 0).toNat) (gO fn (1 - side) (fs 0).toNat) else if k = 3 then 2 * (rtV fs fn side + cnt (mF fn) side (fn 6).toNat) else if k = 4 then rtV fs fn side - nvB fs side (gO fn side (fs 0).toNat) (gO fn (1 - side) (fs 0).toNat) + side else if k = 5 then rtV fs fn side + (pct (gO fn 2 (fs 0).toNat) : Nat) else rtV fs fn side) = rtK fs fn k side := fun k => by rw [rtK, eE]
        rcases (show kind = 0 ∨ kind = 1 ∨ kind = 2 ∨ kind = 3 ∨ kind = 4 ∨ kind = 5 by omega) with q | q | q | q | q | q
        · subst q
          have hj := hJd.1
          refine A_aald (r := xa + 31) X h_this_kinds 0 rfl (by decide) rfl dX10_rate_25 ?_
          refine A_as3 X dX10_rate_26 ?_
          refine A_al3 X dX10_rate_27 ?_
          refine A_ifnonnull (t := 36) X dX10_rate_28 ?_
          refine A_al3 X dX10_rate_36 ?_
          refine A_al0 X dX10_rate_37 ?_
          refine A_il2 X dX10_rate_38 ?_
          refine A_callV (As := [.ref xa, aI side]) (st := []) X (v_judge (d := d + 2) hsd2 hj hIq hWq) hj rfl knX1_verdict rfl mlX10_242 dX10_rate_39 (fun v n' h' hp => ?_)
          obtain ⟨rfl, rfl, hW3, hq3⟩ := hp
          exact A_ret X dX10_rate_42 rfl ⟨congrArg (fun t => some (aI t)) (by rw [qRate, if_pos (by omega)]; exact eK 0), rfl, fun q a => hq3 q (by omega), by rw [if_pos (by omega)]; exact hW3⟩
        · subst q
          have hj := hJd.2.1
          refine A_aald (r := xa + 32) X h_this_kinds 1 rfl (by decide) rfl dX10_rate_25 ?_
          refine A_as3 X dX10_rate_26 ?_
          refine A_al3 X dX10_rate_27 ?_
          refine A_ifnonnull (t := 36) X dX10_rate_28 ?_
          refine A_al3 X dX10_rate_36 ?_
          refine A_al0 X dX10_rate_37 ?_
          refine A_il2 X dX10_rate_38 ?_
          refine A_callU (As := [.ref xa, aI side]) (st := []) X (v_cobbler (d := d + 1) (by omega) hsd2 (by omega) hj hIq hWq) hj rfl vdX0 knX1_verdict.1 rfl suW1.1 suW1.2.1 rfl mlX10_242 dX10_rate_39 (fun v n' h' hp => ?_)
          obtain ⟨rfl, rfl, hW3, hq3⟩ := hp
          exact A_ret X dX10_rate_42 rfl ⟨congrArg (fun t => some (aI t)) (by rw [qRate, if_pos (by omega)]; exact eK 1), rfl, fun q a => hq3 q (by omega), by rw [if_pos (by omega)]; exact hW3⟩
        · subst q
          have hj := hJd.2.2.1
          refine A_aald (r := xa + 33) X h_this_kinds 2 rfl (by decide) rfl dX10_rate_25 ?_
          refine A_as3 X dX10_rate_26 ?_
          refine A_al3 X dX10_rate_27 ?_
          refine A_ifnonnull (t := 36) X dX10_rate_28 ?_
          refine A_al3 X dX10_rate_36 ?_
          refine A_al0 X dX10_rate_37 ?_
          refine A_il2 X dX10_rate_38 ?_
          refine A_callU (As := [.ref xa, aI side]) (st := []) X (v_umbrella (d := d + 1) (by omega) hsd2 (by omega) hj hIq hWq) hj rfl vdX9 knX1_verdict.1 rfl suW1.1 suW1.2.1 rfl mlX10_242 dX10_rate_39 (fun v n' h' hp => ?_)
          obtain ⟨rfl, rfl, hW3, hq3⟩ := hp
          exact A_ret X dX10_rate_42 rfl ⟨congrArg (fun t => some (aI t)) (by rw [qRate, if_pos (by omega)]; exact eK 2), rfl, fun q a => hq3 q (by omega), by rw [if_pos (by omega)]; exact hW3⟩
        · subst q
          have hj := hJd.2.2.2.1
          refine A_aald (r := xa + 34) X h_this_kinds 3 rfl (by decide) rfl dX10_rate_25 ?_
          refine A_as3 X dX10_rate_26 ?_
          refine A_al3 X dX10_rate_27 ?_
          refine A_ifnonnull (t := 36) X dX10_rate_28 ?_
          refine A_al3 X dX10_rate_36 ?_
          refine A_al0 X dX10_rate_37 ?_
          refine A_il2 X dX10_rate_38 ?_
          refine A_callU (As := [.ref xa, aI side]) (st := []) X (v_master (d := d) (by omega) hsd2 (by omega) hj hIq hWq) hj rfl vdX2 knX1_verdict.1 rfl suW1.1 suW1.2.1 rfl mlX10_242 dX10_rate_39 (fun v n' h' hp => ?_)
          obtain ⟨rfl, rfl, hW3, hq3⟩ := hp
          exact A_ret X dX10_rate_42 rfl ⟨congrArg (fun t => some (aI t)) (by rw [qRate, if_pos (by omega)]; exact eK 3), rfl, fun q a => hq3 q (by omega), by rw [if_pos (by omega)]; exact hW3⟩
        · subst q
          have hj := hJd.2.2.2.2.1
          refine A_aald (r := xa + 35) X h_this_kinds 4 rfl (by decide) rfl dX10_rate_25 ?_
          refine A_as3 X dX10_rate_26 ?_
          refine A_al3 X dX10_rate_27 ?_
          refine A_ifnonnull (t := 36) X dX10_rate_28 ?_
          refine A_al3 X dX10_rate_36 ?_
          refine A_al0 X dX10_rate_37 ?_
          refine A_il2 X dX10_rate_38 ?_
          refine A_callU (As := [.ref xa, aI side]) (st := []) X (v_torn (d := d) (by omega) hsd2 (by omega) hj hIq hWq) hj rfl vdX8 knX1_verdict.1 rfl suW1.1 suW1.2.1 rfl mlX10_242 dX10_rate_39 (fun v n' h' hp => ?_)
          obtain ⟨rfl, rfl, hW3, hq3⟩ := hp
          exact A_ret X dX10_rate_42 rfl ⟨congrArg (fun t => some (aI t)) (by rw [qRate, if_pos (by omega)]; exact eK 4), rfl, fun q a => hq3 q (by omega), by rw [if_pos (by omega)]; exact hW3⟩
        · subst q
          have hj := hJd.2.2.2.2.2
          refine A_aald (r := xa + 36) X h_this_kinds 5 rfl (by decide) rfl dX10_rate_25 ?_
          refine A_as3 X dX10_rate_26 ?_
          refine A_al3 X dX10_rate_27 ?_
          refine A_ifnonnull (t := 36) X dX10_rate_28 ?_
          refine A_al3 X dX10_rate_36 ?_
          refine A_al0 X dX10_rate_37 ?_
          refine A_il2 X dX10_rate_38 ?_
          refine A_callU (As := [.ref xa, aI side]) (st := []) X (v_third (d := d + 1) (by omega) hsd2 (by omega) hj hIq hWq) hj rfl vdX7 knX1_verdict.1 rfl suW1.1 suW1.2.1 rfl mlX10_242 dX10_rate_39 (fun v n' h' hp => ?_)
          obtain ⟨rfl, rfl, hW3, hq3⟩ := hp
          exact A_ret X dX10_rate_42 rfl ⟨congrArg (fun t => some (aI t)) (by rw [qRate, if_pos (by omega)]; exact eK 5), rfl, fun q a => hq3 q (by omega), by rw [if_pos (by omega)]; exact hW3⟩
      · refine A_ldc (z := -1000000) X kcX10_241 dX10_rate_17 ?_
        exact A_ret X dX10_rate_19 rfl ⟨congrArg (fun t => some (aI t)) (by rw [qRate, if_neg (by omega)]), rfl, fun _ _ => rfl, by rw [if_neg (by omega)]; exact hWq⟩
