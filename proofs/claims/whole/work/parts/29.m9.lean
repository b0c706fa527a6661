/-! the reference: deeds, images, rates -/
abbrev okGv (fs : Int → Int) (g to : Int) : Prop := (0 ≤ g ∧ g ≤ fs 0 - 1) ∧ (0 ≤ to ∧ to ≤ 2)
def qGives (fs fn : Int → Int) (g to : Int) : Int := if okGv fs g to then fn (0 + g) else -1
set_option maxRecDepth 100000 in
theorem M_gives {G : aG} {d n : Nat} {h : AH} {tm : Nat} {fs fn fp fi fk ft fe : Int → Int} {un sz sm tr : Int} {g to : Int} (hgr : inR g) (hto : inR to) (hg : 0 ≤ fs 0 ∧ fs 0 ≤ 6) (hun : 0 ≤ un ∧ un ≤ 10) (hW : mW G tm h fs fn fp fi fk ft fe un sz sm tr) : aE G (d + 2) kX11_gives [.ref tm, aI g, aI to] n h (some (aI (qGives fs fn g to))) (fun h' => mFr tm h h' ∧ mW G tm h' fs (if okGv fs g to then aiu fn (0 + g) to else fn) (if okGv fs g to then rmP fn fp un else fp) fi fk ft fe (if okGv fs g to then rmU un else un) sz sm tr) := by
  have hW0 := hW
  obtain ⟨ak, bg, mt, fr, f9, f10, f11, f12, f13, h_this, h_this_suit, h_this_read, h_this_now, h_this_past, h_this_images, h_this_kept, h_this_text, h_this_seen, h_this_ends, h_this_endsRight, h_this_takes, h_this_can, h_this_then⟩ := hW
  refine aCt_of (lv := [some (.ref tm), some (aI g), some (aI to), none]) knX11_gives.1 rfl rfl (Nat.le_of_ble_eq_true rfl) (fun x hG hsc X => ?_)
  subst hG
  refine A_al0 X dX11_gives_0 ?_
  refine A_il1 X dX11_gives_1 ?_
  refine A_dVi1 X (m_isGood (by omega) hg h_this h_this_suit) h_this knX11_isGood mlX11_114 dX11_gives_2 ?_
  refine A_ifb_eq (t := 20) X dX11_gives_5 (fun c5 => ?_) (fun c5 => ?_)
  · refine A_iconst X dX11_gives_20 ?_
    exact A_ret X dX11_gives_21 rfl ⟨congrArg (fun t => some (aI t)) (by rw [qGives, if_neg (fun q => c5 q.1)]), rfl, mFr.rf _ _, by rw [if_neg (fun q => c5 q.1), if_neg (fun q => c5 q.1), if_neg (fun q => c5 q.1)]; exact hW0⟩
  · refine A_il2 X dX11_gives_8 ?_
    refine A_i2l X (by omega) dX11_gives_9 ?_
    refine A_lconst (z := 0) X dX11_gives_10 ?_
    refine A_ldc2 (z := 2) X kcX11_117 dX11_gives_11 ?_
    refine A_dSi3 X (m_in (by omega) (by omega) (by omega)) knX11_in mlX11_57 dX11_gives_14 ?_
    refine A_ifb_ne (t := 22) X dX11_gives_17 (fun c17 => ?_) (fun c17 => ?_)
    · refine A_al0 X dX11_gives_22 ?_
      refine A_eVv0 X (m_remember hun h_this h_this_now h_this_past) h_this knX11_remember mlX11_137 dX11_gives_23 (fun h23 p23 => ?_)
      obtain ⟨hr1, hr2, hr3⟩ := p23
      have h_this := hr1
      have h_this_past := hr2
      have h_this_suit := (hr3 _ (by omega) (by omega)).trans h_this_suit; have h_this_read := (hr3 _ (by omega) (by omega)).trans h_this_read; have h_this_now := (hr3 _ (by omega) (by omega)).trans h_this_now; have h_this_images := (hr3 _ (by omega) (by omega)).trans h_this_images; have h_this_kept := (hr3 _ (by omega) (by omega)).trans h_this_kept; have h_this_text := (hr3 _ (by omega) (by omega)).trans h_this_text; have h_this_seen := (hr3 _ (by omega) (by omega)).trans h_this_seen; have h_this_ends := (hr3 _ (by omega) (by omega)).trans h_this_ends; have h_this_endsRight := (hr3 _ (by omega) (by omega)).trans h_this_endsRight; have h_this_takes := (hr3 _ (by omega) (by omega)).trans h_this_takes; have h_this_can := (hr3 _ (by omega) (by omega)).trans h_this_can; have h_this_then := (hr3 _ (by omega) (by omega)).trans h_this_then
      refine A_al0 X dX11_gives_26 ?_
      refine A_getf X flX11_16 h_this rfl dX11_gives_27 ?_
      refine A_iconst X dX11_gives_30 ?_
      refine A_il1 X dX11_gives_31 ?_
      refine A_iadd X dX11_gives_32 ?_
      refine A_iald X h_this_now (by omega) dX11_gives_33 ?_
      refine A_is3 X dX11_gives_34 ?_
      refine A_al0 X dX11_gives_35 ?_
      refine A_getf X flX11_16 h_this rfl dX11_gives_36 ?_
      refine A_iconst X dX11_gives_39 ?_
      refine A_il1 X dX11_gives_40 ?_
      refine A_iadd X dX11_gives_41 ?_
      refine A_il2 X dX11_gives_42 ?_
      refine A_iast X h_this_now (by omega) dX11_gives_43 ?_
      refine A_gen (fun h43 e43 k43 q43 => ?_)
      have h_this := (k43 _ (by omega)).trans h_this
      have h_this_suit := (k43 _ (by omega)).trans h_this_suit
      have h_this_read := (k43 _ (by omega)).trans h_this_read
      have h_this_now := e43
      have h_this_past := (k43 _ (by omega)).trans h_this_past
      have h_this_images := (k43 _ (by omega)).trans h_this_images
      have h_this_kept := (k43 _ (by omega)).trans h_this_kept
      have h_this_text := (k43 _ (by omega)).trans h_this_text
      have h_this_seen := (k43 _ (by omega)).trans h_this_seen
      have h_this_ends := (k43 _ (by omega)).trans h_this_ends
      have h_this_endsRight := (k43 _ (by omega)).trans h_this_endsRight
      have h_this_takes := (k43 _ (by omega)).trans h_this_takes
      have h_this_can := (k43 _ (by omega)).trans h_this_can
      have h_this_then := (k43 _ (by omega)).trans h_this_then
      refine A_il3 X dX11_gives_44 ?_
      exact A_ret X dX11_gives_45 rfl ⟨congrArg (fun t => some (aI t)) (by rw [qGives, if_pos ⟨c5, c17⟩]), rfl, fun q hq => by rw [k43 q (by omega), hr3 q (by omega) (by omega)], by rw [if_pos ⟨c5, c17⟩, if_pos ⟨c5, c17⟩, if_pos ⟨c5, c17⟩]; exact ⟨_, _, _, _, _, _, _, _, _, h_this, h_this_suit, h_this_read, h_this_now, h_this_past, h_this_images, h_this_kept, h_this_text, h_this_seen, h_this_ends, h_this_endsRight, h_this_takes, h_this_can, h_this_then⟩⟩
    · refine A_iconst X dX11_gives_20 ?_
      exact A_ret X dX11_gives_21 rfl ⟨congrArg (fun t => some (aI t)) (by rw [qGives, if_neg (fun q => c17 q.2)]), rfl, mFr.rf _ _, by rw [if_neg (fun q => c17 q.2), if_neg (fun q => c17 q.2), if_neg (fun q => c17 q.2)]; exact hW0⟩
/-- a step more -/
def stW (fn : Int → Int) (foot : Int) : Int := (((fn (7 + fn 6 / 30)).toNat ||| (foot.toNat * 2 ^ (fn 6 % 30).toNat) : Nat) : Int)
def stF (fn : Int → Int) (foot : Int) : Int → Int := aiu (aiu fn (7 + fn 6 / 30) (stW fn foot)) 6 (fn 6 + 1)
theorem stF_ok {fn : Int → Int} (hn : nOK fn) {foot : Int} (hf : 0 ≤ foot ∧ foot ≤ 1) (h60 : fn 6 < 60) : nOK (stF fn foot) := by
  obtain ⟨h1, h2, h3, h4⟩ := hn
  have hw : 0 ≤ stW fn foot ∧ stW fn foot < 1073741824 := by
    unfold stW
    have hl : (fn (7 + fn 6 / 30)).toNat < 2 ^ 30 := by
      rcases (show fn 6 / 30 = 0 ∨ fn 6 / 30 = 1 by omega) with e | e <;> rw [e]
      · have := h3; show (fn 7).toNat < _; omega
      · have := h4; show (fn 8).toNat < _; omega
    have hr : foot.toNat * 2 ^ (fn 6 % 30).toNat < 2 ^ 30 := by
      have a := Nat.pow_le_pow_right (n := 2) (by omega) (show (fn 6 % 30).toNat ≤ 29 by omega)
      have b : foot.toNat * 2 ^ (fn 6 % 30).toNat ≤ 1 * 2 ^ (fn 6 % 30).toNat := Nat.mul_le_mul_right _ (by omega)
      omega
    have := Nat.or_lt_two_pow hl hr
    omega
  refine ⟨fun k hk1 hk2 => ?_, ?_, ?_, ?_⟩
  · unfold stF
    rw [aiu_n (by omega), aiu_n (by omega)]
    exact h1 k hk1 hk2
  · unfold stF
    rw [aiu_s]
    omega
  · unfold stF
    rw [aiu_n (by omega)]
    unfold aiu
    split
    · exact hw
    · exact h3
  · unfold stF
    rw [aiu_n (by omega)]
    unfold aiu
    split
    · exact hw
    · exact h4
abbrev okSt (fn : Int → Int) (foot : Int) : Prop := (0 ≤ foot ∧ foot ≤ 1) ∧ fn 6 ≠ 60
def qSteps (fs fn : Int → Int) (foot : Int) : Int := if 0 ≤ foot ∧ foot ≤ 1 then (if fn 6 = 60 then -3 else wrn (flp (mF (stF fn foot)) (-1)) (fs 3) foot (cnt (mF fn) foot (fn 6).toNat % fs 3) ((fn 6).toNat + 1)) else -1
set_option maxRecDepth 100000 in
theorem M_steps {G : aG} {d n : Nat} {h : AH} {tm : Nat} {fs fn fp fi fk ft fe : Int → Int} {un sz sm tr : Int} {foot : Int} (hfr : inR foot) (hc : 1 ≤ fs 3 ∧ fs 3 ≤ 6) (hn : nOK fn) (hun : 0 ≤ un ∧ un ≤ 10) (hW : mW G tm h fs fn fp fi fk ft fe un sz sm tr) : aE G (d + 2) kX11_steps [.ref tm, aI foot] n h (some (aI (qSteps fs fn foot))) (fun h' => mFr tm h h' ∧ mW G tm h' fs (if okSt fn foot then stF fn foot else fn) (if okSt fn foot then rmP fn fp un else fp) fi fk ft fe (if okSt fn foot then rmU un else un) sz sm tr) := by
  have hW0 := hW
  obtain ⟨ak, bg, mt, fr, f9, f10, f11, f12, f13, h_this, h_this_suit, h_this_read, h_this_now, h_this_past, h_this_images, h_this_kept, h_this_text, h_this_seen, h_this_ends, h_this_endsRight, h_this_takes, h_this_can, h_this_then⟩ := hW
  have hk6 := hn.2.1
  obtain ⟨i, hi⟩ := Int.eq_ofNat_of_zero_le hk6.1
  have hcb := cnt_b (mF fn) foot (fn 6).toNat
  refine aCt_of (lv := [some (.ref tm), some (aI foot), none, none]) knX11_steps.1 rfl rfl (Nat.le_of_ble_eq_true rfl) (fun x hG hsc X => ?_)
  subst hG
  refine A_il1 X dX11_steps_0 ?_
  refine A_dSi1 X (m_isTwo (by omega)) knX11_isTwo mlX11_119 dX11_steps_1 ?_
  refine A_ifb_ne (t := 9) X dX11_steps_4 (fun c4 => ?_) (fun c4 => ?_)
  · refine A_al0 X dX11_steps_9 ?_
    refine A_getf X flX11_16 h_this rfl dX11_steps_10 ?_
    refine A_bipush X dX11_steps_13 ?_
    refine A_iald X h_this_now (by omega) dX11_steps_15 ?_
    refine A_is2 X dX11_steps_16 ?_
    refine A_il2 X dX11_steps_17 ?_
    refine A_bipush X dX11_steps_18 ?_
    refine A_icmp_ne (t := 26) X (by omega) (by omega) dX11_steps_20 (fun c20 => ?_) (fun c20 => ?_)
    · refine A_al0 X dX11_steps_26 ?_
      refine A_eVv0 X (m_remember hun h_this h_this_now h_this_past) h_this knX11_remember mlX11_137 dX11_steps_27 (fun h27 p27 => ?_)
      obtain ⟨hr1, hr2, hr3⟩ := p27
      have h_this := hr1
      have h_this_past := hr2
      have h_this_suit := (hr3 _ (by omega) (by omega)).trans h_this_suit; have h_this_read := (hr3 _ (by omega) (by omega)).trans h_this_read; have h_this_now := (hr3 _ (by omega) (by omega)).trans h_this_now; have h_this_images := (hr3 _ (by omega) (by omega)).trans h_this_images; have h_this_kept := (hr3 _ (by omega) (by omega)).trans h_this_kept; have h_this_text := (hr3 _ (by omega) (by omega)).trans h_this_text; have h_this_seen := (hr3 _ (by omega) (by omega)).trans h_this_seen; have h_this_ends := (hr3 _ (by omega) (by omega)).trans h_this_ends; have h_this_endsRight := (hr3 _ (by omega) (by omega)).trans h_this_endsRight; have h_this_takes := (hr3 _ (by omega) (by omega)).trans h_this_takes; have h_this_can := (hr3 _ (by omega) (by omega)).trans h_this_can; have h_this_then := (hr3 _ (by omega) (by omega)).trans h_this_then
      have hnw := nOK_w hn (show i < 60 by omega)
      rw [← hi] at hnw
      refine A_al0 X dX11_steps_30 ?_
      refine A_il1 X dX11_steps_31 ?_
      refine A_dVi1 X (m_stepsOf (fn 6).toNat (by omega) hn hfr h_this h_this_now) h_this knX11_stepsOf mlX11_143 dX11_steps_32 ?_
      refine A_al0 X dX11_steps_35 ?_
      refine A_getf X flX11_7 h_this rfl dX11_steps_36 ?_
      refine A_iconst X dX11_steps_39 ?_
      refine A_iald X h_this_suit (by omega) dX11_steps_40 ?_
      refine A_irem X (by omega) (by omega) dX11_steps_41 ?_
      refine A_is3 X dX11_steps_42 ?_
      refine A_al0 X dX11_steps_43 ?_
      refine A_getf X flX11_16 h_this rfl dX11_steps_44 ?_
      refine A_bipush X dX11_steps_47 ?_
      refine A_il2 X dX11_steps_49 ?_
      refine A_bipush X dX11_steps_50 ?_
      refine A_idiv X (by omega) (by omega) dX11_steps_52 ?_
      refine A_iadd X dX11_steps_53 ?_
      refine A_dup2 X dX11_steps_54 ?_
      refine A_iald X h_this_now (by omega) dX11_steps_55 ?_
      refine A_il1 X dX11_steps_56 ?_
      refine A_il2 X dX11_steps_57 ?_
      refine A_bipush X dX11_steps_58 ?_
      refine A_irem X (by omega) (by omega) dX11_steps_60 ?_
      refine A_ishl X foot.toNat (fn 6 % 30).toNat (by omega) (by omega) (by omega) (by have a := Nat.pow_le_pow_right (n := 2) (by omega) (show (fn 6 % 30).toNat ≤ 29 by omega); have b : foot.toNat * 2 ^ (fn 6 % 30).toNat ≤ 1 * 2 ^ (fn 6 % 30).toNat := Nat.mul_le_mul_right _ (by omega); omega) dX11_steps_61 ?_
      refine A_ior X (fn (7 + fn 6 / 30)).toNat (foot.toNat * 2 ^ (fn 6 % 30).toNat) (by omega) rfl dX11_steps_62 ?_
      refine A_iast X h_this_now (by omega) dX11_steps_63 ?_
      refine A_gen (fun h63 e63 k63 q63 => ?_)
      have h_this := (k63 _ (by omega)).trans h_this
      have h_this_suit := (k63 _ (by omega)).trans h_this_suit
      have h_this_read := (k63 _ (by omega)).trans h_this_read
      have h_this_now := e63
      have h_this_past := (k63 _ (by omega)).trans h_this_past
      have h_this_images := (k63 _ (by omega)).trans h_this_images
      have h_this_kept := (k63 _ (by omega)).trans h_this_kept
      have h_this_text := (k63 _ (by omega)).trans h_this_text
      have h_this_seen := (k63 _ (by omega)).trans h_this_seen
      have h_this_ends := (k63 _ (by omega)).trans h_this_ends
      have h_this_endsRight := (k63 _ (by omega)).trans h_this_endsRight
      have h_this_takes := (k63 _ (by omega)).trans h_this_takes
      have h_this_can := (k63 _ (by omega)).trans h_this_can
      have h_this_then := (k63 _ (by omega)).trans h_this_then
      refine A_al0 X dX11_steps_64 ?_
      refine A_getf X flX11_16 h_this rfl dX11_steps_65 ?_
      refine A_bipush X dX11_steps_68 ?_
      refine A_dup2 X dX11_steps_70 ?_
      refine A_iald X h_this_now (by omega) dX11_steps_71 ?_
      refine A_iconst X dX11_steps_72 ?_
      refine A_iadd X dX11_steps_73 ?_
      refine A_iast X h_this_now (by omega) dX11_steps_74 ?_
      refine A_gen (fun h74 e74 k74 q74 => ?_)
      have h_this := (k74 _ (by omega)).trans h_this
      have h_this_suit := (k74 _ (by omega)).trans h_this_suit
      have h_this_read := (k74 _ (by omega)).trans h_this_read
      have h_this_now := e74
      have h_this_past := (k74 _ (by omega)).trans h_this_past
      have h_this_images := (k74 _ (by omega)).trans h_this_images
      have h_this_kept := (k74 _ (by omega)).trans h_this_kept
      have h_this_text := (k74 _ (by omega)).trans h_this_text
      have h_this_seen := (k74 _ (by omega)).trans h_this_seen
      have h_this_ends := (k74 _ (by omega)).trans h_this_ends
      have h_this_endsRight := (k74 _ (by omega)).trans h_this_endsRight
      have h_this_takes := (k74 _ (by omega)).trans h_this_takes
      have h_this_can := (k74 _ (by omega)).trans h_this_can
      have h_this_then := (k74 _ (by omega)).trans h_this_then
      have hst : h74 (tm + 3) = some (aIa x.1 9 (stF fn foot)) := by
        rw [h_this_now]
        unfold stF stW
        rw [aiu_n (by omega)]
      have h_this_now := hst
      have hno := stF_ok hn c4 (by omega)
      refine A_al0 X dX11_steps_75 ?_
      refine A_il1 X dX11_steps_76 ?_
      refine A_il3 X dX11_steps_77 ?_
      refine A_iconst X dX11_steps_78 ?_
      refine A_dVi3 X (m_wornBy ((fn 6).toNat + 1) (by unfold stF; rw [aiu_s]; omega) hno hc hfr (by have := Int.emod_nonneg (cnt (mF fn) foot (fn 6).toNat) (show fs 3 ≠ 0 by omega); have := Int.emod_lt_of_pos (cnt (mF fn) foot (fn 6).toNat) (show 0 < fs 3 by omega); omega) (by omega) h_this h_this_suit h_this_now) h_this knX11_wornBy mlX11_146 dX11_steps_79 ?_
      exact A_ret X dX11_steps_82 rfl ⟨congrArg (fun t => some (aI t)) (by rw [qSteps, if_pos c4, if_neg c20]), rfl, fun q hq => by rw [k74 q (by omega), k63 q (by omega), hr3 q (by omega) (by omega)], by rw [if_pos ⟨c4, c20⟩, if_pos ⟨c4, c20⟩, if_pos ⟨c4, c20⟩]; exact ⟨_, _, _, _, _, _, _, _, _, h_this, h_this_suit, h_this_read, h_this_now, h_this_past, h_this_images, h_this_kept, h_this_text, h_this_seen, h_this_ends, h_this_endsRight, h_this_takes, h_this_can, h_this_then⟩⟩
    · refine A_bipush X dX11_steps_23 ?_
      exact A_ret X dX11_steps_25 rfl ⟨congrArg (fun t => some (aI t)) (by rw [qSteps, if_pos c4, if_pos c20]), rfl, mFr.rf _ _, by rw [if_neg (fun q => q.2 c20), if_neg (fun q => q.2 c20), if_neg (fun q => q.2 c20)]; exact hW0⟩
  · refine A_iconst X dX11_steps_7 ?_
    exact A_ret X dX11_steps_8 rfl ⟨congrArg (fun t => some (aI t)) (by rw [qSteps, if_neg c4]), rfl, mFr.rf _ _, by rw [if_neg (fun q => c4 q.1), if_neg (fun q => c4 q.1), if_neg (fun q => c4 q.1)]; exact hW0⟩
def qUndo (un : Int) : Int := if un = 0 then -2 else un - 1
def cpF (f g : Int → Int) (i : Int) : Int → Int := cp9 f g i 0
set_option maxRecDepth 100000 in
theorem M_undo {G : aG} {d n : Nat} {h : AH} {tm : Nat} {fs fn fp fi fk ft fe : Int → Int} {un sz sm tr : Int} (hun : 0 ≤ un ∧ un ≤ 10) (hW : mW G tm h fs fn fp fi fk ft fe un sz sm tr) : aE G (d + 1) kX11_undo [.ref tm] n h (some (aI (qUndo un))) (fun h' => mFr tm h h' ∧ mW G tm h' fs (if un = 0 then fn else cpF fp fn (9 * (un - 1))) fp fi fk ft fe (if un = 0 then 0 else un - 1) sz sm tr) := by
  have hW0 := hW
  obtain ⟨ak, bg, mt, fr, f9, f10, f11, f12, f13, h_this, h_this_suit, h_this_read, h_this_now, h_this_past, h_this_images, h_this_kept, h_this_text, h_this_seen, h_this_ends, h_this_endsRight, h_this_takes, h_this_can, h_this_then⟩ := hW
  refine aCt_of (lv := [some (.ref tm)]) knX11_undo.1 rfl rfl (Nat.le_of_ble_eq_true rfl) (fun x hG hsc X => ?_)
  subst hG
  refine A_al0 X dX11_undo_0 ?_
  refine A_getf X flX11_61 h_this rfl dX11_undo_1 ?_
  refine A_if_ne (t := 10) X (by omega) dX11_undo_4 (fun c4 => ?_) (fun c4 => ?_)
  · refine A_al0 X dX11_undo_10 ?_
    refine A_dup X dX11_undo_11 ?_
    refine A_getf X flX11_61 h_this rfl dX11_undo_12 ?_
    refine A_iconst X dX11_undo_15 ?_
    refine A_isub X dX11_undo_16 ?_
    refine A_putf X flX11_61 h_this dX11_undo_17 ?_
    refine A_gen (fun h17 e17 k17 q17 => ?_)
    have h_this := e17
    have h_this_suit := (k17 _ (by omega)).trans h_this_suit
    have h_this_read := (k17 _ (by omega)).trans h_this_read
    have h_this_now := (k17 _ (by omega)).trans h_this_now
    have h_this_past := (k17 _ (by omega)).trans h_this_past
    have h_this_images := (k17 _ (by omega)).trans h_this_images
    have h_this_kept := (k17 _ (by omega)).trans h_this_kept
    have h_this_text := (k17 _ (by omega)).trans h_this_text
    have h_this_seen := (k17 _ (by omega)).trans h_this_seen
    have h_this_ends := (k17 _ (by omega)).trans h_this_ends
    have h_this_endsRight := (k17 _ (by omega)).trans h_this_endsRight
    have h_this_takes := (k17 _ (by omega)).trans h_this_takes
    have h_this_can := (k17 _ (by omega)).trans h_this_can
    have h_this_then := (k17 _ (by omega)).trans h_this_then
    refine A_al0 X dX11_undo_20 ?_
    refine A_getf X flX11_19 h_this rfl dX11_undo_21 ?_
    refine A_bipush X dX11_undo_24 ?_
    refine A_al0 X dX11_undo_26 ?_
    refine A_getf X flX11_61 h_this rfl dX11_undo_27 ?_
    refine A_imul X dX11_undo_30 ?_
    refine A_al0 X dX11_undo_31 ?_
    refine A_getf X flX11_16 h_this rfl dX11_undo_32 ?_
    refine A_iconst X dX11_undo_35 ?_
    refine A_eSv4 X (m_copies (by omega) (by omega) (by omega) (by decide) (by decide) h_this_past h_this_now) knX11_copies mlX11_133 dX11_undo_36 (fun h36 p36 => ?_)
    obtain ⟨hp1, hp2⟩ := p36
    have h_this_now := hp1
    have h_this := (hp2 _ (by omega)).trans h_this; have h_this_suit := (hp2 _ (by omega)).trans h_this_suit; have h_this_read := (hp2 _ (by omega)).trans h_this_read; have h_this_past := (hp2 _ (by omega)).trans h_this_past; have h_this_images := (hp2 _ (by omega)).trans h_this_images; have h_this_kept := (hp2 _ (by omega)).trans h_this_kept; have h_this_text := (hp2 _ (by omega)).trans h_this_text; have h_this_seen := (hp2 _ (by omega)).trans h_this_seen; have h_this_ends := (hp2 _ (by omega)).trans h_this_ends; have h_this_endsRight := (hp2 _ (by omega)).trans h_this_endsRight; have h_this_takes := (hp2 _ (by omega)).trans h_this_takes; have h_this_can := (hp2 _ (by omega)).trans h_this_can; have h_this_then := (hp2 _ (by omega)).trans h_this_then
    refine A_al0 X dX11_undo_39 ?_
    refine A_getf X flX11_61 h_this rfl dX11_undo_40 ?_
    exact A_ret X dX11_undo_43 rfl ⟨congrArg (fun t => some (aI t)) (by rw [qUndo, if_neg c4]), rfl, fun q hq => by rw [hp2 q (by omega), k17 q (by omega)], by rw [if_neg c4, if_neg c4]; exact ⟨_, _, _, _, _, _, _, _, _, h_this, h_this_suit, h_this_read, h_this_now, h_this_past, h_this_images, h_this_kept, h_this_text, h_this_seen, h_this_ends, h_this_endsRight, h_this_takes, h_this_can, h_this_then⟩⟩
  · refine A_bipush X dX11_undo_7 ?_
    exact A_ret X dX11_undo_9 rfl ⟨congrArg (fun t => some (aI t)) (by rw [qUndo, if_pos c4]), rfl, mFr.rf _ _, by rw [if_pos c4, if_pos c4]; rw [c4] at hW0; exact hW0⟩
abbrev isT (i : Int) : Prop := 0 ≤ i ∧ i ≤ 1
def qKeep (fn : Int → Int) (i : Int) : Int := if isT i then fn 6 else -1
set_option maxRecDepth 100000 in
theorem M_keep {G : aG} {d n : Nat} {h : AH} {tm : Nat} {fs fn fp fi fk ft fe : Int → Int} {un sz sm tr : Int} {i : Int} (hir : inR i) (hW : mW G tm h fs fn fp fi fk ft fe un sz sm tr) : aE G (d + 2) kX11_keep [.ref tm, aI i] n h (some (aI (qKeep fn i))) (fun h' => mFr tm h h' ∧ mW G tm h' fs fn fp (if isT i then cp9 fn fi 0 (9 * i) else fi) (if isT i then aiu fk i 1 else fk) ft fe un sz sm tr) := by
  have hW0 := hW
  obtain ⟨ak, bg, mt, fr, f9, f10, f11, f12, f13, h_this, h_this_suit, h_this_read, h_this_now, h_this_past, h_this_images, h_this_kept, h_this_text, h_this_seen, h_this_ends, h_this_endsRight, h_this_takes, h_this_can, h_this_then⟩ := hW
  refine aCt_of (lv := [some (.ref tm), some (aI i)]) knX11_keep.1 rfl rfl (Nat.le_of_ble_eq_true rfl) (fun x hG hsc X => ?_)
  subst hG
  refine A_il1 X dX11_keep_0 ?_
  refine A_dSi1 X (m_isTwo (by omega)) knX11_isTwo mlX11_119 dX11_keep_1 ?_
  refine A_ifb_ne (t := 9) X dX11_keep_4 (fun c4 => ?_) (fun c4 => ?_)
  · refine A_al0 X dX11_keep_9 ?_
    refine A_getf X flX11_16 h_this rfl dX11_keep_10 ?_
    refine A_iconst X dX11_keep_13 ?_
    refine A_al0 X dX11_keep_14 ?_
    refine A_getf X flX11_22 h_this rfl dX11_keep_15 ?_
    refine A_bipush X dX11_keep_18 ?_
    refine A_il1 X dX11_keep_20 ?_
    refine A_imul X dX11_keep_21 ?_
    refine A_eSv4 X (m_copies (by omega) (by omega) (by omega) (by decide) (by decide) h_this_now h_this_images) knX11_copies mlX11_133 dX11_keep_22 (fun h22 p22 => ?_)
    obtain ⟨hp1, hp2⟩ := p22
    have h_this_images := hp1
    have h_this := (hp2 _ (by omega)).trans h_this; have h_this_suit := (hp2 _ (by omega)).trans h_this_suit; have h_this_read := (hp2 _ (by omega)).trans h_this_read; have h_this_now := (hp2 _ (by omega)).trans h_this_now; have h_this_past := (hp2 _ (by omega)).trans h_this_past; have h_this_kept := (hp2 _ (by omega)).trans h_this_kept; have h_this_text := (hp2 _ (by omega)).trans h_this_text; have h_this_seen := (hp2 _ (by omega)).trans h_this_seen; have h_this_ends := (hp2 _ (by omega)).trans h_this_ends; have h_this_endsRight := (hp2 _ (by omega)).trans h_this_endsRight; have h_this_takes := (hp2 _ (by omega)).trans h_this_takes; have h_this_can := (hp2 _ (by omega)).trans h_this_can; have h_this_then := (hp2 _ (by omega)).trans h_this_then
    refine A_al0 X dX11_keep_25 ?_
    refine A_getf X flX11_25 h_this rfl dX11_keep_26 ?_
    refine A_il1 X dX11_keep_29 ?_
    refine A_iconst X dX11_keep_30 ?_
    refine A_zast X h_this_kept (by omega) (by omega) dX11_keep_31 ?_
    refine A_gen (fun h31 e31 k31 q31 => ?_)
    have h_this := (k31 _ (by omega)).trans h_this
    have h_this_suit := (k31 _ (by omega)).trans h_this_suit
    have h_this_read := (k31 _ (by omega)).trans h_this_read
    have h_this_now := (k31 _ (by omega)).trans h_this_now
    have h_this_past := (k31 _ (by omega)).trans h_this_past
    have h_this_images := (k31 _ (by omega)).trans h_this_images
    have h_this_kept := e31
    have h_this_text := (k31 _ (by omega)).trans h_this_text
    have h_this_seen := (k31 _ (by omega)).trans h_this_seen
    have h_this_ends := (k31 _ (by omega)).trans h_this_ends
    have h_this_endsRight := (k31 _ (by omega)).trans h_this_endsRight
    have h_this_takes := (k31 _ (by omega)).trans h_this_takes
    have h_this_can := (k31 _ (by omega)).trans h_this_can
    have h_this_then := (k31 _ (by omega)).trans h_this_then
    refine A_al0 X dX11_keep_32 ?_
    refine A_getf X flX11_16 h_this rfl dX11_keep_33 ?_
    refine A_bipush X dX11_keep_36 ?_
    refine A_iald X h_this_now (by omega) dX11_keep_38 ?_
    exact A_ret X dX11_keep_39 rfl ⟨congrArg (fun t => some (aI t)) (by rw [qKeep, if_pos c4]), rfl, fun q hq => by rw [k31 q (by omega), hp2 q (by omega)], by rw [if_pos c4, if_pos c4]; exact ⟨_, _, _, _, _, _, _, _, _, h_this, h_this_suit, h_this_read, h_this_now, h_this_past, h_this_images, h_this_kept, h_this_text, h_this_seen, h_this_ends, h_this_endsRight, h_this_takes, h_this_can, h_this_then⟩⟩
  · refine A_iconst X dX11_keep_7 ?_
    exact A_ret X dX11_keep_8 rfl ⟨congrArg (fun t => some (aI t)) (by rw [qKeep, if_neg c4]), rfl, mFr.rf _ _, by rw [if_neg c4, if_neg c4]; exact hW0⟩
def qBack (fi fk : Int → Int) (i : Int) : Int := if isT i then (if fk i = 0 then -2 else fi (9 * i + 6)) else -1
set_option maxRecDepth 100000 in
theorem M_back {G : aG} {d n : Nat} {h : AH} {tm : Nat} {fs fn fp fi fk ft fe : Int → Int} {un sz sm tr : Int} {i : Int} (hir : inR i) (hk : ∀ k : Int, 0 ≤ k → k < 2 → fk k = 0 ∨ fk k = 1) (hW : mW G tm h fs fn fp fi fk ft fe un sz sm tr) : aE G (d + 2) kX11_back [.ref tm, aI i] n h (some (aI (qBack fi fk i))) (fun h' => mFr tm h h' ∧ mW G tm h' fs (if isT i ∧ fk i ≠ 0 then cpF fi fn (9 * i) else fn) fp fi fk ft fe (if isT i ∧ fk i ≠ 0 then 0 else un) sz sm tr) := by
  have hW0 := hW
  obtain ⟨ak, bg, mt, fr, f9, f10, f11, f12, f13, h_this, h_this_suit, h_this_read, h_this_now, h_this_past, h_this_images, h_this_kept, h_this_text, h_this_seen, h_this_ends, h_this_endsRight, h_this_takes, h_this_can, h_this_then⟩ := hW
  refine aCt_of (lv := [some (.ref tm), some (aI i)]) knX11_back.1 rfl rfl (Nat.le_of_ble_eq_true rfl) (fun x hG hsc X => ?_)
  subst hG
  refine A_il1 X dX11_back_0 ?_
  refine A_dSi1 X (m_isTwo (by omega)) knX11_isTwo mlX11_119 dX11_back_1 ?_
  refine A_ifb_ne (t := 9) X dX11_back_4 (fun c4 => ?_) (fun c4 => ?_)
  · refine A_al0 X dX11_back_9 ?_
    refine A_getf X flX11_25 h_this rfl dX11_back_10 ?_
    refine A_il1 X dX11_back_13 ?_
    refine A_zald X h_this_kept (by omega) dX11_back_14 ?_
    refine A_if_ne (t := 21) X (by have := hk i (by omega) (by omega); omega) dX11_back_15 (fun c15 => ?_) (fun c15 => ?_)
    · refine A_al0 X dX11_back_21 ?_
      refine A_getf X flX11_22 h_this rfl dX11_back_22 ?_
      refine A_bipush X dX11_back_25 ?_
      refine A_il1 X dX11_back_27 ?_
      refine A_imul X dX11_back_28 ?_
      refine A_al0 X dX11_back_29 ?_
      refine A_getf X flX11_16 h_this rfl dX11_back_30 ?_
      refine A_iconst X dX11_back_33 ?_
      refine A_eSv4 X (m_copies (by omega) (by omega) (by omega) (by decide) (by decide) h_this_images h_this_now) knX11_copies mlX11_133 dX11_back_34 (fun h34 p34 => ?_)
      obtain ⟨hp1, hp2⟩ := p34
      have h_this_now := hp1
      have h_this := (hp2 _ (by omega)).trans h_this; have h_this_suit := (hp2 _ (by omega)).trans h_this_suit; have h_this_read := (hp2 _ (by omega)).trans h_this_read; have h_this_past := (hp2 _ (by omega)).trans h_this_past; have h_this_images := (hp2 _ (by omega)).trans h_this_images; have h_this_kept := (hp2 _ (by omega)).trans h_this_kept; have h_this_text := (hp2 _ (by omega)).trans h_this_text; have h_this_seen := (hp2 _ (by omega)).trans h_this_seen; have h_this_ends := (hp2 _ (by omega)).trans h_this_ends; have h_this_endsRight := (hp2 _ (by omega)).trans h_this_endsRight; have h_this_takes := (hp2 _ (by omega)).trans h_this_takes; have h_this_can := (hp2 _ (by omega)).trans h_this_can; have h_this_then := (hp2 _ (by omega)).trans h_this_then
      refine A_al0 X dX11_back_37 ?_
      refine A_iconst X dX11_back_38 ?_
      refine A_putf X flX11_61 h_this dX11_back_39 ?_
      refine A_gen (fun h39 e39 k39 q39 => ?_)
      have h_this := e39
      have h_this_suit := (k39 _ (by omega)).trans h_this_suit
      have h_this_read := (k39 _ (by omega)).trans h_this_read
      have h_this_now := (k39 _ (by omega)).trans h_this_now
      have h_this_past := (k39 _ (by omega)).trans h_this_past
      have h_this_images := (k39 _ (by omega)).trans h_this_images
      have h_this_kept := (k39 _ (by omega)).trans h_this_kept
      have h_this_text := (k39 _ (by omega)).trans h_this_text
      have h_this_seen := (k39 _ (by omega)).trans h_this_seen
      have h_this_ends := (k39 _ (by omega)).trans h_this_ends
      have h_this_endsRight := (k39 _ (by omega)).trans h_this_endsRight
      have h_this_takes := (k39 _ (by omega)).trans h_this_takes
      have h_this_can := (k39 _ (by omega)).trans h_this_can
      have h_this_then := (k39 _ (by omega)).trans h_this_then
      refine A_al0 X dX11_back_42 ?_
      refine A_getf X flX11_16 h_this rfl dX11_back_43 ?_
      refine A_bipush X dX11_back_46 ?_
      refine A_iald X h_this_now (by omega) dX11_back_48 ?_
      exact A_ret X dX11_back_49 rfl ⟨congrArg (fun t => some (aI t)) (by rw [qBack, if_pos c4, if_neg c15, cp9, if_pos (by omega)]; congr 1), rfl, fun q hq => by rw [k39 q (by omega), hp2 q (by omega)], by rw [if_pos ⟨c4, c15⟩, if_pos ⟨c4, c15⟩]; exact ⟨_, _, _, _, _, _, _, _, _, h_this, h_this_suit, h_this_read, h_this_now, h_this_past, h_this_images, h_this_kept, h_this_text, h_this_seen, h_this_ends, h_this_endsRight, h_this_takes, h_this_can, h_this_then⟩⟩
    · refine A_bipush X dX11_back_18 ?_
      exact A_ret X dX11_back_20 rfl ⟨congrArg (fun t => some (aI t)) (by rw [qBack, if_pos c4, if_pos c15]), rfl, mFr.rf _ _, by rw [if_neg (fun q => q.2 c15), if_neg (fun q => q.2 c15)]; exact hW0⟩
  · refine A_iconst X dX11_back_7 ?_
    exact A_ret X dX11_back_8 rfl ⟨congrArg (fun t => some (aI t)) (by rw [qBack, if_neg c4]), rfl, mFr.rf _ _, by rw [if_neg (fun q => c4 q.1), if_neg (fun q => c4 q.1)]; exact hW0⟩
