/-! the reference: its world; what is written to it -/
def mW (G : aG) (tm : Nat) (h : AH) (fs fn fp fi fk ft fe : Int → Int) (un sz sm tr : Int) : Prop := ∃ (ak bg mt : Int) (fr f9 f10 f11 f12 f13 : Int → Int), h tm = some (aOb 11 (mO tm un sz sm tr ak bg mt)) ∧ h (tm + 1) = some (aIa G 32 fs) ∧ h (tm + 2) = some (aIa G 32 fr) ∧ h (tm + 3) = some (aIa G 9 fn) ∧ h (tm + 4) = some (aIa G 90 fp) ∧ h (tm + 5) = some (aIa G 18 fi) ∧ h (tm + 6) = some (aZa G 2 fk) ∧ h (tm + 7) = some (aIa G 200 ft) ∧ h (tm + 8) = some (aIa G 18 fe) ∧ h (tm + 9) = some (aIa G 4096 f9) ∧ h (tm + 10) = some (aIa G 4096 f10) ∧ h (tm + 11) = some (aIa G 4096 f11) ∧ h (tm + 12) = some (aZa G 1000 f12) ∧ h (tm + 13) = some (aZa G 1000 f13)
def mFr (tm : Nat) (h h' : AH) : Prop := ∀ q : Nat, (q < tm ∨ tm + 14 ≤ q) → h' q = h q
theorem mFr.rf (tm : Nat) (h : AH) : mFr tm h h := fun _ _ => rfl
abbrev okTy (l sz : Int) : Prop := (0 ≤ l ∧ l ≤ 255) ∧ sz ≠ 200
def qType (l sz : Int) : Int := if 0 ≤ l ∧ l ≤ 255 then (if sz = 200 then -3 else sz + 1) else -1
set_option maxRecDepth 100000 in
theorem M_type {G : aG} {d n : Nat} {h : AH} {tm : Nat} {fs fn fp fi fk ft fe : Int → Int} {un sz sm tr : Int} {l : Int} (hl : inR l) (hsz : 0 ≤ sz ∧ sz ≤ 200) (hW : mW G tm h fs fn fp fi fk ft fe un sz sm tr) : aE G (d + 1) kX11_type [.ref tm, aI l] n h (some (aI (qType l sz))) (fun h' => mFr tm h h' ∧ mW G tm h' fs fn fp fi fk (if okTy l sz then aiu ft sz l else ft) fe un (if okTy l sz then sz + 1 else sz) sm tr) := by
  have hW0 := hW
  obtain ⟨ak, bg, mt, fr, f9, f10, f11, f12, f13, h_this, h_this_suit, h_this_read, h_this_now, h_this_past, h_this_images, h_this_kept, h_this_text, h_this_seen, h_this_ends, h_this_endsRight, h_this_takes, h_this_can, h_this_then⟩ := hW
  refine aCt_of (lv := [some (.ref tm), some (aI l)]) knX11_type.1 rfl rfl (Nat.le_of_ble_eq_true rfl) (fun x hG hsc X => ?_)
  subst hG
  refine A_il1 X dX11_type_0 ?_
  refine A_i2l X (by omega) dX11_type_1 ?_
  refine A_lconst (z := 0) X dX11_type_2 ?_
  refine A_ldc2 (z := 255) X kcX11_68 dX11_type_3 ?_
  refine A_dSi3 X (m_in (by omega) (by omega) (by omega)) knX11_in mlX11_57 dX11_type_6 ?_
  refine A_ifb_ne (t := 14) X dX11_type_9 (fun c9 => ?_) (fun c9 => ?_)
  · refine A_al0 X dX11_type_14 ?_
    refine A_getf X flX11_70 h_this rfl dX11_type_15 ?_
    refine A_sipush X dX11_type_18 ?_
    refine A_icmp_ne (t := 27) X (by omega) (by omega) dX11_type_21 (fun c21 => ?_) (fun c21 => ?_)
    · refine A_al0 X dX11_type_27 ?_
      refine A_getf X flX11_29 h_this rfl dX11_type_28 ?_
      refine A_al0 X dX11_type_31 ?_
      refine A_getf X flX11_70 h_this rfl dX11_type_32 ?_
      refine A_il1 X dX11_type_35 ?_
      refine A_iast X h_this_text (by omega) dX11_type_36 ?_
      refine A_gen (fun h36 e36 k36 q36 => ?_)
      have h_this := (k36 _ (by omega)).trans h_this
      have h_this_suit := (k36 _ (by omega)).trans h_this_suit
      have h_this_read := (k36 _ (by omega)).trans h_this_read
      have h_this_now := (k36 _ (by omega)).trans h_this_now
      have h_this_past := (k36 _ (by omega)).trans h_this_past
      have h_this_images := (k36 _ (by omega)).trans h_this_images
      have h_this_kept := (k36 _ (by omega)).trans h_this_kept
      have h_this_text := e36
      have h_this_seen := (k36 _ (by omega)).trans h_this_seen
      have h_this_ends := (k36 _ (by omega)).trans h_this_ends
      have h_this_endsRight := (k36 _ (by omega)).trans h_this_endsRight
      have h_this_takes := (k36 _ (by omega)).trans h_this_takes
      have h_this_can := (k36 _ (by omega)).trans h_this_can
      have h_this_then := (k36 _ (by omega)).trans h_this_then
      refine A_al0 X dX11_type_37 ?_
      refine A_dup X dX11_type_38 ?_
      refine A_getf X flX11_70 h_this rfl dX11_type_39 ?_
      refine A_iconst X dX11_type_42 ?_
      refine A_iadd X dX11_type_43 ?_
      refine A_putf X flX11_70 h_this dX11_type_44 ?_
      refine A_gen (fun h44 e44 k44 q44 => ?_)
      have h_this := e44
      have h_this_suit := (k44 _ (by omega)).trans h_this_suit
      have h_this_read := (k44 _ (by omega)).trans h_this_read
      have h_this_now := (k44 _ (by omega)).trans h_this_now
      have h_this_past := (k44 _ (by omega)).trans h_this_past
      have h_this_images := (k44 _ (by omega)).trans h_this_images
      have h_this_kept := (k44 _ (by omega)).trans h_this_kept
      have h_this_text := (k44 _ (by omega)).trans h_this_text
      have h_this_seen := (k44 _ (by omega)).trans h_this_seen
      have h_this_ends := (k44 _ (by omega)).trans h_this_ends
      have h_this_endsRight := (k44 _ (by omega)).trans h_this_endsRight
      have h_this_takes := (k44 _ (by omega)).trans h_this_takes
      have h_this_can := (k44 _ (by omega)).trans h_this_can
      have h_this_then := (k44 _ (by omega)).trans h_this_then
      refine A_al0 X dX11_type_47 ?_
      refine A_getf X flX11_70 h_this rfl dX11_type_48 ?_
      exact A_ret X dX11_type_51 rfl ⟨congrArg (fun t => some (aI t)) (by rw [qType, if_pos c9, if_neg c21]), rfl, fun q hq => by rw [k44 q (by omega), k36 q (by omega)], by rw [if_pos ⟨c9, c21⟩, if_pos ⟨c9, c21⟩]; exact ⟨_, _, _, _, _, _, _, _, _, h_this, h_this_suit, h_this_read, h_this_now, h_this_past, h_this_images, h_this_kept, h_this_text, h_this_seen, h_this_ends, h_this_endsRight, h_this_takes, h_this_can, h_this_then⟩⟩
    · refine A_bipush X dX11_type_24 ?_
      exact A_ret X dX11_type_26 rfl ⟨congrArg (fun t => some (aI t)) (by rw [qType, if_pos c9, if_pos c21]), rfl, mFr.rf _ _, by rw [if_neg (fun q => q.2 c21), if_neg (fun q => q.2 c21)]; exact hW0⟩
  · refine A_iconst X dX11_type_12 ?_
    exact A_ret X dX11_type_13 rfl ⟨congrArg (fun t => some (aI t)) (by rw [qType, if_neg c9]), rfl, mFr.rf _ _, by rw [if_neg (fun q => c9 q.1), if_neg (fun q => c9 q.1)]; exact hW0⟩
set_option maxRecDepth 100000 in
theorem M_clear {G : aG} {d n : Nat} {h : AH} {tm : Nat} {fs fn fp fi fk ft fe : Int → Int} {un sz sm tr : Int} (hW : mW G tm h fs fn fp fi fk ft fe un sz sm tr) : aE G d kX11_clear [.ref tm] n h (some (aI sz)) (fun h' => mFr tm h h' ∧ mW G tm h' fs fn fp fi fk ft fe un 0 sm tr) := by
  obtain ⟨ak, bg, mt, fr, f9, f10, f11, f12, f13, h_this, h_this_suit, h_this_read, h_this_now, h_this_past, h_this_images, h_this_kept, h_this_text, h_this_seen, h_this_ends, h_this_endsRight, h_this_takes, h_this_can, h_this_then⟩ := hW
  refine aCt_of (lv := [some (.ref tm), none]) knX11_clear.1 rfl rfl (Nat.le_of_ble_eq_true rfl) (fun x hG hsc X => ?_)
  subst hG
  refine A_al0 X dX11_clear_0 ?_
  refine A_getf X flX11_70 h_this rfl dX11_clear_1 ?_
  refine A_is1 X dX11_clear_4 ?_
  refine A_al0 X dX11_clear_5 ?_
  refine A_iconst X dX11_clear_6 ?_
  refine A_putf X flX11_70 h_this dX11_clear_7 ?_
  refine A_gen (fun h7 e7 k7 q7 => ?_)
  have h_this := e7
  have h_this_suit := (k7 _ (by omega)).trans h_this_suit
  have h_this_read := (k7 _ (by omega)).trans h_this_read
  have h_this_now := (k7 _ (by omega)).trans h_this_now
  have h_this_past := (k7 _ (by omega)).trans h_this_past
  have h_this_images := (k7 _ (by omega)).trans h_this_images
  have h_this_kept := (k7 _ (by omega)).trans h_this_kept
  have h_this_text := (k7 _ (by omega)).trans h_this_text
  have h_this_seen := (k7 _ (by omega)).trans h_this_seen
  have h_this_ends := (k7 _ (by omega)).trans h_this_ends
  have h_this_endsRight := (k7 _ (by omega)).trans h_this_endsRight
  have h_this_takes := (k7 _ (by omega)).trans h_this_takes
  have h_this_can := (k7 _ (by omega)).trans h_this_can
  have h_this_then := (k7 _ (by omega)).trans h_this_then
  refine A_il1 X dX11_clear_10 ?_
  exact A_ret X dX11_clear_11 rfl ⟨rfl, rfl, fun q hq => by rw [k7 q (by omega)], ⟨_, _, _, _, _, _, _, _, _, h_this, h_this_suit, h_this_read, h_this_now, h_this_past, h_this_images, h_this_kept, h_this_text, h_this_seen, h_this_ends, h_this_endsRight, h_this_takes, h_this_can, h_this_then⟩⟩
set_option maxRecDepth 100000 in
theorem M_forget {G : aG} {d n : Nat} {h : AH} {tm : Nat} {fs fn fp fi fk ft fe : Int → Int} {un sz sm tr : Int} (hW : mW G tm h fs fn fp fi fk ft fe un sz sm tr) : aE G d kX11_forget [.ref tm] n h (some (aI sm)) (fun h' => mFr tm h h' ∧ mW G tm h' fs fn fp fi fk ft fe un sz 0 tr) := by
  obtain ⟨ak, bg, mt, fr, f9, f10, f11, f12, f13, h_this, h_this_suit, h_this_read, h_this_now, h_this_past, h_this_images, h_this_kept, h_this_text, h_this_seen, h_this_ends, h_this_endsRight, h_this_takes, h_this_can, h_this_then⟩ := hW
  refine aCt_of (lv := [some (.ref tm), none]) knX11_forget.1 rfl rfl (Nat.le_of_ble_eq_true rfl) (fun x hG hsc X => ?_)
  subst hG
  refine A_al0 X dX11_forget_0 ?_
  refine A_getf X flX11_65 h_this rfl dX11_forget_1 ?_
  refine A_is1 X dX11_forget_4 ?_
  refine A_al0 X dX11_forget_5 ?_
  refine A_iconst X dX11_forget_6 ?_
  refine A_putf X flX11_65 h_this dX11_forget_7 ?_
  refine A_gen (fun h7 e7 k7 q7 => ?_)
  have h_this := e7
  have h_this_suit := (k7 _ (by omega)).trans h_this_suit
  have h_this_read := (k7 _ (by omega)).trans h_this_read
  have h_this_now := (k7 _ (by omega)).trans h_this_now
  have h_this_past := (k7 _ (by omega)).trans h_this_past
  have h_this_images := (k7 _ (by omega)).trans h_this_images
  have h_this_kept := (k7 _ (by omega)).trans h_this_kept
  have h_this_text := (k7 _ (by omega)).trans h_this_text
  have h_this_seen := (k7 _ (by omega)).trans h_this_seen
  have h_this_ends := (k7 _ (by omega)).trans h_this_ends
  have h_this_endsRight := (k7 _ (by omega)).trans h_this_endsRight
  have h_this_takes := (k7 _ (by omega)).trans h_this_takes
  have h_this_can := (k7 _ (by omega)).trans h_this_can
  have h_this_then := (k7 _ (by omega)).trans h_this_then
  refine A_il1 X dX11_forget_10 ?_
  exact A_ret X dX11_forget_11 rfl ⟨rfl, rfl, fun q hq => by rw [k7 q (by omega)], ⟨_, _, _, _, _, _, _, _, _, h_this, h_this_suit, h_this_read, h_this_now, h_this_past, h_this_images, h_this_kept, h_this_text, h_this_seen, h_this_ends, h_this_endsRight, h_this_takes, h_this_can, h_this_then⟩⟩
abbrev okSaw (fs : Int → Int) (foot cell v : Int) : Prop := (0 ≤ foot ∧ foot ≤ 1) ∧ (0 ≤ cell ∧ cell ≤ fs 3 - 1) ∧ (0 ≤ v ∧ v ≤ 60)
def qSaw (fs : Int → Int) (sm foot cell v : Int) : Int := if okSaw fs foot cell v then (if sm = 6 then -3 else sm + 1) else -1
set_option maxRecDepth 100000 in
theorem M_saw {G : aG} {d n : Nat} {h : AH} {tm : Nat} {fs fn fp fi fk ft fe : Int → Int} {un sz sm tr : Int} {foot cell v : Int} (hf : inR foot) (hce : inR cell) (hv : inR v) (hc : 1 ≤ fs 3 ∧ fs 3 ≤ 6) (hsm : 0 ≤ sm ∧ sm ≤ 6) (hW : mW G tm h fs fn fp fi fk ft fe un sz sm tr) : aE G (d + 2) kX11_saw [.ref tm, aI foot, aI cell, aI v] n h (some (aI (qSaw fs sm foot cell v))) (fun h' => mFr tm h h' ∧ mW G tm h' fs fn fp fi fk ft (if okSaw fs foot cell v ∧ sm ≠ 6 then aiu (aiu (aiu fe (3 * sm) foot) (3 * sm + 1) cell) (3 * sm + 2) v else fe) un sz (if okSaw fs foot cell v ∧ sm ≠ 6 then sm + 1 else sm) tr) := by
  have hW0 := hW
  obtain ⟨ak, bg, mt, fr, f9, f10, f11, f12, f13, h_this, h_this_suit, h_this_read, h_this_now, h_this_past, h_this_images, h_this_kept, h_this_text, h_this_seen, h_this_ends, h_this_endsRight, h_this_takes, h_this_can, h_this_then⟩ := hW
  refine aCt_of (lv := [some (.ref tm), some (aI foot), some (aI cell), some (aI v)]) knX11_saw.1 rfl rfl (Nat.le_of_ble_eq_true rfl) (fun x hG hsc X => ?_)
  subst hG
  refine A_il1 X dX11_saw_0 ?_
  refine A_dSi1 X (m_isTwo (by omega)) knX11_isTwo mlX11_119 dX11_saw_1 ?_
  refine A_ifb_eq (t := 27) X dX11_saw_4 (fun c4 => ?_) (fun c4 => ?_)
  · refine A_iconst X dX11_saw_27 ?_
    exact A_ret X dX11_saw_28 rfl ⟨congrArg (fun t => some (aI t)) (by rw [qSaw, if_neg (fun q => c4 q.1)]), rfl, mFr.rf _ _, by rw [if_neg (fun q => c4 q.1.1), if_neg (fun q => c4 q.1.1)]; exact hW0⟩
  · refine A_al0 X dX11_saw_7 ?_
    refine A_il2 X dX11_saw_8 ?_
    refine A_dVi1 X (m_isCell (by omega) hc h_this h_this_suit) h_this knX11_isCell mlX11_183 dX11_saw_9 ?_
    refine A_ifb_eq (t := 27) X dX11_saw_12 (fun c12 => ?_) (fun c12 => ?_)
    · refine A_iconst X dX11_saw_27 ?_
      exact A_ret X dX11_saw_28 rfl ⟨congrArg (fun t => some (aI t)) (by rw [qSaw, if_neg (fun q => c12 q.2.1)]), rfl, mFr.rf _ _, by rw [if_neg (fun q => c12 q.1.2.1), if_neg (fun q => c12 q.1.2.1)]; exact hW0⟩
    · refine A_il3 X dX11_saw_15 ?_
      refine A_i2l X (by omega) dX11_saw_16 ?_
      refine A_lconst (z := 0) X dX11_saw_17 ?_
      refine A_ldc2 (z := 60) X kcX11_186 dX11_saw_18 ?_
      refine A_dSi3 X (m_in (by omega) (by omega) (by omega)) knX11_in mlX11_57 dX11_saw_21 ?_
      refine A_ifb_ne (t := 29) X dX11_saw_24 (fun c24 => ?_) (fun c24 => ?_)
      · refine A_al0 X dX11_saw_29 ?_
        refine A_getf X flX11_65 h_this rfl dX11_saw_30 ?_
        refine A_bipush X dX11_saw_33 ?_
        refine A_icmp_ne (t := 41) X (by omega) (by omega) dX11_saw_35 (fun c35 => ?_) (fun c35 => ?_)
        · refine A_al0 X dX11_saw_41 ?_
          refine A_getf X flX11_32 h_this rfl dX11_saw_42 ?_
          refine A_iconst X dX11_saw_45 ?_
          refine A_al0 X dX11_saw_46 ?_
          refine A_getf X flX11_65 h_this rfl dX11_saw_47 ?_
          refine A_imul X dX11_saw_50 ?_
          refine A_il1 X dX11_saw_51 ?_
          refine A_iast X h_this_seen (by omega) dX11_saw_52 ?_
          refine A_gen (fun h52 e52 k52 q52 => ?_)
          have h_this := (k52 _ (by omega)).trans h_this
          have h_this_suit := (k52 _ (by omega)).trans h_this_suit
          have h_this_read := (k52 _ (by omega)).trans h_this_read
          have h_this_now := (k52 _ (by omega)).trans h_this_now
          have h_this_past := (k52 _ (by omega)).trans h_this_past
          have h_this_images := (k52 _ (by omega)).trans h_this_images
          have h_this_kept := (k52 _ (by omega)).trans h_this_kept
          have h_this_text := (k52 _ (by omega)).trans h_this_text
          have h_this_seen := e52
          have h_this_ends := (k52 _ (by omega)).trans h_this_ends
          have h_this_endsRight := (k52 _ (by omega)).trans h_this_endsRight
          have h_this_takes := (k52 _ (by omega)).trans h_this_takes
          have h_this_can := (k52 _ (by omega)).trans h_this_can
          have h_this_then := (k52 _ (by omega)).trans h_this_then
          refine A_al0 X dX11_saw_53 ?_
          refine A_getf X flX11_32 h_this rfl dX11_saw_54 ?_
          refine A_iconst X dX11_saw_57 ?_
          refine A_al0 X dX11_saw_58 ?_
          refine A_getf X flX11_65 h_this rfl dX11_saw_59 ?_
          refine A_imul X dX11_saw_62 ?_
          refine A_iconst X dX11_saw_63 ?_
          refine A_iadd X dX11_saw_64 ?_
          refine A_il2 X dX11_saw_65 ?_
          refine A_iast X h_this_seen (by omega) dX11_saw_66 ?_
          refine A_gen (fun h66 e66 k66 q66 => ?_)
          have h_this := (k66 _ (by omega)).trans h_this
          have h_this_suit := (k66 _ (by omega)).trans h_this_suit
          have h_this_read := (k66 _ (by omega)).trans h_this_read
          have h_this_now := (k66 _ (by omega)).trans h_this_now
          have h_this_past := (k66 _ (by omega)).trans h_this_past
          have h_this_images := (k66 _ (by omega)).trans h_this_images
          have h_this_kept := (k66 _ (by omega)).trans h_this_kept
          have h_this_text := (k66 _ (by omega)).trans h_this_text
          have h_this_seen := e66
          have h_this_ends := (k66 _ (by omega)).trans h_this_ends
          have h_this_endsRight := (k66 _ (by omega)).trans h_this_endsRight
          have h_this_takes := (k66 _ (by omega)).trans h_this_takes
          have h_this_can := (k66 _ (by omega)).trans h_this_can
          have h_this_then := (k66 _ (by omega)).trans h_this_then
          refine A_al0 X dX11_saw_67 ?_
          refine A_getf X flX11_32 h_this rfl dX11_saw_68 ?_
          refine A_iconst X dX11_saw_71 ?_
          refine A_al0 X dX11_saw_72 ?_
          refine A_getf X flX11_65 h_this rfl dX11_saw_73 ?_
          refine A_imul X dX11_saw_76 ?_
          refine A_iconst X dX11_saw_77 ?_
          refine A_iadd X dX11_saw_78 ?_
          refine A_il3 X dX11_saw_79 ?_
          refine A_iast X h_this_seen (by omega) dX11_saw_80 ?_
          refine A_gen (fun h80 e80 k80 q80 => ?_)
          have h_this := (k80 _ (by omega)).trans h_this
          have h_this_suit := (k80 _ (by omega)).trans h_this_suit
          have h_this_read := (k80 _ (by omega)).trans h_this_read
          have h_this_now := (k80 _ (by omega)).trans h_this_now
          have h_this_past := (k80 _ (by omega)).trans h_this_past
          have h_this_images := (k80 _ (by omega)).trans h_this_images
          have h_this_kept := (k80 _ (by omega)).trans h_this_kept
          have h_this_text := (k80 _ (by omega)).trans h_this_text
          have h_this_seen := e80
          have h_this_ends := (k80 _ (by omega)).trans h_this_ends
          have h_this_endsRight := (k80 _ (by omega)).trans h_this_endsRight
          have h_this_takes := (k80 _ (by omega)).trans h_this_takes
          have h_this_can := (k80 _ (by omega)).trans h_this_can
          have h_this_then := (k80 _ (by omega)).trans h_this_then
          refine A_al0 X dX11_saw_81 ?_
          refine A_dup X dX11_saw_82 ?_
          refine A_getf X flX11_65 h_this rfl dX11_saw_83 ?_
          refine A_iconst X dX11_saw_86 ?_
          refine A_iadd X dX11_saw_87 ?_
          refine A_putf X flX11_65 h_this dX11_saw_88 ?_
          refine A_gen (fun h88 e88 k88 q88 => ?_)
          have h_this := e88
          have h_this_suit := (k88 _ (by omega)).trans h_this_suit
          have h_this_read := (k88 _ (by omega)).trans h_this_read
          have h_this_now := (k88 _ (by omega)).trans h_this_now
          have h_this_past := (k88 _ (by omega)).trans h_this_past
          have h_this_images := (k88 _ (by omega)).trans h_this_images
          have h_this_kept := (k88 _ (by omega)).trans h_this_kept
          have h_this_text := (k88 _ (by omega)).trans h_this_text
          have h_this_seen := (k88 _ (by omega)).trans h_this_seen
          have h_this_ends := (k88 _ (by omega)).trans h_this_ends
          have h_this_endsRight := (k88 _ (by omega)).trans h_this_endsRight
          have h_this_takes := (k88 _ (by omega)).trans h_this_takes
          have h_this_can := (k88 _ (by omega)).trans h_this_can
          have h_this_then := (k88 _ (by omega)).trans h_this_then
          refine A_al0 X dX11_saw_91 ?_
          refine A_getf X flX11_65 h_this rfl dX11_saw_92 ?_
          exact A_ret X dX11_saw_95 rfl ⟨congrArg (fun t => some (aI t)) (by rw [qSaw, if_pos ⟨c4, c12, c24⟩, if_neg c35]), rfl, fun q hq => by rw [k88 q (by omega), k80 q (by omega), k66 q (by omega), k52 q (by omega)], by rw [if_pos ⟨⟨c4, c12, c24⟩, c35⟩, if_pos ⟨⟨c4, c12, c24⟩, c35⟩]; exact ⟨_, _, _, _, _, _, _, _, _, h_this, h_this_suit, h_this_read, h_this_now, h_this_past, h_this_images, h_this_kept, h_this_text, h_this_seen, h_this_ends, h_this_endsRight, h_this_takes, h_this_can, h_this_then⟩⟩
        · refine A_bipush X dX11_saw_38 ?_
          exact A_ret X dX11_saw_40 rfl ⟨congrArg (fun t => some (aI t)) (by rw [qSaw, if_pos ⟨c4, c12, c24⟩, if_pos c35]), rfl, mFr.rf _ _, by rw [if_neg (fun q => q.2 c35), if_neg (fun q => q.2 c35)]; exact hW0⟩
      · refine A_iconst X dX11_saw_27 ?_
        exact A_ret X dX11_saw_28 rfl ⟨congrArg (fun t => some (aI t)) (by rw [qSaw, if_neg (fun q => c24 q.2.2)]), rfl, mFr.rf _ _, by rw [if_neg (fun q => c24 q.1.2.2), if_neg (fun q => c24 q.1.2.2)]; exact hW0⟩
/-- the past behind one deed more -/
def rmP (fn fp : Int → Int) (un : Int) : Int → Int := if un = 10 then (fun k => if k < 81 then fp (k + 9) else fn (k - 81)) else (fun k => if 9 * un ≤ k ∧ k < 9 * un + 9 then fn (k - 9 * un) else fp k)
def rmU (un : Int) : Int := if un = 10 then 10 else un + 1
set_option maxRecDepth 100000 in
theorem m_remember {G : aG} {d n : Nat} {h : AH} {tm : Nat} {un sz sm tr ak bg mt : Int} {fn fp : Int → Int} (hun : 0 ≤ un ∧ un ≤ 10) (h_this : h tm = some (aOb 11 (mO tm un sz sm tr ak bg mt))) (h_this_now : h (tm + 3) = some (aIa G 9 fn)) (h_this_past : h (tm + 4) = some (aIa G 90 fp)) : aE G (d + 1) kX11_remember [.ref tm] n h none (fun h' => h' tm = some (aOb 11 (mO tm (rmU un) sz sm tr ak bg mt)) ∧ h' (tm + 4) = some (aIa G 90 (rmP fn fp un)) ∧ ∀ q, q ≠ tm → q ≠ tm + 4 → h' q = h q) := by
  refine aCt_of (lv := [some (.ref tm), none]) knX11_remember.1 rfl rfl (Nat.le_of_ble_eq_true rfl) (fun x hG hsc X => ?_)
  subst hG
  refine A_al0 X dX11_remember_0 ?_
  refine A_getf X flX11_61 h_this rfl dX11_remember_1 ?_
  refine A_bipush X dX11_remember_4 ?_
  refine A_icmp_ne (t := 48) X (by omega) (by omega) dX11_remember_6 (fun c6 => ?_) (fun c6 => ?_)
  · refine A_al0 X dX11_remember_48 ?_
    refine A_getf X flX11_16 h_this rfl dX11_remember_49 ?_
    refine A_iconst X dX11_remember_52 ?_
    refine A_al0 X dX11_remember_53 ?_
    refine A_getf X flX11_19 h_this rfl dX11_remember_54 ?_
    refine A_bipush X dX11_remember_57 ?_
    refine A_al0 X dX11_remember_59 ?_
    refine A_getf X flX11_61 h_this rfl dX11_remember_60 ?_
    refine A_imul X dX11_remember_63 ?_
    refine A_eSv4 X (m_copies (by omega) (by omega) (by omega) (by decide) (by decide) h_this_now h_this_past) knX11_copies mlX11_133 dX11_remember_64 (fun h64 p64 => ?_)
    obtain ⟨hp1, hp2⟩ := p64
    have h_this := (hp2 _ (by omega)).trans h_this
    have h_this_now := (hp2 _ (by omega)).trans h_this_now
    have h_this_past := hp1
    refine A_al0 X dX11_remember_67 ?_
    refine A_dup X dX11_remember_68 ?_
    refine A_getf X flX11_61 h_this rfl dX11_remember_69 ?_
    refine A_iconst X dX11_remember_72 ?_
    refine A_iadd X dX11_remember_73 ?_
    refine A_putf X flX11_61 h_this dX11_remember_74 ?_
    refine A_gen (fun h74 e74 k74 q74 => ?_)
    have h_this := e74
    have h_this_now := (k74 _ (by omega)).trans h_this_now
    have h_this_past := (k74 _ (by omega)).trans h_this_past
    refine A_norm (rmP fn fp un) h_this_past (fun k h1 h2 => ?_) ?_
    · unfold cp9 rmP
      rw [if_neg c6]
      split
      · rw [Int.zero_add]
      · rfl
    · exact A_retv X dX11_remember_77 rfl ⟨rfl, rfl, by rw [aup_n (by omega), rmU, if_neg c6]; exact h_this, aup_s _ _ _, fun q h1 h2 => by rw [aup_n h2, k74 q h1, hp2 q h2]⟩
  · refine A_iconst X dX11_remember_9 ?_
    refine A_is1 X dX11_remember_10 ?_
    refine lp_0 (P := fun i => ∀ (hh : AH) (u : Int → Int), hh (tm + 4) = some (aIa x.1 90 u) → (∀ k : Int, 0 ≤ k → k < 90 → u k = if k < (i : Int) then fp (k + 9) else fp k) → (∀ q, q ≠ tm + 4 → hh q = h q) → AW x 0 0 n hh 11 [some (.ref tm), some (aI (i : Int))] []) 81 ?_ ?_ h fp h_this_past (fun k h1 h2 => by rw [if_neg (by omega)]) (fun _ _ => rfl)
    · intro hh u hu hk hq
      have h_this := (hq tm (by omega)).trans h_this
      have h_this_now := (hq (tm + 3) (by omega)).trans h_this_now
      have h_this_past := hu
      refine A_il1 X dX11_remember_11 ?_
      refine A_bipush X dX11_remember_12 ?_
      refine A_icmp_ge (t := 38) X (by omega) (by omega) dX11_remember_14 (fun c14 => ?_) (fun c14 => by exfalso; omega)
      refine A_al0 X dX11_remember_38 ?_
      refine A_dup X dX11_remember_39 ?_
      refine A_getf X flX11_61 h_this rfl dX11_remember_40 ?_
      refine A_iconst X dX11_remember_43 ?_
      refine A_isub X dX11_remember_44 ?_
      refine A_putf X flX11_61 h_this dX11_remember_45 ?_
      refine A_gen (fun h45 e45 k45 q45 => ?_)
      have h_this := e45
      have h_this_now := (k45 _ (by omega)).trans h_this_now
      have h_this_past := (k45 _ (by omega)).trans h_this_past
      refine A_al0 X dX11_remember_48 ?_
      refine A_getf X flX11_16 h_this rfl dX11_remember_49 ?_
      refine A_iconst X dX11_remember_52 ?_
      refine A_al0 X dX11_remember_53 ?_
      refine A_getf X flX11_19 h_this rfl dX11_remember_54 ?_
      refine A_bipush X dX11_remember_57 ?_
      refine A_al0 X dX11_remember_59 ?_
      refine A_getf X flX11_61 h_this rfl dX11_remember_60 ?_
      refine A_imul X dX11_remember_63 ?_
      refine A_eSv4 X (m_copies (by omega) (by omega) (by omega) (by decide) (by decide) h_this_now h_this_past) knX11_copies mlX11_133 dX11_remember_64 (fun h64 p64 => ?_)
      obtain ⟨hp1, hp2⟩ := p64
      have h_this := (hp2 _ (by omega)).trans h_this
      have h_this_now := (hp2 _ (by omega)).trans h_this_now
      have h_this_past := hp1
      refine A_al0 X dX11_remember_67 ?_
      refine A_dup X dX11_remember_68 ?_
      refine A_getf X flX11_61 h_this rfl dX11_remember_69 ?_
      refine A_iconst X dX11_remember_72 ?_
      refine A_iadd X dX11_remember_73 ?_
      refine A_putf X flX11_61 h_this dX11_remember_74 ?_
      refine A_gen (fun h74 e74 k74 q74 => ?_)
      have h_this := e74
      have h_this_now := (k74 _ (by omega)).trans h_this_now
      have h_this_past := (k74 _ (by omega)).trans h_this_past
      refine A_norm (rmP fn fp un) h_this_past (fun k h1 h2 => ?_) ?_
      · unfold cp9 rmP
        rw [if_pos c6]
        by_cases e : k < 81
        · rw [if_neg (by omega), if_pos e, hk k h1 (by omega), if_pos (by omega)]
        · rw [if_pos (by omega), if_neg e, c6]; congr 1; omega
      · exact A_retv X dX11_remember_77 rfl ⟨rfl, rfl, by rw [aup_n (by omega), rmU, if_pos c6, h_this, c6]; rfl, aup_s _ _ _, fun q h1 h2 => by rw [aup_n h2, k74 q h1, hp2 q h2, k45 q h1, hq q h2]⟩
    · intro i hi ih hh u hu hk hq
      have h_this := (hq tm (by omega)).trans h_this
      have h_this_past := hu
      refine A_il1 X dX11_remember_11 ?_
      refine A_bipush X dX11_remember_12 ?_
      refine A_icmp_ge (t := 38) X (by omega) (by omega) dX11_remember_14 (fun c14 => by exfalso; omega) (fun c14 => ?_)
      refine A_al0 X dX11_remember_17 ?_
      refine A_getf X flX11_19 h_this rfl dX11_remember_18 ?_
      refine A_il1 X dX11_remember_21 ?_
      refine A_al0 X dX11_remember_22 ?_
      refine A_getf X flX11_19 h_this rfl dX11_remember_23 ?_
      refine A_il1 X dX11_remember_26 ?_
      refine A_bipush X dX11_remember_27 ?_
      refine A_iadd X dX11_remember_29 ?_
      refine A_iald X h_this_past (by omega) dX11_remember_30 ?_
      refine A_iast X h_this_past (by omega) dX11_remember_31 ?_
      refine A_gen (fun h31 e31 k31 q31 => ?_)
      refine A_ii1 X dX11_remember_32 ?_
      refine A_goto (t := 11) X dX11_remember_35 ?_
      refine ih h31 _ e31 (fun k h1 h2 => ?_) (fun q hqb => (k31 q hqb).trans (hq q hqb))
      unfold aiu
      by_cases e : k = (i : Int)
      · rw [if_pos e, if_pos (by omega), hk _ (by omega) (by omega), if_neg (by omega), e]
      · rw [if_neg e, hk k h1 h2]
        by_cases e2 : k < (i : Int)
        · rw [if_pos e2, if_pos (by omega)]
        · rw [if_neg e2, if_neg (by omega)]
