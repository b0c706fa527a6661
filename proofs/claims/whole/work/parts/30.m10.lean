/-! the reference: rates -/
abbrev okRt (kind side : Int) : Prop := (0 ≤ kind ∧ kind ≤ 5) ∧ (0 ≤ side ∧ side ≤ 1)
def rtV (fs fn : Int → Int) (side : Int) : Int := vl fs side (gO fn side (fs 0).toNat)
def rtK (fs fn : Int → Int) (kind side : Int) : Int := if kind = 1 then rtV fs fn side + cnt (mF fn) side (fn 6).toNat else if kind = 2 then rtV fs fn side - qEnvy fs fn side else if kind = 3 then 2 * (rtV fs fn side + cnt (mF fn) side (fn 6).toNat) else if kind = 4 then rtV fs fn side - qEnvy fs fn side + side else if kind = 5 then rtV fs fn side + (pct (gO fn 2 (fs 0).toNat) : Nat) else rtV fs fn side
def qRate (fs fn : Int → Int) (kind side : Int) : Int := if okRt kind side then rtK fs fn kind side else -1000000
def rtT (kind : Int) : Int := if kind = 1 then 11 else if kind = 2 then 101 else if kind = 3 then 1011 else if kind = 4 then 10101 else if kind = 5 then 100001 else 1
set_option maxRecDepth 100000 in
theorem M_rate {G : aG} {d n : Nat} {h : AH} {tm : Nat} {fs fn fp fi fk ft fe : Int → Int} {un sz sm tr : Int} {kind side : Int} (hkr : inR kind) (hsr : inR side) (hok : sOK fs) (hn : nOK fn) (hW : mW G tm h fs fn fp fi fk ft fe un sz sm tr) : aE G (d + 4) kX11_rate [.ref tm, aI kind, aI side] n h (some (aI (qRate fs fn kind side))) (fun h' => mFr tm h h' ∧ mW G tm h' fs fn fp fi fk ft fe un sz sm (if okRt kind side then tr + rtT kind else tr)) := by
  have hW0 := hW
  obtain ⟨ak, bg, mt, fr, f9, f10, f11, f12, f13, h_this, h_this_suit, h_this_read, h_this_now, h_this_past, h_this_images, h_this_kept, h_this_text, h_this_seen, h_this_ends, h_this_endsRight, h_this_takes, h_this_can, h_this_then⟩ := hW
  have hg := hok.1
  have hk6 := hn.2.1
  have hb1 := gO_6 (fn := fn) (ow := side) (show (fs 0).toNat ≤ 6 by omega)
  have hb2 := gO_6 (fn := fn) (ow := 2) (show (fs 0).toNat ≤ 6 by omega)
  refine aCt_of (lv := [some (.ref tm), some (aI kind), some (aI side), none]) knX11_rate.1 rfl rfl (Nat.le_of_ble_eq_true rfl) (fun x hG hsc X => ?_)
  subst hG
  refine A_il1 X dX11_rate_0 ?_
  refine A_i2l X (by omega) dX11_rate_1 ?_
  refine A_lconst (z := 0) X dX11_rate_2 ?_
  refine A_ldc2 (z := 5) X kcX11_203 dX11_rate_3 ?_
  refine A_dSi3 X (m_in (by omega) (by omega) (by omega)) knX11_in mlX11_57 dX11_rate_6 ?_
  refine A_ifb_eq (t := 19) X dX11_rate_9 (fun c9 => ?_) (fun c9 => ?_)
  · refine A_ldc (z := -1000000) X kcX11_205 dX11_rate_19 ?_
    exact A_ret X dX11_rate_21 rfl ⟨congrArg (fun t => some (aI t)) (by rw [qRate, if_neg (fun q => c9 q.1)]), rfl, mFr.rf _ _, by rw [if_neg (fun q => c9 q.1)]; exact hW0⟩
  · refine A_il2 X dX11_rate_12 ?_
    refine A_dSi1 X (m_isTwo (by omega)) knX11_isTwo mlX11_119 dX11_rate_13 ?_
    refine A_ifb_ne (t := 22) X dX11_rate_16 (fun c16 => ?_) (fun c16 => ?_)
    · refine A_al0 X dX11_rate_22 ?_
      refine A_il2 X dX11_rate_23 ?_
      refine A_al0 X dX11_rate_24 ?_
      refine A_il2 X dX11_rate_25 ?_
      refine A_dVi1 X (m_goodsOf (fs 0).toNat (by omega) (by omega) hn.1 (by omega) h_this h_this_suit h_this_now) h_this knX11_goodsOf mlX11_129 dX11_rate_26 ?_
      refine A_dVi2 X (m_valued (gO fn side (fs 0).toNat) rfl (by omega) (by omega) hok h_this h_this_suit) h_this knX11_valued mlX11_125 dX11_rate_29 ?_
      refine A_is3 X dX11_rate_32 ?_
      refine A_al0 X dX11_rate_33 ?_
      refine A_dup X dX11_rate_34 ?_
      refine A_getf X flX11_206 h_this rfl dX11_rate_35 ?_
      refine A_lconst (z := 1) X dX11_rate_38 ?_
      refine A_ladd X dX11_rate_39 ?_
      refine A_putf X flX11_206 h_this dX11_rate_40 ?_
      refine A_gen (fun h40 e40 k40 q40 => ?_)
      have h_this := e40
      have h_this_suit := (k40 _ (by omega)).trans h_this_suit
      have h_this_read := (k40 _ (by omega)).trans h_this_read
      have h_this_now := (k40 _ (by omega)).trans h_this_now
      have h_this_past := (k40 _ (by omega)).trans h_this_past
      have h_this_images := (k40 _ (by omega)).trans h_this_images
      have h_this_kept := (k40 _ (by omega)).trans h_this_kept
      have h_this_text := (k40 _ (by omega)).trans h_this_text
      have h_this_seen := (k40 _ (by omega)).trans h_this_seen
      have h_this_ends := (k40 _ (by omega)).trans h_this_ends
      have h_this_endsRight := (k40 _ (by omega)).trans h_this_endsRight
      have h_this_takes := (k40 _ (by omega)).trans h_this_takes
      have h_this_can := (k40 _ (by omega)).trans h_this_can
      have h_this_then := (k40 _ (by omega)).trans h_this_then
      refine A_il1 X dX11_rate_43 ?_
      rcases (show (kind) < 1 ∨ (kind) > 5 ∨ (kind) = 1 ∨ (kind) = 2 ∨ (kind) = 3 ∨ (kind) = 4 ∨ (kind) = 5 by omega) with c44 | c44 | c44 | c44 | c44 | c44 | c44
      · refine A_tabOut (t := 187) X (by omega) dX11_rate_44 (by omega) ?_
        refine A_il3 X dX11_rate_187 ?_
        exact A_ret X dX11_rate_188 rfl ⟨congrArg (fun t => some (aI t)) (by rw [qRate, if_pos ⟨c9, c16⟩, rtK, if_neg (by omega), if_neg (by omega), if_neg (by omega), if_neg (by omega), if_neg (by omega)]; rfl), rfl, fun q hq => by rw [k40 q (by omega)], by rw [if_pos ⟨c9, c16⟩, rtT, if_neg (by omega), if_neg (by omega), if_neg (by omega), if_neg (by omega), if_neg (by omega)]; exact ⟨_, _, _, _, _, _, _, _, _, h_this, h_this_suit, h_this_read, h_this_now, h_this_past, h_this_images, h_this_kept, h_this_text, h_this_seen, h_this_ends, h_this_endsRight, h_this_takes, h_this_can, h_this_then⟩⟩
      · refine A_tabOut (t := 187) X (by omega) dX11_rate_44 (by omega) ?_
        refine A_il3 X dX11_rate_187 ?_
        exact A_ret X dX11_rate_188 rfl ⟨congrArg (fun t => some (aI t)) (by rw [qRate, if_pos ⟨c9, c16⟩, rtK, if_neg (by omega), if_neg (by omega), if_neg (by omega), if_neg (by omega), if_neg (by omega)]; rfl), rfl, fun q hq => by rw [k40 q (by omega)], by rw [if_pos ⟨c9, c16⟩, rtT, if_neg (by omega), if_neg (by omega), if_neg (by omega), if_neg (by omega), if_neg (by omega)]; exact ⟨_, _, _, _, _, _, _, _, _, h_this, h_this_suit, h_this_read, h_this_now, h_this_past, h_this_images, h_this_kept, h_this_text, h_this_seen, h_this_ends, h_this_endsRight, h_this_takes, h_this_can, h_this_then⟩⟩
      · refine A_tabIn (t := 80) X (by omega) dX11_rate_44 0 (by omega) (by omega) rfl ?_
        refine A_al0 X dX11_rate_80 ?_
        refine A_dup X dX11_rate_81 ?_
        refine A_getf X flX11_206 h_this rfl dX11_rate_82 ?_
        refine A_ldc2 (z := 10) X kcX11_181 dX11_rate_85 ?_
        refine A_ladd X dX11_rate_88 ?_
        refine A_putf X flX11_206 h_this dX11_rate_89 ?_
        refine A_gen (fun h89 e89 k89 q89 => ?_)
        have h_this := e89
        have h_this_suit := (k89 _ (by omega)).trans h_this_suit
        have h_this_read := (k89 _ (by omega)).trans h_this_read
        have h_this_now := (k89 _ (by omega)).trans h_this_now
        have h_this_past := (k89 _ (by omega)).trans h_this_past
        have h_this_images := (k89 _ (by omega)).trans h_this_images
        have h_this_kept := (k89 _ (by omega)).trans h_this_kept
        have h_this_text := (k89 _ (by omega)).trans h_this_text
        have h_this_seen := (k89 _ (by omega)).trans h_this_seen
        have h_this_ends := (k89 _ (by omega)).trans h_this_ends
        have h_this_endsRight := (k89 _ (by omega)).trans h_this_endsRight
        have h_this_takes := (k89 _ (by omega)).trans h_this_takes
        have h_this_can := (k89 _ (by omega)).trans h_this_can
        have h_this_then := (k89 _ (by omega)).trans h_this_then
        refine A_il3 X dX11_rate_92 ?_
        refine A_al0 X dX11_rate_93 ?_
        refine A_il2 X dX11_rate_94 ?_
        refine A_dVi1 X (m_stepsOf (fn 6).toNat (by omega) hn hsr h_this h_this_now) h_this knX11_stepsOf mlX11_143 dX11_rate_95 ?_
        refine A_iadd X dX11_rate_98 ?_
        exact A_ret X dX11_rate_99 rfl ⟨congrArg (fun t => some (aI t)) (by rw [qRate, if_pos ⟨c9, c16⟩, rtK, if_pos (by omega)]; rfl), rfl, fun q hq => by rw [k89 q (by omega), k40 q (by omega)], by rw [if_pos ⟨c9, c16⟩, rtT, if_pos (by omega), show tr + 11 = tr + 1 + 10 by omega]; exact ⟨_, _, _, _, _, _, _, _, _, h_this, h_this_suit, h_this_read, h_this_now, h_this_past, h_this_images, h_this_kept, h_this_text, h_this_seen, h_this_ends, h_this_endsRight, h_this_takes, h_this_can, h_this_then⟩⟩
      · refine A_tabIn (t := 100) X (by omega) dX11_rate_44 1 (by omega) (by omega) rfl ?_
        refine A_al0 X dX11_rate_100 ?_
        refine A_dup X dX11_rate_101 ?_
        refine A_getf X flX11_206 h_this rfl dX11_rate_102 ?_
        refine A_ldc2 (z := 100) X kcX11_210 dX11_rate_105 ?_
        refine A_ladd X dX11_rate_108 ?_
        refine A_putf X flX11_206 h_this dX11_rate_109 ?_
        refine A_gen (fun h109 e109 k109 q109 => ?_)
        have h_this := e109
        have h_this_suit := (k109 _ (by omega)).trans h_this_suit
        have h_this_read := (k109 _ (by omega)).trans h_this_read
        have h_this_now := (k109 _ (by omega)).trans h_this_now
        have h_this_past := (k109 _ (by omega)).trans h_this_past
        have h_this_images := (k109 _ (by omega)).trans h_this_images
        have h_this_kept := (k109 _ (by omega)).trans h_this_kept
        have h_this_text := (k109 _ (by omega)).trans h_this_text
        have h_this_seen := (k109 _ (by omega)).trans h_this_seen
        have h_this_ends := (k109 _ (by omega)).trans h_this_ends
        have h_this_endsRight := (k109 _ (by omega)).trans h_this_endsRight
        have h_this_takes := (k109 _ (by omega)).trans h_this_takes
        have h_this_can := (k109 _ (by omega)).trans h_this_can
        have h_this_then := (k109 _ (by omega)).trans h_this_then
        refine A_il3 X dX11_rate_112 ?_
        refine A_al0 X dX11_rate_113 ?_
        refine A_il2 X dX11_rate_114 ?_
        refine A_dVi1 X (m_envy hsr hn hok h_this h_this_suit h_this_now) h_this knX11_envy mlX11_212 dX11_rate_115 ?_
        refine A_isub X dX11_rate_118 ?_
        exact A_ret X dX11_rate_119 rfl ⟨congrArg (fun t => some (aI t)) (by rw [qRate, if_pos ⟨c9, c16⟩, rtK, if_neg (by omega), if_pos (by omega)]; rfl), rfl, fun q hq => by rw [k109 q (by omega), k40 q (by omega)], by rw [if_pos ⟨c9, c16⟩, rtT, if_neg (by omega), if_pos (by omega), show tr + 101 = tr + 1 + 100 by omega]; exact ⟨_, _, _, _, _, _, _, _, _, h_this, h_this_suit, h_this_read, h_this_now, h_this_past, h_this_images, h_this_kept, h_this_text, h_this_seen, h_this_ends, h_this_endsRight, h_this_takes, h_this_can, h_this_then⟩⟩
      · refine A_tabIn (t := 120) X (by omega) dX11_rate_44 2 (by omega) (by omega) rfl ?_
        refine A_al0 X dX11_rate_120 ?_
        refine A_dup X dX11_rate_121 ?_
        refine A_getf X flX11_206 h_this rfl dX11_rate_122 ?_
        refine A_ldc2 (z := 1010) X kcX11_215 dX11_rate_125 ?_
        refine A_ladd X dX11_rate_128 ?_
        refine A_putf X flX11_206 h_this dX11_rate_129 ?_
        refine A_gen (fun h129 e129 k129 q129 => ?_)
        have h_this := e129
        have h_this_suit := (k129 _ (by omega)).trans h_this_suit
        have h_this_read := (k129 _ (by omega)).trans h_this_read
        have h_this_now := (k129 _ (by omega)).trans h_this_now
        have h_this_past := (k129 _ (by omega)).trans h_this_past
        have h_this_images := (k129 _ (by omega)).trans h_this_images
        have h_this_kept := (k129 _ (by omega)).trans h_this_kept
        have h_this_text := (k129 _ (by omega)).trans h_this_text
        have h_this_seen := (k129 _ (by omega)).trans h_this_seen
        have h_this_ends := (k129 _ (by omega)).trans h_this_ends
        have h_this_endsRight := (k129 _ (by omega)).trans h_this_endsRight
        have h_this_takes := (k129 _ (by omega)).trans h_this_takes
        have h_this_can := (k129 _ (by omega)).trans h_this_can
        have h_this_then := (k129 _ (by omega)).trans h_this_then
        refine A_iconst X dX11_rate_132 ?_
        refine A_il3 X dX11_rate_133 ?_
        refine A_al0 X dX11_rate_134 ?_
        refine A_il2 X dX11_rate_135 ?_
        refine A_dVi1 X (m_stepsOf (fn 6).toNat (by omega) hn hsr h_this h_this_now) h_this knX11_stepsOf mlX11_143 dX11_rate_136 ?_
        refine A_iadd X dX11_rate_139 ?_
        refine A_imul X dX11_rate_140 ?_
        exact A_ret X dX11_rate_141 rfl ⟨congrArg (fun t => some (aI t)) (by rw [qRate, if_pos ⟨c9, c16⟩, rtK, if_neg (by omega), if_neg (by omega), if_pos (by omega)]; rfl), rfl, fun q hq => by rw [k129 q (by omega), k40 q (by omega)], by rw [if_pos ⟨c9, c16⟩, rtT, if_neg (by omega), if_neg (by omega), if_pos (by omega), show tr + 1011 = tr + 1 + 1010 by omega]; exact ⟨_, _, _, _, _, _, _, _, _, h_this, h_this_suit, h_this_read, h_this_now, h_this_past, h_this_images, h_this_kept, h_this_text, h_this_seen, h_this_ends, h_this_endsRight, h_this_takes, h_this_can, h_this_then⟩⟩
      · refine A_tabIn (t := 142) X (by omega) dX11_rate_44 3 (by omega) (by omega) rfl ?_
        refine A_al0 X dX11_rate_142 ?_
        refine A_dup X dX11_rate_143 ?_
        refine A_getf X flX11_206 h_this rfl dX11_rate_144 ?_
        refine A_ldc2 (z := 10100) X kcX11_217 dX11_rate_147 ?_
        refine A_ladd X dX11_rate_150 ?_
        refine A_putf X flX11_206 h_this dX11_rate_151 ?_
        refine A_gen (fun h151 e151 k151 q151 => ?_)
        have h_this := e151
        have h_this_suit := (k151 _ (by omega)).trans h_this_suit
        have h_this_read := (k151 _ (by omega)).trans h_this_read
        have h_this_now := (k151 _ (by omega)).trans h_this_now
        have h_this_past := (k151 _ (by omega)).trans h_this_past
        have h_this_images := (k151 _ (by omega)).trans h_this_images
        have h_this_kept := (k151 _ (by omega)).trans h_this_kept
        have h_this_text := (k151 _ (by omega)).trans h_this_text
        have h_this_seen := (k151 _ (by omega)).trans h_this_seen
        have h_this_ends := (k151 _ (by omega)).trans h_this_ends
        have h_this_endsRight := (k151 _ (by omega)).trans h_this_endsRight
        have h_this_takes := (k151 _ (by omega)).trans h_this_takes
        have h_this_can := (k151 _ (by omega)).trans h_this_can
        have h_this_then := (k151 _ (by omega)).trans h_this_then
        refine A_il3 X dX11_rate_154 ?_
        refine A_al0 X dX11_rate_155 ?_
        refine A_il2 X dX11_rate_156 ?_
        refine A_dVi1 X (m_envy hsr hn hok h_this h_this_suit h_this_now) h_this knX11_envy mlX11_212 dX11_rate_157 ?_
        refine A_isub X dX11_rate_160 ?_
        refine A_il2 X dX11_rate_161 ?_
        refine A_iadd X dX11_rate_162 ?_
        exact A_ret X dX11_rate_163 rfl ⟨congrArg (fun t => some (aI t)) (by rw [qRate, if_pos ⟨c9, c16⟩, rtK, if_neg (by omega), if_neg (by omega), if_neg (by omega), if_pos (by omega)]; rfl), rfl, fun q hq => by rw [k151 q (by omega), k40 q (by omega)], by rw [if_pos ⟨c9, c16⟩, rtT, if_neg (by omega), if_neg (by omega), if_neg (by omega), if_pos (by omega), show tr + 10101 = tr + 1 + 10100 by omega]; exact ⟨_, _, _, _, _, _, _, _, _, h_this, h_this_suit, h_this_read, h_this_now, h_this_past, h_this_images, h_this_kept, h_this_text, h_this_seen, h_this_ends, h_this_endsRight, h_this_takes, h_this_can, h_this_then⟩⟩
      · refine A_tabIn (t := 164) X (by omega) dX11_rate_44 4 (by omega) (by omega) rfl ?_
        refine A_al0 X dX11_rate_164 ?_
        refine A_dup X dX11_rate_165 ?_
        refine A_getf X flX11_206 h_this rfl dX11_rate_166 ?_
        refine A_ldc2 (z := 100000) X kcX11_219 dX11_rate_169 ?_
        refine A_ladd X dX11_rate_172 ?_
        refine A_putf X flX11_206 h_this dX11_rate_173 ?_
        refine A_gen (fun h173 e173 k173 q173 => ?_)
        have h_this := e173
        have h_this_suit := (k173 _ (by omega)).trans h_this_suit
        have h_this_read := (k173 _ (by omega)).trans h_this_read
        have h_this_now := (k173 _ (by omega)).trans h_this_now
        have h_this_past := (k173 _ (by omega)).trans h_this_past
        have h_this_images := (k173 _ (by omega)).trans h_this_images
        have h_this_kept := (k173 _ (by omega)).trans h_this_kept
        have h_this_text := (k173 _ (by omega)).trans h_this_text
        have h_this_seen := (k173 _ (by omega)).trans h_this_seen
        have h_this_ends := (k173 _ (by omega)).trans h_this_ends
        have h_this_endsRight := (k173 _ (by omega)).trans h_this_endsRight
        have h_this_takes := (k173 _ (by omega)).trans h_this_takes
        have h_this_can := (k173 _ (by omega)).trans h_this_can
        have h_this_then := (k173 _ (by omega)).trans h_this_then
        refine A_il3 X dX11_rate_176 ?_
        refine A_al0 X dX11_rate_177 ?_
        refine A_iconst X dX11_rate_178 ?_
        refine A_dVi1 X (m_goodsOf (fs 0).toNat (by omega) (by omega) hn.1 (by omega) h_this h_this_suit h_this_now) h_this knX11_goodsOf mlX11_129 dX11_rate_179 ?_
        refine A_dSi1 X (m_bits (gO fn 2 (fs 0).toNat) rfl (by omega)) knX11_bits mlX11_165 dX11_rate_182 ?_
        refine A_iadd X dX11_rate_185 ?_
        exact A_ret X dX11_rate_186 rfl ⟨congrArg (fun t => some (aI t)) (by rw [qRate, if_pos ⟨c9, c16⟩, rtK, if_neg (by omega), if_neg (by omega), if_neg (by omega), if_neg (by omega), if_pos (by omega)]; rfl), rfl, fun q hq => by rw [k173 q (by omega), k40 q (by omega)], by rw [if_pos ⟨c9, c16⟩, rtT, if_neg (by omega), if_neg (by omega), if_neg (by omega), if_neg (by omega), if_pos (by omega), show tr + 100001 = tr + 1 + 100000 by omega]; exact ⟨_, _, _, _, _, _, _, _, _, h_this, h_this_suit, h_this_read, h_this_now, h_this_past, h_this_images, h_this_kept, h_this_text, h_this_seen, h_this_ends, h_this_endsRight, h_this_takes, h_this_can, h_this_then⟩⟩
    · refine A_ldc (z := -1000000) X kcX11_205 dX11_rate_19 ?_
      exact A_ret X dX11_rate_21 rfl ⟨congrArg (fun t => some (aI t)) (by rw [qRate, if_neg (fun q => c16 q.2)]), rfl, mFr.rf _ _, by rw [if_neg (fun q => c16 q.2)]; exact hW0⟩
