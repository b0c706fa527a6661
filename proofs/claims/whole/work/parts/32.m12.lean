/-! the reference: soonest() -/
/-! the loop of soonest(), from its first row on -/
set_option maxRecDepth 100000 in
theorem m_soon1 {x : aX} {d n : Nat} {h : AH} {tm : Nat} {un sz sm tr ak bg mt : Int} {fs fc u0 : Int → Int} {m a b : Int} {post : aPost} (X : aOk x (d + 3) cX11_soonest RX11 "soonest" (some .int) 0 0 post) (hc : 0 ≤ fs 2 ∧ fs 2 ≤ 3) (hm : 1 ≤ m ∧ m ≤ 99) (ha : 1 ≤ a ∧ a ≤ 9) (hb : 1 ≤ b ∧ b ≤ 9) (h_this : h tm = some (aOb 11 (mO tm un sz sm tr ak bg mt))) (h_this_suit : h (tm + 1) = some (aIa x.1 32 fs)) (h_this_can : h (tm + 12) = some (aZa x.1 1000 fc)) (h_this_then : h (tm + 13) = some (aZa x.1 1000 u0))
    (hp : ∀ (r : Int) (h2 : AH), r = fnd (okS (fs 2) a b m) 60 → (∀ q, q ≠ tm + 12 → q ≠ tm + 13 → h2 q = h q) → ∀ u1 u2 : Int → Int, h2 (tm + 12) = some (aZa x.1 1000 u1) → h2 (tm + 13) = some (aZa x.1 1000 u2) → post (some (aI r)) n h2) : AW x 0 0 n h 41 [some (.ref tm), some (aI m), some (aI a), some (aI b), some (aI 0), none] [] := by
  refine lp_0 (P := fun i => ∀ (hh : AH) (u : Int → Int), hh (tm + 12) = some (aZa x.1 1000 u) → (∀ k : Int, 0 ≤ k → k < (i : Int) → u k = bI (k = 0 ∨ k = 500)) → (∀ q, q ≠ tm + 12 → hh q = h q) → AW x 0 0 n hh 41 [some (.ref tm), some (aI m), some (aI a), some (aI b), some (aI (i : Int)), none] []) 1000 ?_ ?_ h fc h_this_can (fun k h1 h2 => by omega) (fun _ _ => rfl)
  · intro hh u hu hk hq
    have h_this := (hq tm (by omega)).trans h_this
    have h_this_suit := (hq (tm + 1) (by omega)).trans h_this_suit
    have h_this_then := (hq (tm + 13) (by omega)).trans h_this_then
    have h_this_can := hu
    have hI : cnI (fs 2) a b 0 u := by
      intro f r y h1 h2 h3
      rw [hk _ (by omega) (by omega)]
      refine bI_cg ?_
      rw [rc, decide_eq_true_eq]
      omega
    refine A_il4 X dX11_soonest_41 ?_
    refine A_sipush X dX11_soonest_43 ?_
    refine A_icmp_ge (t := 89) X (by omega) (by omega) dX11_soonest_46 (fun c46 => ?_) (fun c46 => by exfalso; omega)
    refine A_iconst X dX11_soonest_89 ?_
    refine A_is4 X dX11_soonest_90 ?_
    refine lp_0 (P := fun i => ∀ (hg : AH) (v w : Int → Int), hg (tm + 12) = some (aZa x.1 1000 v) → hg (tm + 13) = some (aZa x.1 1000 w) → cnI (fs 2) a b i v → fnd (okS (fs 2) a b m) i = -9 → (∀ q, q ≠ tm + 12 → q ≠ tm + 13 → hg q = h q) → AW x 0 0 n hg 92 [some (.ref tm), some (aI m), some (aI a), some (aI b), some (aI ((i : Int) + 1)), none] []) 60 ?_ ?_ hh u u0 h_this_can h_this_then hI rfl (fun q h1 _ => hq q h1)
    · intro hg v w hv hw hI hf hq2
      refine A_il4 X dX11_soonest_92 ?_
      refine A_bipush X dX11_soonest_94 ?_
      refine A_icmp_gt (t := 194) X (by omega) (by omega) dX11_soonest_96 (fun c96 => ?_) (fun c96 => by exfalso; omega)
      refine A_bipush X dX11_soonest_194 ?_
      exact A_ret X dX11_soonest_196 rfl (hp (-9) hg hf.symm hq2 v w hv hw)
    · intro i hi ih hg v w hv hw hI hf hq2
      have h_this := (hq2 tm (by omega) (by omega)).trans ((hq tm (by omega)).symm.trans h_this)
      have h_this_suit := (hq2 (tm + 1) (by omega) (by omega)).trans ((hq (tm + 1) (by omega)).symm.trans h_this_suit)
      refine A_il4 X dX11_soonest_92 ?_
      refine A_bipush X dX11_soonest_94 ?_
      refine A_icmp_gt (t := 194) X (by omega) (by omega) dX11_soonest_96 (fun c96 => by exfalso; omega) (fun c96 => ?_)
      refine A_iconst X dX11_soonest_99 ?_
      refine A_is5 X dX11_soonest_100 ?_
      refine lp_0 (P := fun j => ∀ (hj : AH) (w : Int → Int), hj (tm + 13) = some (aZa x.1 1000 w) → (∀ k : Int, 0 ≤ k → k < (j : Int) → w k = 0) → (∀ q, q ≠ tm + 13 → hj q = hg q) → AW x 0 0 n hj 102 [some (.ref tm), some (aI m), some (aI a), some (aI b), some (aI ((i : Int) + 1)), some (aI (j : Int))] []) 1000 ?_ ?_ hg w hw (fun k h1 h2 => by omega) (fun _ _ => rfl)
      · intro hj w hw hwz hqj
        have h_this := (hqj tm (by omega)).trans h_this
        have h_this_suit := (hqj (tm + 1) (by omega)).trans h_this_suit
        have h_this_can := (hqj (tm + 12) (by omega)).trans hv
        have h_this_then := hw
        refine A_il5 X dX11_soonest_102 ?_
        refine A_sipush X dX11_soonest_104 ?_
        refine A_icmp_ge (t := 124) X (by omega) (by omega) dX11_soonest_107 (fun c107 => ?_) (fun c107 => by exfalso; omega)
        refine A_al0 X dX11_soonest_124 ?_
        refine A_iconst X dX11_soonest_125 ?_
        refine A_il2 X dX11_soonest_126 ?_
        refine A_eVv2 X (m_goes hc (Or.inl rfl) ha (cnI_z hI) h_this h_this_suit h_this_can h_this_then) h_this knX11_goes mlX11_199 dX11_soonest_127 (fun h127 p127 => ?_)
        obtain ⟨⟨w1, hw1, hg1⟩, hqa⟩ := p127
        have h_this := (hqa tm (by omega)).trans h_this
        have h_this_suit := (hqa (tm + 1) (by omega)).trans h_this_suit
        have h_this_can := (hqa (tm + 12) (by omega)).trans h_this_can
        have h_this_then := hw1
        refine A_al0 X dX11_soonest_130 ?_
        refine A_iconst X dX11_soonest_131 ?_
        refine A_il3 X dX11_soonest_132 ?_
        refine A_eVv2 X (m_goes hc (Or.inr rfl) hb (cnI_z hI) h_this h_this_suit h_this_can h_this_then) h_this knX11_goes mlX11_199 dX11_soonest_133 (fun h133 p133 => ?_)
        obtain ⟨⟨w2, hw2, hg2⟩, hqb⟩ := p133
        have h_this := (hqb tm (by omega)).trans h_this
        have h_this_suit := (hqb (tm + 1) (by omega)).trans h_this_suit
        have h_this_can := (hqb (tm + 12) (by omega)).trans h_this_can
        have h_this_then := hw2
        have hI2 : cnI (fs 2) a b (i + 1) w2 := cnI_s hc ha hb hI (u1 := w1) (fun f r y h1 h2 h3 => by rw [hg1 f r y h1 h2 h3, hwz _ (by omega) (by omega)]) hg2
        have hqc : ∀ q, q ≠ tm + 12 → q ≠ tm + 13 → h133 q = h q := fun q h1 h2 => by rw [hqb q h2, hqa q h2, hqj q h2, hq2 q h1 h2]
        refine A_iconst X dX11_soonest_136 ?_
        refine A_is5 X dX11_soonest_137 ?_
        refine lp_0 (P := fun j => ∀ (hj : AH) (v2 : Int → Int), hj (tm + 12) = some (aZa x.1 1000 v2) → (∀ k : Int, 0 ≤ k → k < (j : Int) → v2 k = w2 k) → (∀ q, q ≠ tm + 12 → hj q = h133 q) → AW x 0 0 n hj 139 [some (.ref tm), some (aI m), some (aI a), some (aI b), some (aI ((i : Int) + 1)), some (aI (j : Int))] []) 1000 ?_ ?_ h133 v h_this_can (fun k h1 h2 => by omega) (fun _ _ => rfl)
        · intro hj v2 hv2 hvz hqj
          have h_this := (hqj tm (by omega)).trans h_this
          have h_this_suit := (hqj (tm + 1) (by omega)).trans h_this_suit
          have h_this_then := (hqj (tm + 13) (by omega)).trans h_this_then
          have h_this_can := hv2
          have hI3 : cnI (fs 2) a b (i + 1) v2 := fun f r y h1 h2 h3 => by rw [hvz _ (by omega) (by omega)]; exact hI2 f r y h1 h2 h3
          have a0 := cnI_any hc hI3 (f := 0) (y := m) (by omega) (by omega)
          have a1 := cnI_any hc hI3 (f := 1) (y := m) (by omega) (by omega)
          have hqd : ∀ q, q ≠ tm + 12 → q ≠ tm + 13 → hj q = h q := fun q h1 h2 => by rw [hqj q h1, hqc q h1 h2]
          have hend : okS (fs 2) a b m (i + 1) = true → AW x 0 0 n hj 185 [some (.ref tm), some (aI m), some (aI a), some (aI b), some (aI ((i : Int) + 1)), some (aI (1000 : Int))] [] := by
            intro hk
            have e := fnd_at hf hk (59 - i)
            rw [show i + 1 + (59 - i) = 60 by omega] at e
            refine A_il4 X dX11_soonest_185 ?_
            exact A_ret X dX11_soonest_187 rfl (hp _ hj (by rw [e]; rfl) hqd v2 w2 hv2 h_this_then)
          refine A_il5 X dX11_soonest_139 ?_
          refine A_sipush X dX11_soonest_141 ?_
          refine A_icmp_ge (t := 167) X (by omega) (by omega) dX11_soonest_144 (fun c144 => ?_) (fun c144 => by exfalso; omega)
          refine A_al0 X dX11_soonest_167 ?_
          refine A_iconst X dX11_soonest_168 ?_
          refine A_il1 X dX11_soonest_169 ?_
          refine A_dVi2 X (m_anyOf hc (Or.inl rfl) (by omega) (cnI_z hI3) h_this h_this_suit h_this_can) h_this knX11_anyOf mlX11_194 dX11_soonest_170 ?_
          rw [a0]
          refine A_ifb_ne (t := 185) X dX11_soonest_173 (fun c173 => ?_) (fun c173 => ?_)
          · exact hend (by unfold okS; rw [c173]; rfl)
          · refine A_al0 X dX11_soonest_176 ?_
            refine A_iconst X dX11_soonest_177 ?_
            refine A_il1 X dX11_soonest_178 ?_
            refine A_dVi2 X (m_anyOf hc (Or.inr rfl) (by omega) (cnI_z hI3) h_this h_this_suit h_this_can) h_this knX11_anyOf mlX11_194 dX11_soonest_179 ?_
            rw [a1]
            refine A_ifb_eq (t := 188) X dX11_soonest_182 (fun c182 => ?_) (fun c182 => ?_)
            · refine A_ii4 X dX11_soonest_188 ?_
              refine A_goto (t := 92) X dX11_soonest_191 ?_
              exact A_fg5 (ih hj v2 w2 hv2 h_this_then hI3 (by rw [fnd, if_pos hf, if_neg]; unfold okS; rw [Bool.or_eq_true]; exact fun q => q.elim c173 c182) hqd)
            · exact hend (by unfold okS; rw [c182, Bool.or_true])
        · intro j hj2 ih2 hj v2 hv2 hvz hqj
          have h_this := (hqj tm (by omega)).trans h_this
          have h_this_then := (hqj (tm + 13) (by omega)).trans h_this_then
          have h_this_can := hv2
          refine A_il5 X dX11_soonest_139 ?_
          refine A_sipush X dX11_soonest_141 ?_
          refine A_icmp_ge (t := 167) X (by omega) (by omega) dX11_soonest_144 (fun c144 => by exfalso; omega) (fun c144 => ?_)
          refine A_al0 X dX11_soonest_147 ?_
          refine A_getf X flX11_44 h_this rfl dX11_soonest_148 ?_
          refine A_il5 X dX11_soonest_151 ?_
          refine A_al0 X dX11_soonest_153 ?_
          refine A_getf X flX11_47 h_this rfl dX11_soonest_154 ?_
          refine A_il5 X dX11_soonest_157 ?_
          refine A_zald X h_this_then (by omega) dX11_soonest_159 ?_
          refine A_zast X h_this_can (by omega) (cnI_z hI2 _ (by omega) (by omega)) dX11_soonest_160 ?_
          refine A_gen (fun h160 e160 k160 q160 => ?_)
          refine A_ii5 X dX11_soonest_161 ?_
          refine A_goto (t := 139) X dX11_soonest_164 ?_
          refine ih2 h160 _ e160 (fun k h1 h2 => ?_) (fun q hqb2 => (k160 q hqb2).trans (hqj q hqb2))
          unfold aiu
          split
          · next e => rw [e]
          · exact hvz k h1 (by omega)
      · intro j hj2 ih2 hj w hw hwz hqj
        have h_this := (hqj tm (by omega)).trans h_this
        have h_this_then := hw
        refine A_il5 X dX11_soonest_102 ?_
        refine A_sipush X dX11_soonest_104 ?_
        refine A_icmp_ge (t := 124) X (by omega) (by omega) dX11_soonest_107 (fun c107 => by exfalso; omega) (fun c107 => ?_)
        refine A_al0 X dX11_soonest_110 ?_
        refine A_getf X flX11_47 h_this rfl dX11_soonest_111 ?_
        refine A_il5 X dX11_soonest_114 ?_
        refine A_iconst X dX11_soonest_116 ?_
        refine A_zast X h_this_then (by omega) (by omega) dX11_soonest_117 ?_
        refine A_gen (fun h117 e117 k117 q117 => ?_)
        refine A_ii5 X dX11_soonest_118 ?_
        refine A_goto (t := 102) X dX11_soonest_121 ?_
        refine ih2 h117 _ e117 (fun k h1 h2 => ?_) (fun q hqb2 => (k117 q hqb2).trans (hqj q hqb2))
        unfold aiu
        split
        · rfl
        · exact hwz k h1 (by omega)
  · intro i hi ih hh u hu hk hq
    have h_this := (hq tm (by omega)).trans h_this
    have h_this_can := hu
    have stp : ∀ v : Int, v = bI ((i : Int) = 0 ∨ (i : Int) = 500) → ∀ k : Int, 0 ≤ k → k < ((i + 1 : Nat) : Int) → aiu u (i : Int) v k = bI (k = 0 ∨ k = 500) := by
      intro v hv k h1 h2
      unfold aiu
      split
      · next e => rw [hv, e]
      · exact hk k h1 (by omega)
    refine A_il4 X dX11_soonest_41 ?_
    refine A_sipush X dX11_soonest_43 ?_
    refine A_icmp_ge (t := 89) X (by omega) (by omega) dX11_soonest_46 (fun c46 => by exfalso; omega) (fun c46 => ?_)
    refine A_al0 X dX11_soonest_49 ?_
    refine A_getf X flX11_44 h_this rfl dX11_soonest_50 ?_
    refine A_il4 X dX11_soonest_53 ?_
    refine A_il4 X dX11_soonest_55 ?_
    refine A_iconst X dX11_soonest_57 ?_
    refine A_iconst X dX11_soonest_58 ?_
    refine A_iconst X dX11_soonest_59 ?_
    refine A_dSi3 X (m_place) knX11_place mlX11_191 dX11_soonest_60 ?_
    refine A_icmp_eq (t := 77) X (by omega) (by omega) dX11_soonest_63 (fun c63 => ?_) (fun c63 => ?_)
    · refine A_iconst X dX11_soonest_77 ?_
      refine A_goto (t := 82) X dX11_soonest_78 ?_
      refine A_zast X h_this_can (by omega) (by omega) dX11_soonest_82 ?_
      refine A_gen (fun h82 e82 k82 q82 => ?_)
      refine A_ii4 X dX11_soonest_83 ?_
      refine A_goto (t := 41) X dX11_soonest_86 ?_
      exact ih h82 _ e82 (stp _ (by rw [bI_t (by omega)])) (fun q hqb => (k82 q hqb).trans (hq q hqb))
    · refine A_il4 X dX11_soonest_66 ?_
      refine A_iconst X dX11_soonest_68 ?_
      refine A_iconst X dX11_soonest_69 ?_
      refine A_iconst X dX11_soonest_70 ?_
      refine A_dSi3 X (m_place) knX11_place mlX11_191 dX11_soonest_71 ?_
      refine A_icmp_ne (t := 81) X (by omega) (by omega) dX11_soonest_74 (fun c74 => ?_) (fun c74 => ?_)
      · refine A_iconst X dX11_soonest_81 ?_
        refine A_zast X h_this_can (by omega) (by omega) dX11_soonest_82 ?_
        refine A_gen (fun h82 e82 k82 q82 => ?_)
        refine A_ii4 X dX11_soonest_83 ?_
        refine A_goto (t := 41) X dX11_soonest_86 ?_
        exact ih h82 _ e82 (stp _ (by rw [bI_f (by omega)])) (fun q hqb => (k82 q hqb).trans (hq q hqb))
      · refine A_iconst X dX11_soonest_77 ?_
        refine A_goto (t := 82) X dX11_soonest_78 ?_
        refine A_zast X h_this_can (by omega) (by omega) dX11_soonest_82 ?_
        refine A_gen (fun h82 e82 k82 q82 => ?_)
        refine A_ii4 X dX11_soonest_83 ?_
        refine A_goto (t := 41) X dX11_soonest_86 ?_
        exact ih h82 _ e82 (stp _ (by rw [bI_t (by omega)])) (fun q hqb => (k82 q hqb).trans (hq q hqb))
set_option maxRecDepth 100000 in
theorem M_soonest {G : aG} {d n : Nat} {h : AH} {tm : Nat} {fs fn fp fi fk ft fe : Int → Int} {un sz sm tr : Int} {m a b : Int} (hm : inR m) (har : inR a) (hbr : inR b) (hc : 0 ≤ fs 2 ∧ fs 2 ≤ 3) (hW : mW G tm h fs fn fp fi fk ft fe un sz sm tr) : aE G (d + 3) kX11_soonest [.ref tm, aI m, aI a, aI b] n h (some (aI (qSoon fs m a b))) (fun h' => mFr tm h h' ∧ mW G tm h' fs fn fp fi fk ft fe un sz sm tr) := by
  have hW0 := hW
  obtain ⟨ak, bg, mt, fr, f9, f10, f11, f12, f13, h_this, h_this_suit, h_this_read, h_this_now, h_this_past, h_this_images, h_this_kept, h_this_text, h_this_seen, h_this_ends, h_this_endsRight, h_this_takes, h_this_can, h_this_then⟩ := hW
  refine aCt_of (lv := [some (.ref tm), some (aI m), some (aI a), some (aI b), none, none]) knX11_soonest.1 rfl rfl (Nat.le_of_ble_eq_true rfl) (fun x hG hsc X => ?_)
  subst hG
  refine A_il1 X dX11_soonest_0 ?_
  refine A_i2l X (by omega) dX11_soonest_1 ?_
  refine A_lconst (z := 1) X dX11_soonest_2 ?_
  refine A_ldc2 (z := 99) X kcX11_197 dX11_soonest_3 ?_
  refine A_dSi3 X (m_in (by omega) (by omega) (by omega)) knX11_in mlX11_57 dX11_soonest_6 ?_
  refine A_ifb_eq (t := 36) X dX11_soonest_9 (fun c9 => ?_) (fun c9 => ?_)
  · refine A_iconst X dX11_soonest_36 ?_
    exact A_ret X dX11_soonest_37 rfl ⟨congrArg (fun t => some (aI t)) (by rw [qSoon, if_neg (fun q => c9 q.1)]), rfl, mFr.rf _ _, hW0⟩
  · refine A_il2 X dX11_soonest_12 ?_
    refine A_i2l X (by omega) dX11_soonest_13 ?_
    refine A_lconst (z := 1) X dX11_soonest_14 ?_
    refine A_ldc2 (z := 9) X kcX11_179 dX11_soonest_15 ?_
    refine A_dSi3 X (m_in (by omega) (by omega) (by omega)) knX11_in mlX11_57 dX11_soonest_18 ?_
    refine A_ifb_eq (t := 36) X dX11_soonest_21 (fun c21 => ?_) (fun c21 => ?_)
    · refine A_iconst X dX11_soonest_36 ?_
      exact A_ret X dX11_soonest_37 rfl ⟨congrArg (fun t => some (aI t)) (by rw [qSoon, if_neg (fun q => c21 q.2.1)]), rfl, mFr.rf _ _, hW0⟩
    · refine A_il3 X dX11_soonest_24 ?_
      refine A_i2l X (by omega) dX11_soonest_25 ?_
      refine A_lconst (z := 1) X dX11_soonest_26 ?_
      refine A_ldc2 (z := 9) X kcX11_179 dX11_soonest_27 ?_
      refine A_dSi3 X (m_in (by omega) (by omega) (by omega)) knX11_in mlX11_57 dX11_soonest_30 ?_
      refine A_ifb_ne (t := 38) X dX11_soonest_33 (fun c33 => ?_) (fun c33 => ?_)
      · refine A_iconst X dX11_soonest_38 ?_
        refine A_is4 X dX11_soonest_39 ?_
        rw [qSoon, if_pos ⟨c9, c21, c33⟩] at X
        refine m_soon1 X hc c9 c21 c33 h_this h_this_suit h_this_can h_this_then (fun r h2 hr hq u1 u2 g1 g2 => ?_)
        subst hr
        exact ⟨rfl, rfl, fun q hq2 => hq q (by omega) (by omega), ⟨_, _, _, _, _, _, _, _, _, (hq _ (by omega) (by omega)).trans h_this, (hq _ (by omega) (by omega)).trans h_this_suit, (hq _ (by omega) (by omega)).trans h_this_read, (hq _ (by omega) (by omega)).trans h_this_now, (hq _ (by omega) (by omega)).trans h_this_past, (hq _ (by omega) (by omega)).trans h_this_images, (hq _ (by omega) (by omega)).trans h_this_kept, (hq _ (by omega) (by omega)).trans h_this_text, (hq _ (by omega) (by omega)).trans h_this_seen, (hq _ (by omega) (by omega)).trans h_this_ends, (hq _ (by omega) (by omega)).trans h_this_endsRight, (hq _ (by omega) (by omega)).trans h_this_takes, g1, g2⟩⟩
      · refine A_iconst X dX11_soonest_36 ?_
        exact A_ret X dX11_soonest_37 rfl ⟨congrArg (fun t => some (aI t)) (by rw [qSoon, if_neg (fun q => c33 q.2.2)]), rfl, mFr.rf _ _, hW0⟩
