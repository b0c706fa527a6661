/-! the reference: byTurns() -/
theorem VQ_le {tb l r : Nat} (hv : VQ tb l r) : l ≤ tb ∧ r ≤ tb := by
  have h1 : (l ||| r) ≤ tb := by rw [← hv.1]; exact Nat.and_le_right
  exact ⟨Nat.le_trans Nat.left_le_or h1, Nat.le_trans Nat.right_le_or h1⟩
set_option maxRecDepth 100000 in
theorem m_layTurns {G : aG} {d n : Nat} {h : AH} {tm : Nat} {un sz sm tr ak bg mt : Int} {fs fn f9 f10 f11 : Int → Int} {side : Int} (hok : sOK fs) (hn : nOK fn) (hsd : side = 0 ∨ side = 1) (h_this : h tm = some (aOb 11 (mO tm un sz sm tr ak bg mt))) (h_this_suit : h (tm + 1) = some (aIa G 32 fs)) (h_this_now : h (tm + 3) = some (aIa G 9 fn)) (h_this_ends : h (tm + 9) = some (aIa G 4096 f9)) (h_this_endsRight : h (tm + 10) = some (aIa G 4096 f10)) (h_this_takes : h (tm + 11) = some (aIa G 4096 f11)) : aE G (d + 3) kX11_layTurns [.ref tm, aI side] n h none (fun h' => (∃ e9 e10 e11 : Int → Int, h' (tm + 9) = some (aIa G 4096 e9) ∧ h' (tm + 10) = some (aIa G 4096 e10) ∧ h' (tm + 11) = some (aIa G 4096 e11) ∧ okA fs (gO fn 2 (fs 0).toNat) (gO fn 0 (fs 0).toNat) (gO fn 1 (fs 0).toNat) side e9 e10 e11 0 0) ∧ ∀ q, q ≠ tm + 9 → q ≠ tm + 10 → q ≠ tm + 11 → h' q = h q) := by
  refine aCt_of (lv := [some (.ref tm), some (aI side), none, none, none, none, none, none, none, none]) knX11_layTurns.1 rfl rfl (Nat.le_of_ble_eq_true rfl) (fun x hG hsc X => ?_)
  subst hG
  have hg := hok.1
  have hG6 : (fs 0).toNat ≤ 6 := by omega
  have ht := gO_6 (fn := fn) (ow := 2) hG6
  have hlf := gO_6 (fn := fn) (ow := 0) hG6
  have hrt := gO_6 (fn := fn) (ow := 1) hG6
  have htl := gO_b (fn := fn) (ow := 2) (fs 0).toNat
  refine A_al0 X dX11_layTurns_0 ?_
  refine A_iconst X dX11_layTurns_1 ?_
  refine A_dVi1 X (m_goodsOf (fs 0).toNat (by omega) hG6 hn.1 (by omega) h_this h_this_suit h_this_now) h_this knX11_goodsOf mlX11_129 dX11_layTurns_2 ?_
  refine A_is2 X dX11_layTurns_5 ?_
  refine A_al0 X dX11_layTurns_6 ?_
  refine A_iconst X dX11_layTurns_7 ?_
  refine A_dVi1 X (m_goodsOf (fs 0).toNat (by omega) hG6 hn.1 (by omega) h_this h_this_suit h_this_now) h_this knX11_goodsOf mlX11_129 dX11_layTurns_8 ?_
  refine A_is3 X dX11_layTurns_11 ?_
  refine A_al0 X dX11_layTurns_12 ?_
  refine A_iconst X dX11_layTurns_13 ?_
  refine A_dVi1 X (m_goodsOf (fs 0).toNat (by omega) hG6 hn.1 (by omega) h_this h_this_suit h_this_now) h_this knX11_goodsOf mlX11_129 dX11_layTurns_14 ?_
  refine A_is4 X dX11_layTurns_17 ?_
  generalize gO fn 2 (fs 0).toNat = tb at *
  generalize gO fn 0 (fs 0).toNat = lf at *
  generalize gO fn 1 (fs 0).toNat = rt at *
  refine A_il2 X dX11_layTurns_19 ?_
  refine A_is5 X dX11_layTurns_20 ?_
  skip
  have htg : ∀ j, hasB tb j → j < (fs 0).toNat := by
    intro j hb
    refine Decidable.byContradiction fun q => ?_
    have : tb / 2 ^ j = 0 := Nat.div_eq_of_lt (Nat.lt_of_lt_of_le htl (Nat.pow_le_pow_right (n := 2) (by omega) (by omega)))
    unfold hasB at hb
    omega
  have outer : ∀ (k : Nat), k ≤ 64 → ∀ (hh : AH) (e9 e10 e11 : Int → Int), hh (tm + 9) = some (aIa x.1 4096 e9) → hh (tm + 10) = some (aIa x.1 4096 e10) → hh (tm + 11) = some (aIa x.1 4096 e11) → (∀ a b : Nat, a < 64 → b < 64 → VQ tb a b → k ≤ a → okA fs tb lf rt side e9 e10 e11 a b) → (∀ q, q ≠ tm + 9 → q ≠ tm + 10 → q ≠ tm + 11 → hh q = h q) → AW x 0 0 n hh 22 [some (.ref tm), some (aI side), some (aI (tb : Int)), some (aI (lf : Int)), some (aI (rt : Int)), some (aI ((k : Int) - 1)), none, none, none, none] [] := by
    refine lp_dn (P := fun k => k ≤ 64 → ∀ (hh : AH) (e9 e10 e11 : Int → Int), hh (tm + 9) = some (aIa x.1 4096 e9) → hh (tm + 10) = some (aIa x.1 4096 e10) → hh (tm + 11) = some (aIa x.1 4096 e11) → (∀ a b : Nat, a < 64 → b < 64 → VQ tb a b → k ≤ a → okA fs tb lf rt side e9 e10 e11 a b) → (∀ q, q ≠ tm + 9 → q ≠ tm + 10 → q ≠ tm + 11 → hh q = h q) → AW x 0 0 n hh 22 [some (.ref tm), some (aI side), some (aI (tb : Int)), some (aI (lf : Int)), some (aI (rt : Int)), some (aI ((k : Int) - 1)), none, none, none, none] []) ?_ ?_
    · intro _ hh e9 e10 e11 g1 g2 g3 ok hq
      refine A_il5 X dX11_layTurns_22 ?_
      refine A_if_lt (t := 201) X (by omega) dX11_layTurns_24 (fun c24 => ?_) (fun c24 => by exfalso; omega)
      exact A_retv X dX11_layTurns_201 rfl ⟨rfl, rfl, ⟨e9, e10, e11, g1, g2, g3, ok 0 0 (by omega) (by omega) ⟨by simp, rfl⟩ (Nat.le_refl 0)⟩, hq⟩
    · intro l ihl hl64 hh e9 e10 e11 g1 g2 g3 ok hq
      rw [show ((l + 1 : Nat) : Int) - 1 = (l : Int) by omega]
      have inner : ∀ (m : Nat), m ≤ 64 → ∀ (hh : AH) (e9 e10 e11 : Int → Int), hh (tm + 9) = some (aIa x.1 4096 e9) → hh (tm + 10) = some (aIa x.1 4096 e10) → hh (tm + 11) = some (aIa x.1 4096 e11) → (∀ a b : Nat, a < 64 → b < 64 → VQ tb a b → (l < a ∨ (a = l ∧ m ≤ b)) → okA fs tb lf rt side e9 e10 e11 a b) → (∀ q, q ≠ tm + 9 → q ≠ tm + 10 → q ≠ tm + 11 → hh q = h q) → AW x 0 0 n hh 30 [some (.ref tm), some (aI side), some (aI (tb : Int)), some (aI (lf : Int)), some (aI (rt : Int)), some (aI (l : Int)), some (aI ((m : Int) - 1)), none, none, none] [] := by
        refine lp_dn (P := fun m => m ≤ 64 → ∀ (hh : AH) (e9 e10 e11 : Int → Int), hh (tm + 9) = some (aIa x.1 4096 e9) → hh (tm + 10) = some (aIa x.1 4096 e10) → hh (tm + 11) = some (aIa x.1 4096 e11) → (∀ a b : Nat, a < 64 → b < 64 → VQ tb a b → (l < a ∨ (a = l ∧ m ≤ b)) → okA fs tb lf rt side e9 e10 e11 a b) → (∀ q, q ≠ tm + 9 → q ≠ tm + 10 → q ≠ tm + 11 → hh q = h q) → AW x 0 0 n hh 30 [some (.ref tm), some (aI side), some (aI (tb : Int)), some (aI (lf : Int)), some (aI (rt : Int)), some (aI (l : Int)), some (aI ((m : Int) - 1)), none, none, none] []) ?_ ?_
        · intro _ hh e9 e10 e11 g1 g2 g3 ok hq
          refine A_il6 X dX11_layTurns_30 ?_
          refine A_if_lt (t := 195) X (by omega) dX11_layTurns_32 (fun c32 => ?_) (fun c32 => by exfalso; omega)
          refine A_ii5 X dX11_layTurns_195 ?_
          refine A_goto (t := 22) X dX11_layTurns_198 ?_
          exact A_fg6 (ihl (by omega) hh e9 e10 e11 g1 g2 g3 (fun a b ha hb hv hle => ok a b ha hb hv (by omega)) hq)
        · intro r ihr hr64 hh e9 e10 e11 g1 g2 g3 ok hq
          rw [show ((r + 1 : Nat) : Int) - 1 = (r : Int) by omega]
          have h_this := (hq tm (by omega) (by omega) (by omega)).trans h_this
          have h_this_suit := (hq (tm + 1) (by omega) (by omega) (by omega)).trans h_this_suit
          have h_this_ends := g1
          have h_this_endsRight := g2
          have h_this_takes := g3
          have hor := or64 (show l < 64 by omega) (show r < 64 by omega)
          have hpb := pct_b (l ||| r)
          -- the cells that are laid stay, behind one more
          have skip : ∀ (hh2 : AH) (d9 d10 d11 : Int → Int), hh2 (tm + 9) = some (aIa x.1 4096 d9) → hh2 (tm + 10) = some (aIa x.1 4096 d10) → hh2 (tm + 11) = some (aIa x.1 4096 d11) → (VQ tb l r → okA fs tb lf rt side d9 d10 d11 l r) → (∀ q : Int, q ≠ 64 * (l : Int) + (r : Int) → d9 q = e9 q ∧ d10 q = e10 q ∧ d11 q = e11 q) → (∀ q, q ≠ tm + 9 → q ≠ tm + 10 → q ≠ tm + 11 → hh2 q = h q) → AW x 0 0 n hh2 189 [some (.ref tm), some (aI side), some (aI (tb : Int)), some (aI (lf : Int)), some (aI (rt : Int)), some (aI (l : Int)), some (aI (r : Int)), none, none, none] [] := by
            intro hh2 d9 d10 d11 j1 j2 j3 j4 j5 j6
            refine A_ii6 X dX11_layTurns_189 ?_
            refine A_goto (t := 30) X dX11_layTurns_192 ?_
            refine ihr (by omega) hh2 d9 d10 d11 j1 j2 j3 (fun a b ha hb hv hle => ?_) j6
            by_cases e : a = l ∧ b = r
            · obtain ⟨rfl, rfl⟩ := e; exact j4 hv
            · have o := ok a b ha hb hv (by omega)
              have ne : 64 * (a : Int) + (b : Int) ≠ 64 * (l : Int) + (r : Int) := by omega
              unfold okA at o ⊢
              rw [(j5 _ ne).1, (j5 _ ne).2.1, (j5 _ ne).2.2]; exact o
          have cell : VQ tb l r → ∀ (hh2 : AH), hh2 (tm + 9) = some (aIa x.1 4096 e9) → hh2 (tm + 10) = some (aIa x.1 4096 e10) → hh2 (tm + 11) = some (aIa x.1 4096 (aiu e11 (64 * (l : Int) + (r : Int)) (-9))) → (∀ q, q ≠ tm + 11 → hh2 q = hh q) → AW x 0 0 n hh2 96 [some (.ref tm), some (aI side), some (aI (tb : Int)), some (aI (lf : Int)), some (aI (rt : Int)), some (aI (l : Int)), some (aI (r : Int)), some (aI (64 * (l : Int) + (r : Int))), some (aI (mv side l r)), none] [] := by
            intro hv hh2 j1 j2 j3 j4
            have hT := (j4 tm (by omega)).trans h_this
            have hSu := (j4 (tm + 1) (by omega)).trans h_this_suit
            refine m_lcell X tb lf rt l r hok ht hlf hrt (by omega) (by omega) hsd htg hv (aiu_s _ _ _) (fun a b ha hb hv2 hle => ?_) hT hSu j1 j2 j3 (fun hh3 d9 d10 d11 a1 a2 a3 a4 a5 a6 => ?_)
            · have o := ok a b ha hb hv2 (by omega)
              unfold okA at o ⊢
              rw [aiu_n (by omega)]
              exact o
            · exact skip hh3 d9 d10 d11 a1 a2 a3 (fun _ => a4) (fun q hq2 => ⟨(a5 q hq2).1, (a5 q hq2).2.1, ((a5 q hq2).2.2).trans (aiu_n hq2)⟩) (fun q h1 h2 h3 => by rw [a6 q h1 h2 h3, j4 q h3, hq q h1 h2 h3])
          refine A_il6 X dX11_layTurns_30 ?_
          refine A_if_lt (t := 195) X (by omega) dX11_layTurns_32 (fun c32 => by exfalso; omega) (fun c32 => ?_)
          refine A_bipush X dX11_layTurns_35 ?_
          refine A_il5 X dX11_layTurns_37 ?_
          refine A_imul X dX11_layTurns_39 ?_
          refine A_il6 X dX11_layTurns_40 ?_
          refine A_iadd X dX11_layTurns_42 ?_
          refine A_is7 X dX11_layTurns_43 ?_
          refine A_al0 X dX11_layTurns_45 ?_
          refine A_getf X flX11_41 h_this rfl dX11_layTurns_46 ?_
          refine A_il7 X dX11_layTurns_49 ?_
          refine A_bipush X dX11_layTurns_51 ?_
          refine A_iast X h_this_takes (by omega) dX11_layTurns_53 ?_
          refine A_gen (fun h53 e53 k53 q53 => ?_)
          have h_this := (k53 _ (by omega)).trans h_this
          have h_this_suit := (k53 _ (by omega)).trans h_this_suit
          have h_this_ends := (k53 _ (by omega)).trans h_this_ends
          have h_this_endsRight := (k53 _ (by omega)).trans h_this_endsRight
          have h_this_takes := e53
          refine A_il5 X dX11_layTurns_54 ?_
          refine A_il6 X dX11_layTurns_56 ?_
          refine A_ior X l r rfl rfl dX11_layTurns_58 ?_
          refine A_il2 X dX11_layTurns_59 ?_
          refine A_iconst X dX11_layTurns_60 ?_
          refine A_ixorr X dX11_layTurns_61 ?_
          refine A_iandn X (l ||| r) tb rfl rfl dX11_layTurns_62 ?_
          refine A_if_ne (t := 189) X (by have := rm64 (r := tb) hor; omega) dX11_layTurns_63 (fun c63 => ?_) (fun c63 => ?_)
          · exact A_fg7 (skip h53 _ _ _ h_this_ends h_this_endsRight h_this_takes (fun hv => absurd hv.1 (fun q => c63 (by rw [(bt7 _ hor tb ht).mpr q]; rfl))) (fun q hq2 => ⟨rfl, rfl, aiu_n hq2⟩) (fun q h1 h2 h3 => by rw [k53 q h3, hq q h1 h2 h3]))
          · have hsub := (bt7 _ hor tb ht).mp (by omega)
            refine A_il5 X dX11_layTurns_66 ?_
            refine A_il6 X dX11_layTurns_68 ?_
            refine A_iand X l r rfl rfl dX11_layTurns_70 ?_
            refine A_if_ne (t := 189) X (by have := Nat.and_le_left (n := l) (m := r); omega) dX11_layTurns_71 (fun c71 => ?_) (fun c71 => ?_)
            · exact A_fg7 (skip h53 _ _ _ h_this_ends h_this_endsRight h_this_takes (fun hv => absurd hv.2 (fun q => c71 (by rw [q]; rfl))) (fun q hq2 => ⟨rfl, rfl, aiu_n hq2⟩) (fun q h1 h2 h3 => by rw [k53 q h3, hq q h1 h2 h3]))
            · have hand : l &&& r = 0 := by omega
              refine A_il5 X dX11_layTurns_74 ?_
              refine A_il6 X dX11_layTurns_76 ?_
              refine A_ior X l r rfl rfl dX11_layTurns_78 ?_
              refine A_dSi1 X (m_bits (l ||| r) rfl hor) knX11_bits mlX11_165 dX11_layTurns_79 ?_
              refine A_iconst X dX11_layTurns_82 ?_
              refine A_irem X (by omega) (by omega) dX11_layTurns_83 ?_
              refine A_if_ne (t := 91) X (by omega) dX11_layTurns_84 (fun c84 => ?_) (fun c84 => ?_)
              · refine A_iconst X dX11_layTurns_91 ?_
                refine A_il1 X dX11_layTurns_92 ?_
                refine A_isub X dX11_layTurns_93 ?_
                refine A_is8 X dX11_layTurns_94 ?_
                rw [show 1 - side = mv side l r from by rw [mv, if_neg (by omega)]]
                exact cell ⟨hsub, hand⟩ h53 h_this_ends h_this_endsRight h_this_takes k53
              · refine A_il1 X dX11_layTurns_87 ?_
                refine A_goto (t := 94) X dX11_layTurns_88 ?_
                refine A_is8 X dX11_layTurns_94 ?_
                have e := cell ⟨hsub, hand⟩ h53 h_this_ends h_this_endsRight h_this_takes k53
                rw [show mv side l r = side from by rw [mv, if_pos (by omega)]] at e
                exact e
      refine A_il5 X dX11_layTurns_22 ?_
      refine A_if_lt (t := 201) X (by omega) dX11_layTurns_24 (fun c24 => by exfalso; omega) (fun c24 => ?_)
      refine A_il2 X dX11_layTurns_27 ?_
      refine A_is6 X dX11_layTurns_28 ?_
      have e := inner (tb + 1) (by omega) hh e9 e10 e11 g1 g2 g3 (fun a b ha hb hv hle => ok a b ha hb hv (by have := (VQ_le hv).2; omega)) hq
      rw [show ((tb + 1 : Nat) : Int) - 1 = (tb : Int) by omega] at e
      exact e
  have e := outer (tb + 1) (by omega) h f9 f10 f11 h_this_ends h_this_endsRight h_this_takes (fun a b ha hb hv hle => by have := (VQ_le hv).1; omega) (fun q _ _ _ => rfl)
  rw [show ((tb + 1 : Nat) : Int) - 1 = (tb : Int) by omega] at e
  exact e
def trT (fs fn : Int → Int) (side : Int) : Int × Int × Int := tT fs (gO fn 2 (fs 0).toNat) (gO fn 0 (fs 0).toNat) (gO fn 1 (fs 0).toNat) side (pct (gO fn 2 (fs 0).toNat)) 0 0
def qTurns (fs fn : Int → Int) (side w : Int) : Int := if (0 ≤ side ∧ side ≤ 1) ∧ (0 ≤ w ∧ w ≤ 2) then (if w = 0 then (trT fs fn side).2.1 else if w = 1 then (trT fs fn side).2.2 else (trT fs fn side).1) else -1
set_option maxRecDepth 100000 in
theorem M_byTurns {G : aG} {d n : Nat} {h : AH} {tm : Nat} {fs fn fp fi fk ft fe : Int → Int} {un sz sm tr : Int} {side w : Int} (hsr : inR side) (hw : inR w) (hok : sOK fs) (hn : nOK fn) (hW : mW G tm h fs fn fp fi fk ft fe un sz sm tr) : aE G (d + 4) kX11_byTurns [.ref tm, aI side, aI w] n h (some (aI (qTurns fs fn side w))) (fun h' => mFr tm h h' ∧ mW G tm h' fs fn fp fi fk ft fe un sz sm tr) := by
  have hW0 := hW
  obtain ⟨ak, bg, mt, fr, f9, f10, f11, f12, f13, h_this, h_this_suit, h_this_read, h_this_now, h_this_past, h_this_images, h_this_kept, h_this_text, h_this_seen, h_this_ends, h_this_endsRight, h_this_takes, h_this_can, h_this_then⟩ := hW
  refine aCt_of (lv := [some (.ref tm), some (aI side), some (aI w)]) knX11_byTurns.1 rfl rfl (Nat.le_of_ble_eq_true rfl) (fun x hG hsc X => ?_)
  subst hG
  refine A_il1 X dX11_byTurns_0 ?_
  refine A_dSi1 X (m_isTwo (by omega)) knX11_isTwo mlX11_119 dX11_byTurns_1 ?_
  refine A_ifb_eq (t := 19) X dX11_byTurns_4 (fun c4 => ?_) (fun c4 => ?_)
  · refine A_iconst X dX11_byTurns_19 ?_
    exact A_ret X dX11_byTurns_20 rfl ⟨congrArg (fun t => some (aI t)) (by rw [qTurns, if_neg (fun q => c4 q.1)]), rfl, mFr.rf _ _, hW0⟩
  · refine A_il2 X dX11_byTurns_7 ?_
    refine A_i2l X (by omega) dX11_byTurns_8 ?_
    refine A_lconst (z := 0) X dX11_byTurns_9 ?_
    refine A_ldc2 (z := 2) X kcX11_117 dX11_byTurns_10 ?_
    refine A_dSi3 X (m_in (by omega) (by omega) (by omega)) knX11_in mlX11_57 dX11_byTurns_13 ?_
    refine A_ifb_ne (t := 21) X dX11_byTurns_16 (fun c16 => ?_) (fun c16 => ?_)
    · refine A_al0 X dX11_byTurns_21 ?_
      refine A_il1 X dX11_byTurns_22 ?_
      refine A_eVv1 X (m_layTurns hok hn (by omega) h_this h_this_suit h_this_now h_this_ends h_this_endsRight h_this_takes) h_this knX11_layTurns mlX11_172 dX11_byTurns_23 (fun h23 p23 => ?_)
      obtain ⟨⟨e9, e10, e11, g1, g2, g3, g4⟩, hq⟩ := p23
      have hW2 : mW x.1 tm h23 fs fn fp fi fk ft fe un sz sm tr := ⟨_, _, _, _, _, _, _, _, _, (hq _ (by omega) (by omega) (by omega)).trans h_this, (hq _ (by omega) (by omega) (by omega)).trans h_this_suit, (hq _ (by omega) (by omega) (by omega)).trans h_this_read, (hq _ (by omega) (by omega) (by omega)).trans h_this_now, (hq _ (by omega) (by omega) (by omega)).trans h_this_past, (hq _ (by omega) (by omega) (by omega)).trans h_this_images, (hq _ (by omega) (by omega) (by omega)).trans h_this_kept, (hq _ (by omega) (by omega) (by omega)).trans h_this_text, (hq _ (by omega) (by omega) (by omega)).trans h_this_seen, g1, g2, g3, (hq _ (by omega) (by omega) (by omega)).trans h_this_can, (hq _ (by omega) (by omega) (by omega)).trans h_this_then⟩
      have hz : (64 : Int) * ((0 : Nat) : Int) + ((0 : Nat) : Int) = 0 := by decide
      have hrm : rmQ (gO fn 2 (fs 0).toNat) 0 0 = gO fn 2 (fs 0).toNat := by simp [rmQ]
      unfold okA at g4
      rw [hz, hrm] at g4
      have h_this := (hq tm (by omega) (by omega) (by omega)).trans h_this
      have h_this_ends := g1
      have h_this_endsRight := g2
      have h_this_takes := g3
      refine A_il2 X dX11_byTurns_26 ?_
      refine A_if_ne (t := 39) X (by omega) dX11_byTurns_27 (fun c27 => ?_) (fun c27 => ?_)
      · refine A_il2 X dX11_byTurns_39 ?_
        refine A_iconst X dX11_byTurns_40 ?_
        refine A_icmp_ne (t := 53) X (by omega) (by omega) dX11_byTurns_41 (fun c41 => ?_) (fun c41 => ?_)
        · refine A_al0 X dX11_byTurns_53 ?_
          refine A_getf X flX11_41 h_this rfl dX11_byTurns_54 ?_
          refine A_iconst X dX11_byTurns_57 ?_
          refine A_iald X h_this_takes (by omega) dX11_byTurns_58 ?_
          exact A_ret X dX11_byTurns_59 rfl ⟨congrArg (fun t => some (aI t)) (by rw [qTurns, if_pos ⟨c4, c16⟩, if_neg c27, if_neg c41]; exact g4.1), rfl, fun q hq2 => hq q (by omega) (by omega) (by omega), hW2⟩
        · refine A_al0 X dX11_byTurns_44 ?_
          refine A_getf X flX11_38 h_this rfl dX11_byTurns_45 ?_
          refine A_iconst X dX11_byTurns_48 ?_
          refine A_iald X h_this_endsRight (by omega) dX11_byTurns_49 ?_
          refine A_goto (t := 59) X dX11_byTurns_50 ?_
          exact A_ret X dX11_byTurns_59 rfl ⟨congrArg (fun t => some (aI t)) (by rw [qTurns, if_pos ⟨c4, c16⟩, if_neg c27, if_pos c41]; exact g4.2.2), rfl, fun q hq2 => hq q (by omega) (by omega) (by omega), hW2⟩
      · refine A_al0 X dX11_byTurns_30 ?_
        refine A_getf X flX11_35 h_this rfl dX11_byTurns_31 ?_
        refine A_iconst X dX11_byTurns_34 ?_
        refine A_iald X h_this_ends (by omega) dX11_byTurns_35 ?_
        refine A_goto (t := 59) X dX11_byTurns_36 ?_
        exact A_ret X dX11_byTurns_59 rfl ⟨congrArg (fun t => some (aI t)) (by rw [qTurns, if_pos ⟨c4, c16⟩, if_pos c27]; exact g4.2.1), rfl, fun q hq2 => hq q (by omega) (by omega) (by omega), hW2⟩
    · refine A_iconst X dX11_byTurns_19 ?_
      exact A_ret X dX11_byTurns_20 rfl ⟨congrArg (fun t => some (aI t)) (by rw [qTurns, if_neg (fun q => c16 q.2)]), rfl, mFr.rf _ _, hW0⟩
