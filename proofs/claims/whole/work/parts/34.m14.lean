/-! the reference: by turns, laid -/
theorem bt7 : ∀ s, s < 64 → ∀ tb, tb < 64 → (s ^^^ (s &&& tb) = 0 ↔ s &&& tb = s) := by decide +kernel
abbrev VQ (tb l r : Nat) : Prop := (l ||| r) &&& tb = (l ||| r) ∧ l &&& r = 0
abbrev rmQ (tb l r : Nat) : Nat := tb ^^^ (tb &&& (l ||| r))
def okA (fs : Int → Int) (tb lf rt : Nat) (side : Int) (e9 e10 e11 : Int → Int) (l r : Nat) : Prop := e11 (64 * (l : Int) + (r : Int)) = (tT fs tb lf rt side (pct (rmQ tb l r)) l r).1 ∧ e9 (64 * (l : Int) + (r : Int)) = (tT fs tb lf rt side (pct (rmQ tb l r)) l r).2.1 ∧ e10 (64 * (l : Int) + (r : Int)) = (tT fs tb lf rt side (pct (rmQ tb l r)) l r).2.2
theorem VQ_l {tb l r j : Nat} (ht : tb < 64) (hl : l < 64) (hr : r < 64) (hj : j < 6) (hv : VQ tb l r) (hb : hasB (rmQ tb l r) j) : VQ tb (l + 2 ^ j) r ∧ l + 2 ^ j < 64 ∧ pct (rmQ tb (l + 2 ^ j) r) + 1 = pct (rmQ tb l r) := by
  obtain ⟨h1, h2, h3⟩ := bt1 tb ht (l ||| r) (or64 hl hr) j hj hb
  have h4 : ¬ hasB l j ∧ ¬ hasB r j := not_or.mp (fun q => h2 ((bt3 l hl r hr j hj).mpr q))
  obtain ⟨g1, g2, -⟩ := bt2 l hl j hj h4.1
  obtain ⟨-, -, g3⟩ := bt2 r hr j hj h4.2
  have e : (l + 2 ^ j) ||| r = (l ||| r) ||| 2 ^ j := by rw [g1, Nat.or_assoc, Nat.or_comm (2 ^ j) r, ← Nat.or_assoc]
  refine ⟨⟨?_, ?_⟩, g2, ?_⟩
  · rw [e, Nat.and_or_distrib_right, hv.1, bt4 tb ht j hj h1]
  · rw [g1, Nat.and_or_distrib_right, hv.2, g3]; rfl
  · unfold rmQ; rw [e]; exact h3
theorem VQ_r {tb l r j : Nat} (ht : tb < 64) (hl : l < 64) (hr : r < 64) (hj : j < 6) (hv : VQ tb l r) (hb : hasB (rmQ tb l r) j) : VQ tb l (r + 2 ^ j) ∧ r + 2 ^ j < 64 ∧ pct (rmQ tb l (r + 2 ^ j)) + 1 = pct (rmQ tb l r) := by
  obtain ⟨h1, h2, h3⟩ := bt1 tb ht (l ||| r) (or64 hl hr) j hj hb
  have h4 : ¬ hasB l j ∧ ¬ hasB r j := not_or.mp (fun q => h2 ((bt3 l hl r hr j hj).mpr q))
  obtain ⟨g1, g2, -⟩ := bt2 r hr j hj h4.2
  obtain ⟨-, -, g3⟩ := bt2 l hl j hj h4.1
  have e : l ||| (r + 2 ^ j) = (l ||| r) ||| 2 ^ j := by rw [g1, Nat.or_assoc]
  refine ⟨⟨?_, ?_⟩, g2, ?_⟩
  · rw [e, Nat.and_or_distrib_right, hv.1, bt4 tb ht j hj h1]
  · rw [g1, Nat.and_or_distrib_left, hv.2, Nat.and_comm l, g3]; rfl
  · unfold rmQ; rw [e]; exact h3
def bY (fs : Int → Int) (tb lf rt : Nat) (side : Int) (l r : Nat) (j : Nat) : Int × Int := if mv side l r = 0 then (tT fs tb lf rt side (pct (rmQ tb l r) - 1) (l + 2 ^ j) r).2 else (tT fs tb lf rt side (pct (rmQ tb l r) - 1) l (r + 2 ^ j)).2
theorem tT_s {fs : Int → Int} {tb lf rt : Nat} {side : Int} {l r : Nat} (h : pct (rmQ tb l r) ≠ 0) : tT fs tb lf rt side (pct (rmQ tb l r)) l r = tf (bY fs tb lf rt side l r) (mv side l r) (rmQ tb l r) (fs 0).toNat (fs 0).toNat := by
  obtain ⟨c, hc⟩ : ∃ c, pct (rmQ tb l r) = c + 1 := ⟨pct (rmQ tb l r) - 1, by omega⟩
  have e : bY fs tb lf rt side l r = fun j => if mv side l r = 0 then (tT fs tb lf rt side c (l + 2 ^ j) r).2 else (tT fs tb lf rt side c l (r + 2 ^ j)).2 := by
    funext j
    unfold bY
    rw [hc, Nat.add_sub_cancel]
  rw [hc, tT, e]
theorem tT_0 {fs : Int → Int} {tb lf rt : Nat} {side : Int} {l r : Nat} (h : pct (rmQ tb l r) = 0) : tT fs tb lf rt side (pct (rmQ tb l r)) l r = (-9, vl fs 0 (lf ||| l), vl fs 1 (rt ||| r)) := by
  rw [h, tT]
/-! one cell of the table, from its mover on -/
set_option maxRecDepth 100000 in
theorem m_lcell {x : aX} {d n : Nat} {h : AH} {tm : Nat} {un sz sm tr ak bg mt : Int} {fs f9 f10 f11 : Int → Int} {side : Int} {post : aPost} (X : aOk x (d + 2) cX11_layTurns RX11 "layTurns" none 0 0 post) (tb lf rt l r : Nat) (hok : sOK fs) (ht : tb < 64) (hlf : lf < 64) (hrt : rt < 64) (hl : l < 64) (hr : r < 64) (hsd : side = 0 ∨ side = 1) (htg : ∀ j, hasB tb j → j < (fs 0).toNat) (hv : VQ tb l r) (h9 : f11 (64 * (l : Int) + (r : Int)) = -9) (hdone : ∀ a b : Nat, a < 64 → b < 64 → VQ tb a b → (l < a ∨ (a = l ∧ r + 1 ≤ b)) → okA fs tb lf rt side f9 f10 f11 a b) (h_this : h tm = some (aOb 11 (mO tm un sz sm tr ak bg mt))) (h_this_suit : h (tm + 1) = some (aIa x.1 32 fs)) (h_this_ends : h (tm + 9) = some (aIa x.1 4096 f9)) (h_this_endsRight : h (tm + 10) = some (aIa x.1 4096 f10)) (h_this_takes : h (tm + 11) = some (aIa x.1 4096 f11))
    (kk : ∀ (hh : AH) (e9 e10 e11 : Int → Int), hh (tm + 9) = some (aIa x.1 4096 e9) → hh (tm + 10) = some (aIa x.1 4096 e10) → hh (tm + 11) = some (aIa x.1 4096 e11) → okA fs tb lf rt side e9 e10 e11 l r → (∀ q : Int, q ≠ 64 * (l : Int) + (r : Int) → e9 q = f9 q ∧ e10 q = f10 q ∧ e11 q = f11 q) → (∀ q, q ≠ tm + 9 → q ≠ tm + 10 → q ≠ tm + 11 → hh q = h q) → AW x 0 0 n hh 189 [some (.ref tm), some (aI side), some (aI (tb : Int)), some (aI (lf : Int)), some (aI (rt : Int)), some (aI (l : Int)), some (aI (r : Int)), none, none, none] []) :
    AW x 0 0 n h 96 [some (.ref tm), some (aI side), some (aI (tb : Int)), some (aI (lf : Int)), some (aI (rt : Int)), some (aI (l : Int)), some (aI (r : Int)), some (aI (64 * (l : Int) + (r : Int))), some (aI (mv side l r)), none] [] := by
  have hg := hok.1
  have hG6 : (fs 0).toNat ≤ 6 := by omega
  have hrem : rmQ tb l r < 64 := rm64 ht
  have hor := or64 hl hr
  have hmv : mv side l r = 0 ∨ mv side l r = 1 := by unfold mv; split <;> omega
  have hb6 : ∀ j, hasB (rmQ tb l r) j → j < (fs 0).toNat := fun j q => by
    by_cases hj : j < 6
    · exact htg j (bt1 tb ht (l ||| r) hor j hj q).1
    · exfalso
      have : rmQ tb l r / 2 ^ j = 0 := Nat.div_eq_of_lt (Nat.lt_of_lt_of_le hrem (Nat.pow_le_pow_right (n := 2) (by omega) (show 6 ≤ j by omega)))
      unfold hasB at q
      omega
  -- what lies where a take leads
  have hyd : ∀ j, hasB (rmQ tb l r) j → (mv side l r = 0 → f9 (64 * (l : Int) + (r : Int) + ((64 * 2 ^ j : Nat) : Int)) = (bY fs tb lf rt side l r j).1 ∧ f10 (64 * (l : Int) + (r : Int) + ((64 * 2 ^ j : Nat) : Int)) = (bY fs tb lf rt side l r j).2 ∧ 64 * (l : Int) + (r : Int) + ((64 * 2 ^ j : Nat) : Int) < 4096) ∧ (mv side l r = 1 → f9 (64 * (l : Int) + (r : Int) + ((1 * 2 ^ j : Nat) : Int)) = (bY fs tb lf rt side l r j).1 ∧ f10 (64 * (l : Int) + (r : Int) + ((1 * 2 ^ j : Nat) : Int)) = (bY fs tb lf rt side l r j).2 ∧ 64 * (l : Int) + (r : Int) + ((1 * 2 ^ j : Nat) : Int) < 4096) := by
    intro j q
    have hj := hb6 j q
    have hpw := Nat.one_le_two_pow (n := j)
    refine ⟨fun e => ?_, fun e => ?_⟩
    · obtain ⟨v1, v2, v3⟩ := VQ_l ht hl hr (by omega) hv q
      have ok := hdone (l + 2 ^ j) r v2 hr v1 (Or.inl (by omega))
      unfold okA at ok
      rw [show 64 * ((l + 2 ^ j : Nat) : Int) + (r : Int) = 64 * (l : Int) + (r : Int) + ((64 * 2 ^ j : Nat) : Int) by omega, show pct (rmQ tb (l + 2 ^ j) r) = pct (rmQ tb l r) - 1 by omega] at ok
      unfold bY
      rw [if_pos e]
      exact ⟨ok.2.1, ok.2.2, by omega⟩
    · obtain ⟨v1, v2, v3⟩ := VQ_r ht hl hr (by omega) hv q
      have ok := hdone l (r + 2 ^ j) hl v2 v1 (Or.inr ⟨rfl, by omega⟩)
      unfold okA at ok
      rw [show 64 * (l : Int) + ((r + 2 ^ j : Nat) : Int) = 64 * (l : Int) + (r : Int) + ((1 * 2 ^ j : Nat) : Int) by omega, show pct (rmQ tb l (r + 2 ^ j)) = pct (rmQ tb l r) - 1 by omega] at ok
      unfold bY
      rw [if_neg (by omega)]
      exact ⟨ok.2.1, ok.2.2, by omega⟩
  have hbb : ∀ j, (0 ≤ (bY fs tb lf rt side l r j).1 ∧ (bY fs tb lf rt side l r j).1 ≤ 200) ∧ (0 ≤ (bY fs tb lf rt side l r j).2 ∧ (bY fs tb lf rt side l r j).2 ≤ 200) := by
    intro j
    unfold bY
    split
    · exact (tT_b hok _ _ _).2
    · exact (tT_b hok _ _ _).2
  have hfb := tf_b (m := mv side l r) (rem := rmQ tb l r) hG6 hbb
  generalize hi : 64 * (l : Int) + (r : Int) = i at *
  have hib : 0 ≤ i ∧ i < 4096 := by omega
  generalize hMV : mv side l r = M at *
  generalize hBY : bY fs tb lf rt side l r = B at *
  obtain ⟨g, hgn⟩ := Int.eq_ofNat_of_zero_le hg.1
  have hgt : (fs 0).toNat = g := by omega
  rw [hgt] at hb6 hG6 htg
  rw [hgt] at hfb
  have loop : ∀ (j : Nat), j ≤ g → ∀ (hh : AH) (e9 e10 e11 : Int → Int), hh (tm + 9) = some (aIa x.1 4096 e9) → hh (tm + 10) = some (aIa x.1 4096 e10) → hh (tm + 11) = some (aIa x.1 4096 e11) → e11 i = (tf B M (rmQ tb l r) g (g - j)).1 → (e11 i ≠ -9 → e9 i = (tf B M (rmQ tb l r) g (g - j)).2.1 ∧ e10 i = (tf B M (rmQ tb l r) g (g - j)).2.2) → (∀ q : Int, q ≠ i → e9 q = f9 q ∧ e10 q = f10 q ∧ e11 q = f11 q) → (∀ q, q ≠ tm + 9 → q ≠ tm + 10 → q ≠ tm + 11 → hh q = h q) → AW x 0 0 n hh 106 [some (.ref tm), some (aI side), some (aI (tb : Int)), some (aI (lf : Int)), some (aI (rt : Int)), some (aI (l : Int)), some (aI (r : Int)), some (aI i), some (aI M), some (aI ((j : Int) - 1))] [] := by
    refine lp_dn (P := fun j => j ≤ g → ∀ (hh : AH) (e9 e10 e11 : Int → Int), hh (tm + 9) = some (aIa x.1 4096 e9) → hh (tm + 10) = some (aIa x.1 4096 e10) → hh (tm + 11) = some (aIa x.1 4096 e11) → e11 i = (tf B M (rmQ tb l r) g (g - j)).1 → (e11 i ≠ -9 → e9 i = (tf B M (rmQ tb l r) g (g - j)).2.1 ∧ e10 i = (tf B M (rmQ tb l r) g (g - j)).2.2) → (∀ q : Int, q ≠ i → e9 q = f9 q ∧ e10 q = f10 q ∧ e11 q = f11 q) → (∀ q, q ≠ tm + 9 → q ≠ tm + 10 → q ≠ tm + 11 → hh q = h q) → AW x 0 0 n hh 106 [some (.ref tm), some (aI side), some (aI (tb : Int)), some (aI (lf : Int)), some (aI (rt : Int)), some (aI (l : Int)), some (aI (r : Int)), some (aI i), some (aI M), some (aI ((j : Int) - 1))] []) ?_ ?_
    · intro _ hh e9 e10 e11 h_this_ends h_this_endsRight h_this_takes a1 a2 a3 hq
      have h_this := (hq tm (by omega) (by omega) (by omega)).trans h_this
      have h_this_suit := (hq (tm + 1) (by omega) (by omega) (by omega)).trans h_this_suit
      rw [Nat.sub_zero] at a1 a2
      have hf := hfb g
      have hol := or64 hlf hl
      have hor2 := or64 hrt hr
      refine A_il9 X dX11_layTurns_106 ?_
      refine A_if_lt (t := 144) X (by omega) dX11_layTurns_108 (fun c108 => ?_) (fun c108 => by exfalso; omega)
      refine A_al0 X dX11_layTurns_144 ?_
      refine A_getf X flX11_41 h_this rfl dX11_layTurns_145 ?_
      refine A_il7 X dX11_layTurns_148 ?_
      refine A_iald X h_this_takes (by omega) dX11_layTurns_150 ?_
      refine A_bipush X dX11_layTurns_151 ?_
      refine A_icmp_ne (t := 189) X (by have := hf.1; omega) (by omega) dX11_layTurns_153 (fun c153 => ?_) (fun c153 => ?_)
      · refine A_fg7 (A_fg8 (A_fg9 (kk hh e9 e10 e11 h_this_ends h_this_endsRight h_this_takes ?_ (fun q hq => a3 q hq) hq)))
        have h0 : pct (rmQ tb l r) ≠ 0 := fun q => c153 (by rw [a1]; exact tf_no (fun j _ hb => by rw [(bt6 _ hrem).mp q] at hb; simp [hasB] at hb) g (Nat.le_refl g))
        unfold okA
        rw [tT_s h0, hgt, hMV, hBY, hi]
        exact ⟨a1, (a2 c153).1, (a2 c153).2⟩
      · refine A_al0 X dX11_layTurns_156 ?_
        refine A_getf X flX11_35 h_this rfl dX11_layTurns_157 ?_
        refine A_il7 X dX11_layTurns_160 ?_
        refine A_al0 X dX11_layTurns_162 ?_
        refine A_iconst X dX11_layTurns_163 ?_
        refine A_il3 X dX11_layTurns_164 ?_
        refine A_il5 X dX11_layTurns_165 ?_
        refine A_ior X lf l rfl rfl dX11_layTurns_167 ?_
        refine A_dVi2 X (m_valued (lf ||| l) rfl (by omega) (Or.inl rfl) hok h_this h_this_suit) h_this knX11_valued mlX11_125 dX11_layTurns_168 ?_
        refine A_iast X h_this_ends (by omega) dX11_layTurns_171 ?_
        refine A_gen (fun h171 e171 k171 q171 => ?_)
        have h_this := (k171 _ (by omega)).trans h_this
        have h_this_suit := (k171 _ (by omega)).trans h_this_suit
        have h_this_ends := e171
        have h_this_endsRight := (k171 _ (by omega)).trans h_this_endsRight
        have h_this_takes := (k171 _ (by omega)).trans h_this_takes
        refine A_al0 X dX11_layTurns_172 ?_
        refine A_getf X flX11_38 h_this rfl dX11_layTurns_173 ?_
        refine A_il7 X dX11_layTurns_176 ?_
        refine A_al0 X dX11_layTurns_178 ?_
        refine A_iconst X dX11_layTurns_179 ?_
        refine A_il4 X dX11_layTurns_180 ?_
        refine A_il6 X dX11_layTurns_182 ?_
        refine A_ior X rt r rfl rfl dX11_layTurns_184 ?_
        refine A_dVi2 X (m_valued (rt ||| r) rfl (by omega) (Or.inr rfl) hok h_this h_this_suit) h_this knX11_valued mlX11_125 dX11_layTurns_185 ?_
        refine A_iast X h_this_endsRight (by omega) dX11_layTurns_188 ?_
        refine A_gen (fun h188 e188 k188 q188 => ?_)
        have h_this := (k188 _ (by omega)).trans h_this
        have h_this_suit := (k188 _ (by omega)).trans h_this_suit
        have h_this_ends := (k188 _ (by omega)).trans h_this_ends
        have h_this_endsRight := e188
        have h_this_takes := (k188 _ (by omega)).trans h_this_takes
        refine A_fg7 (A_fg8 (A_fg9 (kk h188 _ _ _ h_this_ends h_this_endsRight h_this_takes ?_ (fun q hq => ⟨(aiu_n hq).trans (a3 q hq).1, (aiu_n hq).trans (a3 q hq).2.1, (a3 q hq).2.2⟩) (fun q h1 h2 h3 => by rw [k188 q h2, k171 q h1, hq q h1 h2 h3]))))
        have h0 : pct (rmQ tb l r) = 0 := Decidable.byContradiction fun q => by
          obtain ⟨j, hj, hb⟩ := bt5 _ hrem (fun q2 => q ((bt6 _ hrem).mpr q2))
          exact tf_yes (hb6 j hb) hb g (by omega) (a1.symm.trans c153)
        unfold okA
        rw [tT_0 h0, hi, aiu_s, aiu_s]
        exact ⟨c153, rfl, rfl⟩
    · intro j ih hjg hh e9 e10 e11 h_this_ends h_this_endsRight h_this_takes a1 a2 a3 hq
      have h_this := (hq tm (by omega) (by omega) (by omega)).trans h_this
      have h_this_suit := (hq (tm + 1) (by omega) (by omega) (by omega)).trans h_this_suit
      have hf := hfb (g - (j + 1))
      have eg : g - j = (g - (j + 1)) + 1 := by omega
      have ej : g - 1 - (g - (j + 1)) = j := by omega
      have hpw := p2b (show j ≤ 6 by omega)
      generalize hC : tf B M (rmQ tb l r) g (g - (j + 1)) = C at *
      have e0 : ((j + 1 : Nat) : Int) - 1 = (j : Int) := by omega
      rw [e0]
      refine A_il9 X dX11_layTurns_106 ?_
      refine A_if_lt (t := 144) X (by omega) dX11_layTurns_108 (fun c108 => by exfalso; omega) (fun c108 => ?_)
      refine A_il2 X dX11_layTurns_111 ?_
      refine A_il5 X dX11_layTurns_112 ?_
      refine A_il6 X dX11_layTurns_114 ?_
      refine A_ior X l r rfl rfl dX11_layTurns_116 ?_
      refine A_iconst X dX11_layTurns_117 ?_
      refine A_ixorr X dX11_layTurns_118 ?_
      refine A_iandn X tb (l ||| r) rfl rfl dX11_layTurns_119 ?_
      refine A_il9 X dX11_layTurns_120 ?_
      refine A_dSi2 X (m_has (rmQ tb l r) j rfl rfl (by omega) (by omega)) knX11_has mlX11_97 dX11_layTurns_122 ?_
      refine A_ifb_eq (t := 138) X dX11_layTurns_125 (fun c125 => ?_) (fun c125 => ?_)
      · refine A_ii9 X dX11_layTurns_138 ?_
        refine A_goto (t := 106) X dX11_layTurns_141 ?_
        refine ih (by omega) hh e9 e10 e11 h_this_ends h_this_endsRight h_this_takes (by rw [eg, tf, ej, hC, if_neg (fun q => c125 q.1)]; exact a1) (by rw [eg, tf, ej, hC, if_neg (fun q => c125 q.1)]; exact a2) a3 hq
      · refine A_al0 X dX11_layTurns_128 ?_
        refine A_il7 X dX11_layTurns_129 ?_
        refine A_il8 X dX11_layTurns_131 ?_
        refine A_il9 X dX11_layTurns_133 ?_
        obtain ⟨y0, y1⟩ := hyd j c125
        rcases hmv with e | e
        · subst e
          obtain ⟨z1, z2, z3⟩ := y0 rfl
          have hne : i + ((64 * 2 ^ j : Nat) : Int) ≠ i := by omega
          obtain ⟨n1, n2, n3⟩ := a3 _ hne
          have hB := hbb j
          refine A_eVv3 X (m_layTake0 j rfl (by omega) (by omega) (by have := hf.1; omega) (by omega) (fun q => by have := (a2 q).1; have := hf.2.1; omega) h_this h_this_ends h_this_endsRight h_this_takes) h_this knX11_layTake mlX11_168 dX11_layTurns_135 (fun h135 p135 => ?_)
          obtain ⟨g1, g2, g3, g4⟩ := p135
          by_cases hQ : ltQ e9 e10 e11 i (i + ((64 * 2 ^ j : Nat) : Int)) 0
          · rw [if_pos hQ] at g1 g2 g3
            have hT : tf B 0 (rmQ tb l r) g (g - j) = ((j : Int), (B j).1, (B j).2) := by
              rw [eg, tf, ej, hC, if_pos]
              refine ⟨c125, ?_⟩
              rcases hQ with q | q
              · exact Or.inl (a1.symm.trans q)
              · by_cases q9 : e11 i = -9
                · exact Or.inl (a1.symm.trans q9)
                · rw [if_pos rfl] at q
                  refine Or.inr ?_
                  rw [if_pos rfl, ← (a2 q9).1, ← z1, ← n1]
                  exact q
            refine A_ii9 X dX11_layTurns_138 ?_
            refine A_goto (t := 106) X dX11_layTurns_141 ?_
            exact ih (by omega) h135 _ _ _ g1 g2 g3 (by rw [aiu_s, hT]) (fun _ => by rw [aiu_s, aiu_s, hT, n1, n2, z1, z2]; exact ⟨rfl, rfl⟩) (fun q hq9 => ⟨(aiu_n hq9).trans (a3 q hq9).1, (aiu_n hq9).trans (a3 q hq9).2.1, (aiu_n hq9).trans (a3 q hq9).2.2⟩) (fun q h1 h2 h3 => (g4 q h1 h2 h3).trans (hq q h1 h2 h3))
          · rw [if_neg hQ] at g1 g2 g3
            have hT : tf B 0 (rmQ tb l r) g (g - j) = C := by
              rw [eg, tf, ej, hC, if_neg]
              intro q
              rcases q.2 with q | q
              · exact hQ (Or.inl (a1.trans q))
              · by_cases q9 : e11 i = -9
                · exact hQ (Or.inl q9)
                · rw [if_pos rfl, ← (a2 q9).1, ← z1, ← n1] at q
                  exact hQ (Or.inr (by rw [if_pos rfl]; exact q))
            refine A_ii9 X dX11_layTurns_138 ?_
            refine A_goto (t := 106) X dX11_layTurns_141 ?_
            exact ih (by omega) h135 _ _ _ g1 g2 g3 (by rw [hT]; exact a1) (by rw [hT]; exact a2) a3 (fun q h1 h2 h3 => (g4 q h1 h2 h3).trans (hq q h1 h2 h3))
        · subst e
          obtain ⟨z1, z2, z3⟩ := y1 rfl
          have hne : i + ((1 * 2 ^ j : Nat) : Int) ≠ i := by omega
          obtain ⟨n1, n2, n3⟩ := a3 _ hne
          have hB := hbb j
          refine A_eVv3 X (m_layTake1 j rfl (by omega) (by omega) (by have := hf.1; omega) (by omega) (fun q => by have := (a2 q).2; have := hf.2.2; omega) h_this h_this_ends h_this_endsRight h_this_takes) h_this knX11_layTake mlX11_168 dX11_layTurns_135 (fun h135 p135 => ?_)
          obtain ⟨g1, g2, g3, g4⟩ := p135
          by_cases hQ : ltQ e9 e10 e11 i (i + ((1 * 2 ^ j : Nat) : Int)) 1
          · rw [if_pos hQ] at g1 g2 g3
            have hT : tf B 1 (rmQ tb l r) g (g - j) = ((j : Int), (B j).1, (B j).2) := by
              rw [eg, tf, ej, hC, if_pos]
              refine ⟨c125, ?_⟩
              rcases hQ with q | q
              · exact Or.inl (a1.symm.trans q)
              · by_cases q9 : e11 i = -9
                · exact Or.inl (a1.symm.trans q9)
                · rw [if_neg (by decide)] at q
                  refine Or.inr ?_
                  rw [if_neg (by decide), ← (a2 q9).2, ← z2, ← n2]
                  exact q
            refine A_ii9 X dX11_layTurns_138 ?_
            refine A_goto (t := 106) X dX11_layTurns_141 ?_
            exact ih (by omega) h135 _ _ _ g1 g2 g3 (by rw [aiu_s, hT]) (fun _ => by rw [aiu_s, aiu_s, hT, n1, n2, z1, z2]; exact ⟨rfl, rfl⟩) (fun q hq9 => ⟨(aiu_n hq9).trans (a3 q hq9).1, (aiu_n hq9).trans (a3 q hq9).2.1, (aiu_n hq9).trans (a3 q hq9).2.2⟩) (fun q h1 h2 h3 => (g4 q h1 h2 h3).trans (hq q h1 h2 h3))
          · rw [if_neg hQ] at g1 g2 g3
            have hT : tf B 1 (rmQ tb l r) g (g - j) = C := by
              rw [eg, tf, ej, hC, if_neg]
              intro q
              rcases q.2 with q | q
              · exact hQ (Or.inl (a1.trans q))
              · by_cases q9 : e11 i = -9
                · exact hQ (Or.inl q9)
                · rw [if_neg (by decide), ← (a2 q9).2, ← z2, ← n2] at q
                  exact hQ (Or.inr (by rw [if_neg (by decide)]; exact q))
            refine A_ii9 X dX11_layTurns_138 ?_
            refine A_goto (t := 106) X dX11_layTurns_141 ?_
            exact ih (by omega) h135 _ _ _ g1 g2 g3 (by rw [hT]; exact a1) (by rw [hT]; exact a2) a3 (fun q h1 h2 h3 => (g4 q h1 h2 h3).trans (hq q h1 h2 h3))
  refine A_al0 X dX11_layTurns_96 ?_
  refine A_getf X flX11_7 h_this rfl dX11_layTurns_97 ?_
  refine A_iconst X dX11_layTurns_100 ?_
  refine A_iald X h_this_suit (by omega) dX11_layTurns_101 ?_
  refine A_iconst X dX11_layTurns_102 ?_
  refine A_isub X dX11_layTurns_103 ?_
  refine A_is9 X dX11_layTurns_104 ?_
  have st := loop g (Nat.le_refl g) h f9 f10 f11 h_this_ends h_this_endsRight h_this_takes (by rw [Nat.sub_self, h9]; rfl) (fun q => absurd h9 q) (fun q _ => ⟨rfl, rfl, rfl⟩) (fun q _ _ _ => rfl)
  rw [← hgn] at st
  exact st
