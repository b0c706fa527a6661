/-! the class: what a lie brings -/
def tA (fs : Int → Int) (side : Int) (bit : Nat) (c : Int) (r : Nat) : Int := if oI fs side r &&& bit = 0 then ld fs side r - c else ld fs side r + c
def tS (fs : Int → Int) (side : Int) (bit : Nat) (c : Int) (r : Nat) : Int := if oI fs side r &&& bit = 0 then tg fs r else tg fs r + c
def tP (fs : Int → Int) (side : Int) (bit : Nat) (c : Int) (a : Int × Int) (r : Nat) : Int × Int := if 0 ≤ tA fs side bit c r ∧ a.2 < tS fs side bit c r then ((oI fs side r : Nat), tS fs side bit c r) else a
theorem tP_b {fs : Int → Int} (hok : sOK fs) {side : Int} {bit : Nat} {c : Int} (hc : -20 ≤ c ∧ c ≤ 20) (r : Nat) (a : Int × Int) (ha : -1 ≤ a.2 ∧ a.2 ≤ 420) : -1 ≤ (tP fs side bit c a r).2 ∧ (tP fs side bit c a r).2 ≤ 420 := by
  have b := tg_b hok r
  unfold tP
  split
  · next h =>
    refine ⟨by show -1 ≤ tS fs side bit c r; omega, ?_⟩
    show tS fs side bit c r ≤ 420
    unfold tS; split <;> omega
  · exact ha
theorem tPl_b {fs : Int → Int} (hok : sOK fs) {side : Int} {bit : Nat} {c : Int} (hc : -20 ≤ c ∧ c ≤ 20) : ∀ (l : List Nat) (a : Int × Int), (-1 ≤ a.2 ∧ a.2 ≤ 420) → -1 ≤ (l.foldl (tP fs side bit c) a).2 ∧ (l.foldl (tP fs side bit c) a).2 ≤ 420
  | [], a, ha => ha
  | r :: l, a, ha => tPl_b hok hc l _ (tP_b hok hc r a ha)
theorem tl_bs {fs f2 : Int → Int} {side : Int} {bit : Nat} {c : Int} (H : ∀ r, r < al fs → ((0 ≤ ld fs (1 - side) r ∧ 0 ≤ tA fs side bit c r) ↔ frQ f2 r) ∧ tS fs side bit c r = tg f2 r ∧ 0 ≤ tg f2 r) : ∀ k, k ≤ al fs → (lo fs side k).foldl (tP fs side bit c) (0, -1) = (if bs f2 1 k = -9 then (0, -1) else (((oI fs side (bs f2 1 k).toNat : Nat) : Int), tg f2 (bs f2 1 k).toNat) : Int × Int)
  | 0, _ => by simp [lo, bs]
  | k + 1, hk => by
    have ih := tl_bs H k (by omega)
    obtain ⟨h1, h2, h3⟩ := H k (by omega)
    have hb := bs_b f2 1 k
    unfold lo
    have eP : (0 ≤ ld fs (1 - side) k ∧ 0 ≤ tA fs side bit c k) → (bs f2 1 k = -9 ∨ tg f2 (bs f2 1 k).toNat < tg f2 k) → bs f2 1 (k + 1) = (k : Int) := fun q1 q2 => by rw [bs, if_pos ⟨Or.inr (h1.mp q1), q2⟩]
    have eN : ¬ ((0 ≤ ld fs (1 - side) k ∧ 0 ≤ tA fs side bit c k) ∧ (bs f2 1 k = -9 ∨ tg f2 (bs f2 1 k).toNat < tg f2 k)) → bs f2 1 (k + 1) = bs f2 1 k := fun q => by rw [bs, if_neg (fun z => q ⟨h1.mpr (z.1.resolve_left (by decide)), z.2⟩)]
    have e3 : (if (k : Int) = -9 then (0, -1) else (((oI fs side (k : Int).toNat : Nat) : Int), tg f2 (k : Int).toNat) : Int × Int) = (((oI fs side k : Nat) : Int), tg f2 k) := by rw [if_neg (by omega)]; rfl
    by_cases q0 : 0 ≤ ld fs (1 - side) k
    · rw [if_pos q0, List.foldl_append, List.foldl_cons, List.foldl_nil, ih, tP, h2]
      by_cases q1 : 0 ≤ tA fs side bit c k
      · by_cases q2 : bs f2 1 k = -9
        · rw [eP ⟨q0, q1⟩ (Or.inl q2), e3, if_pos q2, if_pos ⟨q1, (by show (-1 : Int) < _; omega)⟩]
        · rw [if_neg q2]
          by_cases q3 : tg f2 (bs f2 1 k).toNat < tg f2 k
          · rw [eP ⟨q0, q1⟩ (Or.inr q3), e3, if_pos ⟨q1, q3⟩]
          · rw [eN (fun z => z.2.elim q2 q3), if_neg (fun z => q3 z.2), if_neg q2]
      · rw [eN (fun z => q1 z.1.2), if_neg (fun z => q1 z.1)]
    · rw [if_neg q0, eN (fun z => q0 z.1.1), ih]
set_option maxRecDepth 100000 in
theorem p_told {G : aG} {d n : Nat} {h : AH} {pa : Nat} {fs : Int → Int} {ga li : Int} {g1 g2 g3 : Int → Int} {side c z : Int} {l : List Nat} (bit : Nat) (hz : z = (bit : Int)) (hs : side = 0 ∨ side = 1) (hc : -20 ≤ c ∧ c ≤ 20) (hok : sOK fs) (hl : l.length ≤ 64) (hlt : ∀ r ∈ l, r < al fs) (hR : rwP fs side l g1 g2 g3) (h_this : h pa = some (aOb 4 (pO pa (l.length : Nat) ga li))) (h_this_own : h (pa + 1) = some (aIa G 64 g1)) (h_this_ahead : h (pa + 2) = some (aIa G 64 g2)) (h_this_sum : h (pa + 3) = some (aIa G 64 g3)) : aD G d kX4_ownInBestTold [.ref pa, aI z, aI c] n h (some (aI (l.foldl (tP fs side bit c) (0, -1)).1)) := by
  refine aCt_of (lv := [some (.ref pa), some (aI z), some (aI c), none, none, none, none, none, none]) knX4_ownInBestTold.1 rfl rfl (Nat.le_of_ble_eq_true rfl) (fun x hG hsc X => ?_)
  subst hG
  refine A_iconst X dX4_ownInBestTold_0 ?_
  refine A_is3 X dX4_ownInBestTold_1 ?_
  refine A_iconst X dX4_ownInBestTold_2 ?_
  refine A_is4 X dX4_ownInBestTold_3 ?_
  refine A_iconst X dX4_ownInBestTold_5 ?_
  refine A_is5 X dX4_ownInBestTold_6 ?_
  refine lp_0 (P := fun i => ∀ a : Int × Int, a = (l.take i).foldl (tP fs side bit c) (0, -1) → AW x 0 0 n h 8 [some (.ref pa), some (aI z), some (aI c), some (aI a.1), some (aI a.2), some (aI (i : Int)), none, none, none] []) l.length ?_ ?_ (0, -1) rfl
  · intro a ha
    rw [List.take_length] at ha
    refine A_il5 X dX4_ownInBestTold_8 ?_
    refine A_al0 X dX4_ownInBestTold_10 ?_
    refine A_getf X flX4_78 h_this rfl dX4_ownInBestTold_11 ?_
    refine A_icmp_ge (t := 127) X (by omega) (by omega) dX4_ownInBestTold_14 (fun c14 => ?_) (fun c14 => by exfalso; omega)
    refine A_il3 X dX4_ownInBestTold_127 ?_
    exact A_ret X dX4_ownInBestTold_128 rfl ⟨congrArg (fun t => some (aI t)) (by rw [ha]), rfl, rfl⟩
  · intro i hi ih a ha
    have he : l[i]? = some l[i] := List.getElem?_eq_getElem hi
    have hrl : l[i] < al fs := hlt _ (List.getElem_mem hi)
    generalize l[i] = r at he hrl
    have hal := al_b hok.1
    have ho := oI_lt (side := side) hok.1 hrl
    have hand : oI fs side r &&& bit ≤ oI fs side r := Nat.and_le_left
    obtain ⟨r1, r2, r3⟩ := hR i r he
    have b1 := ld_b hok hs r
    have b2 := tg_b hok r
    have ba := tPl_b hok hc (side := side) (bit := bit) (l.take i) (0, -1) ⟨by show (-1 : Int) ≤ -1; omega, by show (-1 : Int) ≤ 420; omega⟩
    rw [← ha] at ba
    have et : (l.take (i + 1)).foldl (tP fs side bit c) (0, -1) = tP fs side bit c a r := by rw [List.take_add_one, he, List.foldl_append, ← ha]; rfl
    have iS : 0 ≤ tA fs side bit c r ∧ a.2 < tS fs side bit c r → AW x 0 0 n h 8 [some (.ref pa), some (aI z), some (aI c), some (aI ((oI fs side r : Nat) : Int)), some (aI (tS fs side bit c r)), some (aI ((i : Int) + 1)), none, none, none] [] := fun q => ih ((oI fs side r : Nat), tS fs side bit c r) (by rw [et, tP, if_pos q])
    have iN : ¬ (0 ≤ tA fs side bit c r ∧ a.2 < tS fs side bit c r) → AW x 0 0 n h 8 [some (.ref pa), some (aI z), some (aI c), some (aI a.1), some (aI a.2), some (aI ((i : Int) + 1)), none, none, none] [] := fun q => ih a (by rw [et, tP, if_neg q])
    clear ih
    refine A_il5 X dX4_ownInBestTold_8 ?_
    refine A_al0 X dX4_ownInBestTold_10 ?_
    refine A_getf X flX4_78 h_this rfl dX4_ownInBestTold_11 ?_
    refine A_icmp_ge (t := 127) X (by omega) (by omega) dX4_ownInBestTold_14 (fun c14 => by exfalso; omega) (fun c14 => ?_)
    refine A_il5 X dX4_ownInBestTold_17 ?_
    refine A_bipush X dX4_ownInBestTold_19 ?_
    refine A_icmp_ge (t := 127) X (by omega) (by omega) dX4_ownInBestTold_21 (fun c21 => by exfalso; omega) (fun c21 => ?_)
    refine A_al0 X dX4_ownInBestTold_24 ?_
    refine A_getf X flX4_9 h_this rfl dX4_ownInBestTold_25 ?_
    refine A_il5 X dX4_ownInBestTold_28 ?_
    refine A_iald X h_this_own (by omega) dX4_ownInBestTold_30 ?_
    refine A_il1 X dX4_ownInBestTold_31 ?_
    rw [r1]
    refine A_iand X (oI fs side r) bit rfl hz dX4_ownInBestTold_32 ?_
    refine A_if_eq (t := 40) X (by omega) dX4_ownInBestTold_33 (fun c33 => ?_) (fun c33 => ?_)
    · refine A_iconst X dX4_ownInBestTold_40 ?_
      refine A_is6 X dX4_ownInBestTold_41 ?_
      refine A_il6 X dX4_ownInBestTold_43 ?_
      refine A_if_eq (t := 60) X (by omega) dX4_ownInBestTold_45 (fun c45 => ?_) (fun c45 => by exfalso; omega)
      refine A_al0 X dX4_ownInBestTold_60 ?_
      refine A_getf X flX4_15 h_this rfl dX4_ownInBestTold_61 ?_
      refine A_il5 X dX4_ownInBestTold_64 ?_
      refine A_iald X h_this_ahead (by omega) dX4_ownInBestTold_66 ?_
      refine A_il2 X dX4_ownInBestTold_67 ?_
      refine A_isub X dX4_ownInBestTold_68 ?_
      refine A_is7 X dX4_ownInBestTold_69 ?_
      refine A_il6 X dX4_ownInBestTold_71 ?_
      refine A_if_eq (t := 88) X (by omega) dX4_ownInBestTold_73 (fun c73 => ?_) (fun c73 => by exfalso; omega)
      refine A_al0 X dX4_ownInBestTold_88 ?_
      refine A_getf X flX4_18 h_this rfl dX4_ownInBestTold_89 ?_
      refine A_il5 X dX4_ownInBestTold_92 ?_
      refine A_iald X h_this_sum (by omega) dX4_ownInBestTold_94 ?_
      refine A_is8 X dX4_ownInBestTold_95 ?_
      refine A_il7 X dX4_ownInBestTold_97 ?_
      refine A_if_lt (t := 121) X (by omega) dX4_ownInBestTold_99 (fun c99 => ?_) (fun c99 => ?_)
      · refine A_ii5 X dX4_ownInBestTold_121 ?_
        refine A_goto (t := 8) X dX4_ownInBestTold_124 ?_
        have eA : tA fs side bit c r = ld fs side r - c := by rw [tA, if_pos (by omega)]
        exact A_fg6 (A_fg7 (A_fg8 (iN (by omega))))
      · refine A_il8 X dX4_ownInBestTold_102 ?_
        refine A_il4 X dX4_ownInBestTold_104 ?_
        refine A_icmp_le (t := 121) X (by omega) (by omega) dX4_ownInBestTold_106 (fun c106 => ?_) (fun c106 => ?_)
        · refine A_ii5 X dX4_ownInBestTold_121 ?_
          refine A_goto (t := 8) X dX4_ownInBestTold_124 ?_
          have eS : tS fs side bit c r = tg fs r := by rw [tS, if_pos (by omega)]
          exact A_fg6 (A_fg7 (A_fg8 (iN (by omega))))
        · refine A_il8 X dX4_ownInBestTold_109 ?_
          refine A_is4 X dX4_ownInBestTold_111 ?_
          refine A_al0 X dX4_ownInBestTold_113 ?_
          refine A_getf X flX4_9 h_this rfl dX4_ownInBestTold_114 ?_
          refine A_il5 X dX4_ownInBestTold_117 ?_
          refine A_iald X h_this_own (by omega) dX4_ownInBestTold_119 ?_
          refine A_is3 X dX4_ownInBestTold_120 ?_
          refine A_ii5 X dX4_ownInBestTold_121 ?_
          refine A_goto (t := 8) X dX4_ownInBestTold_124 ?_
          have eA : tA fs side bit c r = ld fs side r - c := by rw [tA, if_pos (by omega)]
          have eS : tS fs side bit c r = tg fs r := by rw [tS, if_pos (by omega)]
          rw [r3, r1, ← eS]
          exact A_fg6 (A_fg7 (A_fg8 (iS (by omega))))
    · refine A_iconst X dX4_ownInBestTold_36 ?_
      refine A_goto (t := 41) X dX4_ownInBestTold_37 ?_
      refine A_is6 X dX4_ownInBestTold_41 ?_
      refine A_il6 X dX4_ownInBestTold_43 ?_
      refine A_if_eq (t := 60) X (by omega) dX4_ownInBestTold_45 (fun c45 => by exfalso; omega) (fun c45 => ?_)
      refine A_al0 X dX4_ownInBestTold_48 ?_
      refine A_getf X flX4_15 h_this rfl dX4_ownInBestTold_49 ?_
      refine A_il5 X dX4_ownInBestTold_52 ?_
      refine A_iald X h_this_ahead (by omega) dX4_ownInBestTold_54 ?_
      refine A_il2 X dX4_ownInBestTold_55 ?_
      refine A_iadd X dX4_ownInBestTold_56 ?_
      refine A_goto (t := 69) X dX4_ownInBestTold_57 ?_
      refine A_is7 X dX4_ownInBestTold_69 ?_
      refine A_il6 X dX4_ownInBestTold_71 ?_
      refine A_if_eq (t := 88) X (by omega) dX4_ownInBestTold_73 (fun c73 => by exfalso; omega) (fun c73 => ?_)
      refine A_al0 X dX4_ownInBestTold_76 ?_
      refine A_getf X flX4_18 h_this rfl dX4_ownInBestTold_77 ?_
      refine A_il5 X dX4_ownInBestTold_80 ?_
      refine A_iald X h_this_sum (by omega) dX4_ownInBestTold_82 ?_
      refine A_il2 X dX4_ownInBestTold_83 ?_
      refine A_iadd X dX4_ownInBestTold_84 ?_
      refine A_goto (t := 95) X dX4_ownInBestTold_85 ?_
      refine A_is8 X dX4_ownInBestTold_95 ?_
      refine A_il7 X dX4_ownInBestTold_97 ?_
      refine A_if_lt (t := 121) X (by omega) dX4_ownInBestTold_99 (fun c99 => ?_) (fun c99 => ?_)
      · refine A_ii5 X dX4_ownInBestTold_121 ?_
        refine A_goto (t := 8) X dX4_ownInBestTold_124 ?_
        have eA : tA fs side bit c r = ld fs side r + c := by rw [tA, if_neg (by omega)]
        exact A_fg6 (A_fg7 (A_fg8 (iN (by omega))))
      · refine A_il8 X dX4_ownInBestTold_102 ?_
        refine A_il4 X dX4_ownInBestTold_104 ?_
        refine A_icmp_le (t := 121) X (by omega) (by omega) dX4_ownInBestTold_106 (fun c106 => ?_) (fun c106 => ?_)
        · refine A_ii5 X dX4_ownInBestTold_121 ?_
          refine A_goto (t := 8) X dX4_ownInBestTold_124 ?_
          have eS : tS fs side bit c r = tg fs r + c := by rw [tS, if_neg (by omega)]
          exact A_fg6 (A_fg7 (A_fg8 (iN (by omega))))
        · refine A_il8 X dX4_ownInBestTold_109 ?_
          refine A_is4 X dX4_ownInBestTold_111 ?_
          refine A_al0 X dX4_ownInBestTold_113 ?_
          refine A_getf X flX4_9 h_this rfl dX4_ownInBestTold_114 ?_
          refine A_il5 X dX4_ownInBestTold_117 ?_
          refine A_iald X h_this_own (by omega) dX4_ownInBestTold_119 ?_
          refine A_is3 X dX4_ownInBestTold_120 ?_
          refine A_ii5 X dX4_ownInBestTold_121 ?_
          refine A_goto (t := 8) X dX4_ownInBestTold_124 ?_
          have eA : tA fs side bit c r = ld fs side r + c := by rw [tA, if_neg (by omega)]
          have eS : tS fs side bit c r = tg fs r + c := by rw [tS, if_neg (by omega)]
          rw [r3, r1, ← eS]
          exact A_fg6 (A_fg7 (A_fg8 (iS (by omega))))
theorem bt_and : ∀ s, s < 64 → ∀ j, j < 6 → (s &&& 2 ^ j = 0 ↔ ¬ hasB s j) := by decide +kernel
theorem vW_aiu {fs : Int → Int} {side s2 g told : Int} {set : Nat} (hs : side = 0 ∨ side = 1) (hs2 : s2 = 0 ∨ s2 = 1) (hg : 0 ≤ g ∧ g < 6) : ∀ k : Nat, k ≤ 6 → vW (aiu fs (4 + 6 * side + g) told) s2 set k = vW fs s2 set k + (if s2 = side ∧ g.toNat < k ∧ hasB set g.toNat then told - fs (4 + 6 * side + g) else 0)
  | 0, _ => by simp [vW]
  | k + 1, hk => by
    rw [vW, vW, vW_aiu hs hs2 hg k (by omega)]
    by_cases q1 : s2 = side ∧ (k : Int) = g
    · obtain ⟨q1, q2⟩ := q1
      subst q1; subst q2
      rw [aiu_s]
      have e : ((k : Int)).toNat = k := by omega
      rw [e, if_neg (fun z => by omega)]
      by_cases q3 : hasB set k
      · rw [if_pos q3, if_pos q3, if_pos ⟨rfl, by omega, q3⟩]; omega
      · rw [if_neg q3, if_neg q3, if_neg (fun z => q3 z.2.2)]
    · rw [aiu_n (by omega)]
      have e : (s2 = side ∧ g.toNat < k + 1 ∧ hasB set g.toNat) ↔ (s2 = side ∧ g.toNat < k ∧ hasB set g.toNat) := by
        constructor
        · intro z; exact ⟨z.1, by have := z.1; omega, z.2.2⟩
        · intro z; exact ⟨z.1, by omega, z.2.2⟩
      simp only [e]
      omega
theorem vP_aiu {fs : Int → Int} {side s2 g told : Int} {set : Nat} (hs : side = 0 ∨ side = 1) (hs2 : s2 = 0 ∨ s2 = 1) (hg : 0 ≤ g ∧ g < 6) : ∀ k : Nat, k ≤ 4 → vP (aiu fs (4 + 6 * side + g) told) s2 set k = vP fs s2 set k
  | 0, _ => rfl
  | k + 1, hk => by
    rw [vP, vP, vP_aiu hs hs2 hg k (by omega), aiu_n (by omega), aiu_n (by omega), aiu_n (by omega)]
theorem vl_aiu {fs : Int → Int} (hok : sOK fs) {side s2 g told : Int} {set : Nat} (hs : side = 0 ∨ side = 1) (hs2 : s2 = 0 ∨ s2 = 1) (hg : 0 ≤ g ∧ g < fs 0) : vl (aiu fs (4 + 6 * side + g) told) s2 set = vl fs s2 set + (if s2 = side ∧ hasB set g.toNat then told - fs (4 + 6 * side + g) else 0) := by
  have h0 := hok.1
  have h1 := hok.2.1
  unfold vl
  rw [aiu_n (by omega), aiu_n (by omega), vW_aiu hs hs2 (by omega) _ (by omega), vP_aiu hs hs2 (by omega) _ (by omega)]
  have e : (s2 = side ∧ g.toNat < (fs 0).toNat ∧ hasB set g.toNat) ↔ (s2 = side ∧ hasB set g.toNat) := ⟨fun z => ⟨z.1, z.2.2⟩, fun z => ⟨z.1, by omega, z.2⟩⟩
  simp only [e]
  omega
theorem al_aiu {fs : Int → Int} {side g told : Int} (hs : side = 0 ∨ side = 1) (hg : 0 ≤ g) : al (aiu fs (4 + 6 * side + g) told) = al fs := by
  unfold al; rw [aiu_n (by omega)]
theorem cm_aiu {fs : Int → Int} {side g told : Int} (hs : side = 0 ∨ side = 1) (hg : 0 ≤ g) (r : Nat) : cm (aiu fs (4 + 6 * side + g) told) r = cm fs r := by
  unfold cm; rw [al_aiu hs hg]
theorem cm_has {fs : Int → Int} (h : 0 ≤ fs 0 ∧ fs 0 ≤ 6) {r : Nat} (hr : r < al fs) {g : Nat} (hg : g < (fs 0).toNat) : hasB (cm fs r) g ↔ ¬ hasB r g := by
  have key : ∀ m, m < 7 → ∀ r, r < 2 ^ m → ∀ g, g < m → (hasB ((2 ^ m - 1) ^^^ ((2 ^ m - 1) &&& r)) g ↔ ¬ hasB r g) := by decide +kernel
  exact key (fs 0).toNat (by omega) r hr g hg
theorem tl_H {fs : Int → Int} (hok : sOK fs) {side g told : Int} (hs : side = 0 ∨ side = 1) (hg : 0 ≤ g ∧ g < fs 0) (ht : 0 ≤ told ∧ told ≤ 20) (r : Nat) (hr : r < al fs) : ((0 ≤ ld fs (1 - side) r ∧ 0 ≤ tA fs side (2 ^ g.toNat) (told - fs (4 + 6 * side + g)) r) ↔ frQ (aiu fs (4 + 6 * side + g) told) r) ∧ tS fs side (2 ^ g.toNat) (told - fs (4 + 6 * side + g)) r = tg (aiu fs (4 + 6 * side + g) told) r ∧ 0 ≤ tg (aiu fs (4 + 6 * side + g) told) r := by
  have hg0 := hok.1
  have hok2 := sOK_aiu hok (z := 4 + 6 * side + g) (v := told) (by omega) ht
  have hal := al_b hg0
  have ho := oI_lt (side := side) hg0 hr
  have hr2 : r < al (aiu fs (4 + 6 * side + g) told) := by rw [al_aiu hs hg.1]; exact hr
  have hc := cm_has hg0 hr (g := g.toNat) (by omega)
  have hb := bt_and (oI fs side r) (by omega) g.toNat (by omega)
  refine ⟨?_, ?_, (tg_b hok2 r).1⟩
  · rw [fr_ld hok2.1 hr2]
    unfold ld oI tA
    rw [cm_aiu hs hg.1, cm_aiu hs hg.1]
    simp only [hb]
    unfold ld oI
    rcases hs with rfl | rfl
    · simp only [show ((0:Int) = 1) = False from by decide, show ((1:Int) = 1) = True from by decide, show (1 - (0:Int)) = 1 from rfl, if_true, if_false]
      rw [vl_aiu hok (Or.inl rfl) (Or.inl rfl) hg, vl_aiu hok (Or.inl rfl) (Or.inl rfl) hg, vl_aiu hok (Or.inl rfl) (Or.inr rfl) hg, vl_aiu hok (Or.inl rfl) (Or.inr rfl) hg, cm_aiu (Or.inl rfl) hg.1, cm_cm hg0 hr]
      by_cases q : hasB r g.toNat
      · simp [q, hc]; omega
      · simp [q, hc]; omega
    · simp only [show ((0:Int) = 1) = False from by decide, show ((1:Int) = 1) = True from by decide, show (1 - (1:Int)) = 0 from rfl, if_true, if_false]
      rw [vl_aiu hok (Or.inr rfl) (Or.inl rfl) hg, vl_aiu hok (Or.inr rfl) (Or.inl rfl) hg, vl_aiu hok (Or.inr rfl) (Or.inr rfl) hg, vl_aiu hok (Or.inr rfl) (Or.inr rfl) hg, cm_aiu (Or.inr rfl) hg.1, cm_cm hg0 hr]
      by_cases q : hasB r g.toNat
      · simp [q, hc]; omega
      · simp [q, hc]; omega
  · unfold tS tg
    simp only [hb]
    unfold oI
    rw [cm_aiu hs hg.1, vl_aiu hok hs (Or.inl rfl) hg, vl_aiu hok hs (Or.inr rfl) hg]
    rcases hs with rfl | rfl
    · by_cases q : hasB r g.toNat <;> simp [q, hc] <;> omega
    · by_cases q : hasB r g.toNat <;> simp [q, hc] <;> omega
theorem vl_0 (fs : Int → Int) (side : Int) : vl fs side 0 = 0 := by
  have hb : ∀ k, ¬ hasB 0 k := by intro k; unfold hasB; simp
  have a : ∀ k, vW fs side 0 k = 0 := by
    intro k; induction k with
    | zero => rfl
    | succ k ih => rw [vW, ih, if_neg (hb _)]; rfl
  have b : ∀ k, vP fs side 0 k = 0 := by
    intro k; induction k with
    | zero => rfl
    | succ k ih => rw [vP, ih, if_neg (fun z => hb _ z.1)]; rfl
  unfold vl; rw [a, b]; rfl
theorem tl_w {fs f2 : Int → Int} (hok : sOK fs) {side : Int} {bit : Nat} {c : Int} (H : ∀ r, r < al fs → ((0 ≤ ld fs (1 - side) r ∧ 0 ≤ tA fs side bit c r) ↔ frQ f2 r) ∧ tS fs side bit c r = tg f2 r ∧ 0 ≤ tg f2 r) : ∃ w : Nat, w < al fs ∧ ((lo fs side (al fs)).foldl (tP fs side bit c) (0, -1)).1 = (w : Int) ∧ vl fs side w = (if bs f2 1 (al fs) = -9 then 0 else vl fs side (oI fs side (bs f2 1 (al fs)).toNat)) := by
  have hal := al_b hok.1
  have hb := bs_b f2 1 (al fs)
  rw [tl_bs H _ (Nat.le_refl _)]
  by_cases q : bs f2 1 (al fs) = -9
  · rw [if_pos q, if_pos q]
    exact ⟨0, by omega, rfl, vl_0 fs side⟩
  · rw [if_neg q, if_neg q]
    exact ⟨_, oI_lt hok.1 (by omega), rfl, rfl⟩
theorem tl_g {fs : Int → Int} (hok : sOK fs) {side g told : Int} (hs : side = 0 ∨ side = 1) (hg : 0 ≤ g ∧ g < fs 0) (ht : 0 ≤ told ∧ told ≤ 20) : ∃ w : Nat, w < al fs ∧ ((lo fs side (al fs)).foldl (tP fs side (2 ^ g.toNat) (told - fs (4 + 6 * side + g))) (0, -1)).1 = (w : Int) ∧ vl fs side w = qG fs side g told := by
  obtain ⟨w, h1, h2, h3⟩ := tl_w hok (tl_H hok hs hg ht)
  exact ⟨w, h1, h2, h3⟩
theorem aiu_id (f : Int → Int) (z : Int) : aiu f z (f z) = f := by
  funext k
  unfold aiu
  split
  · next h => rw [h]
  · rfl
theorem tl_h {fs : Int → Int} (hok : sOK fs) {side : Int} (hs : side = 0 ∨ side = 1) : ∃ w : Nat, w < al fs ∧ ((lo fs side (al fs)).foldl (tP fs side 0 0) (0, -1)).1 = (w : Int) ∧ vl fs side w = lsH fs side := by
  have hg0 := hok.1
  obtain ⟨w, h1, h2, h3⟩ := tl_w (fs := fs) (f2 := fs) (side := side) (bit := 0) (c := 0) hok (fun r hr => by
    refine ⟨?_, ?_, (tg_b hok r).1⟩
    · rw [fr_ld hg0 hr, tA, if_pos (Nat.and_zero _)]
      rcases hs with rfl | rfl
      · rw [show (1 - (0 : Int)) = 1 from rfl]; omega
      · rw [show (1 - (1 : Int)) = 0 from rfl]; omega
    · rw [tS, if_pos (Nat.and_zero _)])
  refine ⟨w, h1, h2, ?_⟩
  unfold lsH
  by_cases q : fs 0 = 0
  · rw [if_pos q]
    have : al fs = 1 := by unfold al; rw [q]; rfl
    have hw : w = 0 := by omega
    rw [hw, vl_0]
  · rw [if_neg q, h3]
    unfold qG
    rw [Int.add_zero, aiu_id]
    rfl
theorem lsI_same {fs : Int → Int} {side : Int} (h0 : fs 0 ≠ 0) {g : Nat} {k : Nat} (hk : k / 21 = g) (ht : ((k % 21 : Nat) : Int) = fs (4 + 6 * side + (g : Int))) : lsI fs side (lsH fs side) k = 0 := by
  unfold lsI lsH qG
  rw [hk, ht, aiu_id, if_neg h0, Int.add_zero, aiu_id]
  omega
set_option maxRecDepth 100000 in
theorem c_worthC {G : aG} {d n : Nat} {h : AH} {su : Nat} {fs : Int → Int} {side k : Int} (hs : side = 0 ∨ side = 1) (hk : 0 ≤ k ∧ k < fs 0) (hg : fs 0 ≤ 6) (hC : suC G h su fs) : aD G (d + 1) kX6_worthOf [.ref su, aI side, aI k] n h (some (aI (fs (4 + 6 * side + k)))) := by
  obtain ⟨fw, fq, fm, fv, hA, hr, hv⟩ := hC
  rw [← hr.1 side k hs hk.1 hk.2]
  exact c_worthOf hs (by omega) hA
set_option maxRecDepth 100000 in
theorem p_seek {G : aG} {d n : Nat} {h : AH} {pa su : Nat} {fs : Int → Int} {fo ga li : Int} {g1 g2 g3 : Int → Int} {side : Int} (hs : side = 0 ∨ side = 1) (hap : su + 5 ≤ pa ∨ pa + 4 ≤ su) (hok : sOK fs) (hC : suC G h su fs) (h_this : h pa = some (aOb 4 (pO pa fo ga li))) (h_this_own : h (pa + 1) = some (aIa G 64 g1)) (h_this_ahead : h (pa + 2) = some (aIa G 64 g2)) (h_this_sum : h (pa + 3) = some (aIa G 64 g3)) : aE G (d + 4) kX4_seekLie [.ref pa, .ref su, aI side] n h none (fun h' => (∃ (u1 u2 u3 : Int → Int) (L : Int), h' pa = some (aOb 4 (pO pa L (lsM fs side (lsH fs side) (21 * (fs 0).toNat)) (lsF fs side (lsH fs side) (21 * (fs 0).toNat)))) ∧ h' (pa + 1) = some (aIa G 64 u1) ∧ h' (pa + 2) = some (aIa G 64 u2) ∧ h' (pa + 3) = some (aIa G 64 u3)) ∧ ∀ q, (q < pa ∨ pa + 4 ≤ q) → h' q = h q) := by
  have hg := hok.1; have hal := al_b hg; have h_suit := suC_o hC
  obtain ⟨g, hgn⟩ := Int.eq_ofNat_of_zero_le hg.1
  have hgt : (fs 0).toNat = g := by omega
  have hll := lo_len fs side (al fs)
  have hlt := fun r hr => lo_lt fs side (al fs) r hr
  obtain ⟨w0, hw1, hw2, hw3⟩ := tl_h hok hs
  have bH : 0 ≤ lsH fs side ∧ lsH fs side ≤ 200 := by rw [← hw3]; exact vl_b hok hs w0
  refine aCt_of (lv := [some (.ref pa), some (.ref su), some (aI side), none, none, none, none, none]) knX4_seekLie.1 rfl rfl (Nat.le_of_ble_eq_true rfl) (fun x hG hsc X => ?_)
  subst hG
  refine A_al0 X dX4_seekLie_0 ?_
  refine A_iconst X dX4_seekLie_1 ?_
  refine A_putf X flX4_62 h_this dX4_seekLie_2 ?_
  refine A_gen (fun h2 e2 k2 q2 => ?_)
  have h_this := e2
  have h_this_own := (k2 _ (by omega)).trans h_this_own
  have h_this_ahead := (k2 _ (by omega)).trans h_this_ahead
  have h_this_sum := (k2 _ (by omega)).trans h_this_sum
  have hC := suC_fr hC (fun q q1 q2 => k2 q (by omega))
  refine A_al0 X dX4_seekLie_5 ?_
  refine A_bipush X dX4_seekLie_6 ?_
  refine A_putf X flX4_65 h_this dX4_seekLie_8 ?_
  refine A_gen (fun h8 e8 k8 q8 => ?_)
  have h_this := e8
  have h_this_own := (k8 _ (by omega)).trans h_this_own
  have h_this_ahead := (k8 _ (by omega)).trans h_this_ahead
  have h_this_sum := (k8 _ (by omega)).trans h_this_sum
  have hC := suC_fr hC (fun q q1 q2 => k8 q (by omega))
  refine A_al0 X dX4_seekLie_11 ?_
  refine A_al1 X dX4_seekLie_12 ?_
  refine A_il2 X dX4_seekLie_13 ?_
  refine A_eVv2 X (p_list hs hap hok hC h_this h_this_own h_this_ahead h_this_sum) h_this knX4_listOthersFair mlX4_68 dX4_seekLie_14 (fun h14 p14 => ?_)
  obtain ⟨⟨u1, u2, u3, h_this, h_this_own, h_this_ahead, h_this_sum, hR⟩, hq14⟩ := p14
  have hC := suC_fr hC (fun q q1 q2 => hq14 q (by omega))
  have h_suit := suC_o hC
  have told := fun (dd : Nat) (bit : Nat) (z c : Int) (hz : z = (bit : Int)) (hc : -20 ≤ c ∧ c ≤ 20) (hh : AH) (m : Nat) (ga2 li2 : Int) (a0 : hh pa = some (aOb 4 (pO pa ((lo fs side (al fs)).length : Nat) ga2 li2))) (aq : ∀ q, q ≠ pa → hh q = h14 q) => p_told (G := x.1) (d := dd) (n := m) bit hz hs hc hok (by omega) hlt hR a0 ((aq _ (by omega)).trans h_this_own) ((aq _ (by omega)).trans h_this_ahead) ((aq _ (by omega)).trans h_this_sum)
  refine A_al1 X dX4_seekLie_17 ?_
  refine A_il2 X dX4_seekLie_18 ?_
  refine A_al0 X dX4_seekLie_19 ?_
  refine A_iconst X dX4_seekLie_20 ?_
  refine A_iconst X dX4_seekLie_21 ?_
  refine A_dVi2 X (told _ 0 0 0 rfl (by omega) h14 n _ _ h_this (fun q _ => rfl)) h_this knX4_ownInBestTold mlX4_72 dX4_seekLie_22 ?_
  refine A_dVi2 X (c_valueOf w0 hw2 hs hg hw1 hC) h_suit knX6_valueOf mlX4_27 dX4_seekLie_25 ?_
  refine A_is3 X dX4_seekLie_28 ?_
  refine A_iconst X dX4_seekLie_29 ?_
  refine A_is4 X dX4_seekLie_30 ?_
  rw [hw3]
  refine lp_0 (P := fun i => ∀ hh : AH, hh pa = some (aOb 4 (pO pa ((lo fs side (al fs)).length : Nat) (lsM fs side (lsH fs side) (21 * i)) (lsF fs side (lsH fs side) (21 * i)))) → (∀ q, q ≠ pa → hh q = h14 q) → AW x 0 0 n hh 32 [some (.ref pa), some (.ref su), some (aI side), some (aI (lsH fs side)), some (aI (i : Int)), none, none, none] []) g ?_ ?_ h14 h_this (fun q _ => rfl)
  · intro hh h_this aq
    have h_suit := (aq su (by omega)).trans h_suit
    refine A_il4 X dX4_seekLie_32 ?_
    refine A_al1 X dX4_seekLie_34 ?_
    refine A_getf X flX4_54 h_suit rfl dX4_seekLie_35 ?_
    refine A_icmp_ge (t := 126) X (by omega) (by omega) dX4_seekLie_38 (fun c38 => ?_) (fun c38 => by exfalso; omega)
    refine A_retv X dX4_seekLie_126 rfl ⟨rfl, rfl, ⟨u1, u2, u3, _, by rw [hgt]; exact h_this, (aq _ (by omega)).trans h_this_own, (aq _ (by omega)).trans h_this_ahead, (aq _ (by omega)).trans h_this_sum⟩, fun q hq => ?_⟩
    rw [aq q (by omega), hq14 q hq, k8 q (by omega), k2 q (by omega)]
  · intro i hi ih hh h_this aq
    have h_suit2 := h_suit
    have h_suit := (aq su (by omega)).trans h_suit
    refine A_il4 X dX4_seekLie_32 ?_
    refine A_al1 X dX4_seekLie_34 ?_
    refine A_getf X flX4_54 h_suit rfl dX4_seekLie_35 ?_
    refine A_icmp_ge (t := 126) X (by omega) (by omega) dX4_seekLie_38 (fun c38 => by exfalso; omega) (fun c38 => ?_)
    refine A_iconst X dX4_seekLie_41 ?_
    refine A_is5 X dX4_seekLie_42 ?_
    refine lp_0 (P := fun j => ∀ hh : AH, hh pa = some (aOb 4 (pO pa ((lo fs side (al fs)).length : Nat) (lsM fs side (lsH fs side) (21 * i + j)) (lsF fs side (lsH fs side) (21 * i + j)))) → (∀ q, q ≠ pa → hh q = h14 q) → AW x 0 0 n hh 44 [some (.ref pa), some (.ref su), some (aI side), some (aI (lsH fs side)), some (aI (i : Int)), some (aI (j : Int)), none, none] []) 21 ?_ ?_ hh h_this aq
    · intro hh h_this aq
      refine A_il5 X dX4_seekLie_44 ?_
      refine A_bipush X dX4_seekLie_46 ?_
      refine A_icmp_gt (t := 120) X (by omega) (by omega) dX4_seekLie_48 (fun c48 => ?_) (fun c48 => by exfalso; omega)
      refine A_ii4 X dX4_seekLie_120 ?_
      refine A_goto (t := 32) X dX4_seekLie_123 ?_
      exact A_fg5 (ih hh h_this aq)
    · intro j hj ih hh h_this aq
      have h_suit := (aq su (by omega)).trans h_suit2
      have hC := suC_fr hC (fun q q1 q2 => aq q (by omega))
      have hwb := hok.2.2.2.2.1 (4 + 6 * side + (i : Int)) (by omega) (by omega)
      have p2 := p2b (show i ≤ 6 by omega)
      obtain ⟨w, w1, w2, w3⟩ := tl_g hok hs (g := (i : Int)) (told := (j : Int)) (by omega) (by omega)
      rw [show ((i : Int)).toNat = i by omega] at w2
      have bq := qG_b hok hs (i : Int) (j : Int)
      have eI : lsI fs side (lsH fs side) (21 * i + j) = qG fs side (i : Int) (j : Int) - lsH fs side := by unfold lsI; rw [show (21 * i + j) / 21 = i by omega, show (21 * i + j) % 21 = j by omega]
      have bM := lsM_b hok hs bH (21 * i + j)
      have eN : ¬ lsM fs side (lsH fs side) (21 * i + j) < lsI fs side (lsH fs side) (21 * i + j) → lsM fs side (lsH fs side) (21 * i + (j + 1)) = lsM fs side (lsH fs side) (21 * i + j) ∧ lsF fs side (lsH fs side) (21 * i + (j + 1)) = lsF fs side (lsH fs side) (21 * i + j) := fun q => by rw [← Nat.add_assoc, lsM, lsF, if_neg q, if_neg q]; exact ⟨rfl, rfl⟩
      have eP : lsM fs side (lsH fs side) (21 * i + j) < lsI fs side (lsH fs side) (21 * i + j) → lsM fs side (lsH fs side) (21 * i + (j + 1)) = qG fs side (i : Int) (j : Int) - lsH fs side ∧ lsF fs side (lsH fs side) (21 * i + (j + 1)) = 100 * (i : Int) + (j : Int) := fun q => by rw [← Nat.add_assoc, lsM, lsF, if_pos q, if_pos q, eI, show (21 * i + j) / 21 = i by omega, show (21 * i + j) % 21 = j by omega]; exact ⟨rfl, rfl⟩
      refine A_il5 X dX4_seekLie_44 ?_
      refine A_bipush X dX4_seekLie_46 ?_
      refine A_icmp_gt (t := 120) X (by omega) (by omega) dX4_seekLie_48 (fun c48 => by exfalso; omega) (fun c48 => ?_)
      refine A_il5 X dX4_seekLie_51 ?_
      refine A_al1 X dX4_seekLie_53 ?_
      refine A_il2 X dX4_seekLie_54 ?_
      refine A_il4 X dX4_seekLie_55 ?_
      refine A_dVi2 X (c_worthC hs (by omega) hg.2 hC) h_suit knX6_worthOf mlX4_75 dX4_seekLie_57 ?_
      refine A_isub X dX4_seekLie_60 ?_
      refine A_is6 X dX4_seekLie_61 ?_
      refine A_al1 X dX4_seekLie_63 ?_
      refine A_il2 X dX4_seekLie_64 ?_
      refine A_al0 X dX4_seekLie_65 ?_
      refine A_iconst X dX4_seekLie_66 ?_
      refine A_il4 X dX4_seekLie_67 ?_
      refine A_ishl X 1 i rfl rfl (by omega) (by omega) dX4_seekLie_69 ?_
      refine A_il6 X dX4_seekLie_70 ?_
      refine A_dVi2 X (told _ (2 ^ i) _ _ (by rw [Nat.one_mul]) (by omega) hh n _ _ h_this aq) h_this knX4_ownInBestTold mlX4_72 dX4_seekLie_72 ?_
      refine A_dVi2 X (c_valueOf w w2 hs hg w1 hC) h_suit knX6_valueOf mlX4_27 dX4_seekLie_75 ?_
      rw [w3]
      refine A_il3 X dX4_seekLie_78 ?_
      refine A_isub X dX4_seekLie_79 ?_
      refine A_is7 X dX4_seekLie_80 ?_
      refine A_il6 X dX4_seekLie_82 ?_
      refine A_if_eq (t := 114) X (by omega) dX4_seekLie_84 (fun c84 => ?_) (fun c84 => ?_)
      · refine A_ii5 X dX4_seekLie_114 ?_
        refine A_goto (t := 44) X dX4_seekLie_117 ?_
        obtain ⟨e1, e2⟩ := eN (by rw [lsI_same (by omega) (show (21 * i + j) / 21 = i by omega) (by rw [show (21 * i + j) % 21 = j by omega]; omega)]; omega)
        exact A_fg6 (A_fg7 (ih hh (by rw [e1, e2]; exact h_this) aq))
      · refine A_il7 X dX4_seekLie_87 ?_
        refine A_al0 X dX4_seekLie_89 ?_
        refine A_getf X flX4_62 h_this rfl dX4_seekLie_90 ?_
        refine A_icmp_le (t := 114) X (by omega) (by omega) dX4_seekLie_93 (fun c93 => ?_) (fun c93 => ?_)
        · refine A_ii5 X dX4_seekLie_114 ?_
          refine A_goto (t := 44) X dX4_seekLie_117 ?_
          obtain ⟨e1, e2⟩ := eN (by omega)
          exact A_fg6 (A_fg7 (ih hh (by rw [e1, e2]; exact h_this) aq))
        · refine A_al0 X dX4_seekLie_96 ?_
          refine A_il7 X dX4_seekLie_97 ?_
          refine A_putf X flX4_62 h_this dX4_seekLie_99 ?_
          refine A_gen (fun h99 e99 k99 q99 => ?_)
          have h_this := e99
          refine A_al0 X dX4_seekLie_102 ?_
          refine A_bipush X dX4_seekLie_103 ?_
          refine A_il4 X dX4_seekLie_105 ?_
          refine A_imul X dX4_seekLie_107 ?_
          refine A_il5 X dX4_seekLie_108 ?_
          refine A_iadd X dX4_seekLie_110 ?_
          refine A_putf X flX4_65 h_this dX4_seekLie_111 ?_
          refine A_gen (fun h111 e111 k111 q111 => ?_)
          have h_this := e111
          refine A_ii5 X dX4_seekLie_114 ?_
          refine A_goto (t := 44) X dX4_seekLie_117 ?_
          obtain ⟨e1, e2⟩ := eP (by omega)
          exact A_fg6 (A_fg7 (ih h111 (by rw [e1, e2]; exact h_this) (fun q hq => by rw [k111 q hq, k99 q hq, aq q hq])))
