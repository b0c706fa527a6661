/-! the reference: by turns -/
theorem bt1b : ((List.range 64).all fun tb => (List.range 64).all fun s => (List.range 6).all fun j => !(decide (hasB (tb ^^^ (tb &&& s)) j)) || (decide (hasB tb j) && !(decide (hasB s j)) && decide (pct (tb ^^^ (tb &&& (s ||| 2 ^ j))) + 1 = pct (tb ^^^ (tb &&& s))))) = true := by decide +kernel
theorem bt1 (tb : Nat) (ht : tb < 64) (s : Nat) (hs : s < 64) (j : Nat) (hj : j < 6) (h : hasB (tb ^^^ (tb &&& s)) j) : hasB tb j ∧ ¬ hasB s j ∧ pct (tb ^^^ (tb &&& (s ||| 2 ^ j))) + 1 = pct (tb ^^^ (tb &&& s)) := by
  have h1 := List.all_eq_true.mp (List.all_eq_true.mp (List.all_eq_true.mp bt1b tb (List.mem_range.mpr ht)) s (List.mem_range.mpr hs)) j (List.mem_range.mpr hj)
  rw [decide_eq_true h, Bool.not_true, Bool.false_or, Bool.and_eq_true, Bool.and_eq_true, Bool.not_eq_true', decide_eq_true_eq, decide_eq_false_iff_not, decide_eq_true_eq] at h1
  exact ⟨h1.1.1, h1.1.2, h1.2⟩
theorem bt2 : ∀ l, l < 64 → ∀ j, j < 6 → ¬ hasB l j → l + 2 ^ j = l ||| 2 ^ j ∧ l + 2 ^ j < 64 ∧ 2 ^ j &&& l = 0 := by decide +kernel
theorem bt3 : ∀ l, l < 64 → ∀ r, r < 64 → ∀ j, j < 6 → (hasB (l ||| r) j ↔ hasB l j ∨ hasB r j) := by decide +kernel
theorem bt4 : ∀ l, l < 64 → ∀ j, j < 6 → hasB l j → 2 ^ j &&& l = 2 ^ j := by decide +kernel
theorem bt5 : ∀ l, l < 64 → l ≠ 0 → ∃ j, j < 6 ∧ hasB l j := by decide +kernel
theorem bt6 : ∀ l, l < 64 → (pct l = 0 ↔ l = 0) := by decide +kernel
theorem or64 {l r : Nat} (hl : l < 64) (hr : r < 64) : l ||| r < 64 := Nat.or_lt_two_pow (n := 6) hl hr
theorem rm64 {l r : Nat} (hl : l < 64) : l ^^^ (l &&& r) < 64 := Nat.xor_lt_two_pow (n := 6) hl (Nat.lt_of_le_of_lt Nat.and_le_left hl)
def mv (side : Int) (l r : Nat) : Int := if pct (l ||| r) % 2 = 0 then side else 1 - side
abbrev tq (c : Int × Int × Int) (b : Int × Int) (m : Int) : Prop := c.1 = -9 ∨ (if m = 0 then c.2.1 ≤ b.1 else c.2.2 ≤ b.2)
/-- of the goods that are left, the last first: the take, and what comes of it for either -/
def tf (by_ : Nat → Int × Int) (m : Int) (rem G : Nat) : Nat → Int × Int × Int
  | 0 => (-9, 0, 0)
  | k + 1 => if hasB rem (G - 1 - k) ∧ tq (tf by_ m rem G k) (by_ (G - 1 - k)) m then (((G - 1 - k : Nat) : Int), (by_ (G - 1 - k)).1, (by_ (G - 1 - k)).2) else tf by_ m rem G k
def tT (fs : Int → Int) (tb lf rt : Nat) (side : Int) : Nat → Nat → Nat → Int × Int × Int
  | 0, l, r => (-9, vl fs 0 (lf ||| l), vl fs 1 (rt ||| r))
  | k + 1, l, r => tf (fun j => if mv side l r = 0 then (tT fs tb lf rt side k (l + 2 ^ j) r).2 else (tT fs tb lf rt side k l (r + 2 ^ j)).2) (mv side l r) (tb ^^^ (tb &&& (l ||| r))) (fs 0).toNat (fs 0).toNat
def inT (t : Int × Int × Int) : Prop := (-9 ≤ t.1 ∧ t.1 ≤ 5) ∧ (0 ≤ t.2.1 ∧ t.2.1 ≤ 200) ∧ (0 ≤ t.2.2 ∧ t.2.2 ≤ 200)
theorem tf_b {by_ : Nat → Int × Int} {m : Int} {rem G : Nat} (hG : G ≤ 6) (hb : ∀ j, (0 ≤ (by_ j).1 ∧ (by_ j).1 ≤ 200) ∧ (0 ≤ (by_ j).2 ∧ (by_ j).2 ≤ 200)) : ∀ k : Nat, inT (tf by_ m rem G k)
  | 0 => ⟨by simp [tf], by simp [tf], by simp [tf]⟩
  | k + 1 => by
    unfold tf
    split
    · exact ⟨⟨by show -9 ≤ ((G - 1 - k : Nat) : Int); omega, by show ((G - 1 - k : Nat) : Int) ≤ 5; omega⟩, (hb _).1, (hb _).2⟩
    · exact tf_b hG hb k
theorem tT_b {fs : Int → Int} (hok : sOK fs) {tb lf rt : Nat} {side : Int} : ∀ k l r : Nat, inT (tT fs tb lf rt side k l r)
  | 0, l, r => ⟨by simp [tT], vl_b hok (Or.inl rfl) _, vl_b hok (Or.inr rfl) _⟩
  | k + 1, l, r => by
    unfold tT
    refine tf_b (by have := hok.1; omega) (fun j => ?_) _
    show (0 ≤ (if mv side l r = 0 then (tT fs tb lf rt side k (l + 2 ^ j) r).2 else (tT fs tb lf rt side k l (r + 2 ^ j)).2).1 ∧ _) ∧ _
    split
    · exact (tT_b hok k _ _).2
    · exact (tT_b hok k _ _).2
theorem tf_no {by_ : Nat → Int × Int} {m : Int} {rem G : Nat} (h : ∀ j, j < G → ¬ hasB rem j) : ∀ k : Nat, k ≤ G → (tf by_ m rem G k).1 = -9
  | 0, _ => rfl
  | k + 1, hk => by
    unfold tf
    rw [if_neg (fun q => h _ (by omega) q.1)]
    exact tf_no h k (by omega)
theorem tf_yes {by_ : Nat → Int × Int} {m : Int} {rem G j : Nat} (hj : j < G) (h : hasB rem j) : ∀ k : Nat, G - j ≤ k → (tf by_ m rem G k).1 ≠ -9
  | 0, hk => by omega
  | k + 1, hk => by
    unfold tf
    split
    · show ((G - 1 - k : Nat) : Int) ≠ -9
      omega
    · next e =>
      by_cases h9 : (tf by_ m rem G k).1 = -9
      · by_cases hkj : G - j ≤ k
        · exact tf_yes hj h k hkj
        · have : G - 1 - k = j := by omega
          exact absurd ⟨by rw [this]; exact h, Or.inl h9⟩ e
      · exact h9
abbrev ltQ (f9 f10 f11 : Int → Int) (i th mover : Int) : Prop := f11 i = -9 ∨ (if mover = 0 then f9 i ≤ f9 th else f10 i ≤ f10 th)
set_option maxRecDepth 100000 in
theorem m_layTake0 {G : aG} {d n : Nat} {h : AH} {tm : Nat} {un sz sm tr ak bg mt : Int} {f9 f10 f11 : Int → Int} {i z : Int} (g : Nat) (hz : z = (g : Int)) (hg : g < 6) (hi : 0 ≤ i ∧ i + ((64 * 2 ^ g : Nat) : Int) < 4096) (h11 : inR (f11 i)) (hth : inR (f9 (i + ((64 * 2 ^ g : Nat) : Int)))) (hii : f11 i ≠ -9 → inR (f9 i)) (h_this : h tm = some (aOb 11 (mO tm un sz sm tr ak bg mt))) (h_this_ends : h (tm + 9) = some (aIa G 4096 f9)) (h_this_endsRight : h (tm + 10) = some (aIa G 4096 f10)) (h_this_takes : h (tm + 11) = some (aIa G 4096 f11)) : aE G d kX11_layTake [.ref tm, aI i, aI 0, aI z] n h none (fun h' => h' (tm + 9) = some (aIa G 4096 (if ltQ f9 f10 f11 i (i + ((64 * 2 ^ g : Nat) : Int)) 0 then aiu f9 i (f9 (i + ((64 * 2 ^ g : Nat) : Int))) else f9)) ∧ h' (tm + 10) = some (aIa G 4096 (if ltQ f9 f10 f11 i (i + ((64 * 2 ^ g : Nat) : Int)) 0 then aiu f10 i (f10 (i + ((64 * 2 ^ g : Nat) : Int))) else f10)) ∧ h' (tm + 11) = some (aIa G 4096 (if ltQ f9 f10 f11 i (i + ((64 * 2 ^ g : Nat) : Int)) 0 then aiu f11 i z else f11)) ∧ ∀ q, q ≠ tm + 9 → q ≠ tm + 10 → q ≠ tm + 11 → h' q = h q) := by
  refine aCt_of (lv := [some (.ref tm), some (aI i), some (aI 0), some (aI z), none, none, none]) knX11_layTake.1 rfl rfl (Nat.le_of_ble_eq_true rfl) (fun x hG hsc X => ?_)
  subst hG
  have hp := p2b (show g ≤ 6 by omega)
  refine A_il1 X dX11_layTake_0 ?_
  refine A_il2 X dX11_layTake_1 ?_
  refine A_if_ne (t := 12) X (by omega) dX11_layTake_2 (fun c2 => by exfalso; omega) (fun c2 => ?_)
  refine A_bipush X dX11_layTake_5 ?_
  refine A_il3 X dX11_layTake_7 ?_
  refine A_ishl X 64 g rfl hz (by omega) (by omega) dX11_layTake_8 ?_
  refine A_goto (t := 15) X dX11_layTake_9 ?_
  refine A_iadd X dX11_layTake_15 ?_
  refine A_is4 X dX11_layTake_16 ?_
  refine A_il2 X dX11_layTake_18 ?_
  refine A_if_ne (t := 32) X (by omega) dX11_layTake_19 (fun c19 => by exfalso; omega) (fun c19 => ?_)
  refine A_al0 X dX11_layTake_22 ?_
  refine A_getf X flX11_35 h_this rfl dX11_layTake_23 ?_
  refine A_il4 X dX11_layTake_26 ?_
  refine A_iald X h_this_ends (by omega) dX11_layTake_28 ?_
  refine A_goto (t := 39) X dX11_layTake_29 ?_
  refine A_is5 X dX11_layTake_39 ?_
  refine A_il2 X dX11_layTake_41 ?_
  refine A_if_ne (t := 54) X (by omega) dX11_layTake_42 (fun c42 => by exfalso; omega) (fun c42 => ?_)
  refine A_al0 X dX11_layTake_45 ?_
  refine A_getf X flX11_35 h_this rfl dX11_layTake_46 ?_
  refine A_il1 X dX11_layTake_49 ?_
  refine A_iald X h_this_ends (by omega) dX11_layTake_50 ?_
  refine A_goto (t := 60) X dX11_layTake_51 ?_
  refine A_is6 X dX11_layTake_60 ?_
  refine A_al0 X dX11_layTake_62 ?_
  refine A_getf X flX11_41 h_this rfl dX11_layTake_63 ?_
  refine A_il1 X dX11_layTake_66 ?_
  refine A_iald X h_this_takes (by omega) dX11_layTake_67 ?_
  refine A_bipush X dX11_layTake_68 ?_
  refine A_icmp_eq (t := 80) X (by omega) (by omega) dX11_layTake_70 (fun c70 => ?_) (fun c70 => ?_)
  · refine A_al0 X dX11_layTake_80 ?_
    refine A_getf X flX11_41 h_this rfl dX11_layTake_81 ?_
    refine A_il1 X dX11_layTake_84 ?_
    refine A_il3 X dX11_layTake_85 ?_
    refine A_iast X h_this_takes (by omega) dX11_layTake_86 ?_
    refine A_gen (fun h86 e86 k86 q86 => ?_)
    have h_this := (k86 _ (by omega)).trans h_this
    have h_this_ends := (k86 _ (by omega)).trans h_this_ends
    have h_this_endsRight := (k86 _ (by omega)).trans h_this_endsRight
    have h_this_takes := e86
    refine A_al0 X dX11_layTake_87 ?_
    refine A_getf X flX11_35 h_this rfl dX11_layTake_88 ?_
    refine A_il1 X dX11_layTake_91 ?_
    refine A_al0 X dX11_layTake_92 ?_
    refine A_getf X flX11_35 h_this rfl dX11_layTake_93 ?_
    refine A_il4 X dX11_layTake_96 ?_
    refine A_iald X h_this_ends (by omega) dX11_layTake_98 ?_
    refine A_iast X h_this_ends (by omega) dX11_layTake_99 ?_
    refine A_gen (fun h99 e99 k99 q99 => ?_)
    have h_this := (k99 _ (by omega)).trans h_this
    have h_this_ends := e99
    have h_this_endsRight := (k99 _ (by omega)).trans h_this_endsRight
    have h_this_takes := (k99 _ (by omega)).trans h_this_takes
    refine A_al0 X dX11_layTake_100 ?_
    refine A_getf X flX11_38 h_this rfl dX11_layTake_101 ?_
    refine A_il1 X dX11_layTake_104 ?_
    refine A_al0 X dX11_layTake_105 ?_
    refine A_getf X flX11_38 h_this rfl dX11_layTake_106 ?_
    refine A_il4 X dX11_layTake_109 ?_
    refine A_iald X h_this_endsRight (by omega) dX11_layTake_111 ?_
    refine A_iast X h_this_endsRight (by omega) dX11_layTake_112 ?_
    refine A_gen (fun h112 e112 k112 q112 => ?_)
    have h_this := (k112 _ (by omega)).trans h_this
    have h_this_ends := (k112 _ (by omega)).trans h_this_ends
    have h_this_endsRight := e112
    have h_this_takes := (k112 _ (by omega)).trans h_this_takes
    exact A_retv X dX11_layTake_113 rfl ⟨rfl, rfl, by rw [if_pos (Or.inl c70)]; exact h_this_ends, by rw [if_pos (Or.inl c70)]; exact h_this_endsRight, by rw [if_pos (Or.inl c70)]; exact h_this_takes, fun q h1 h2 h3 => by rw [k112 q h2, k99 q h1, k86 q h3]⟩
  · refine A_il5 X dX11_layTake_73 ?_
    refine A_il6 X dX11_layTake_75 ?_
    refine A_icmp_lt (t := 113) X (by omega) (by have := hii c70; omega) dX11_layTake_77 (fun c77 => ?_) (fun c77 => ?_)
    · exact A_retv X dX11_layTake_113 rfl ⟨rfl, rfl, by rw [if_neg (fun q => q.elim c70 (fun q => by rw [if_pos rfl] at q; omega))]; exact h_this_ends, by rw [if_neg (fun q => q.elim c70 (fun q => by rw [if_pos rfl] at q; omega))]; exact h_this_endsRight, by rw [if_neg (fun q => q.elim c70 (fun q => by rw [if_pos rfl] at q; omega))]; exact h_this_takes, fun q _ _ _ => rfl⟩
    · refine A_al0 X dX11_layTake_80 ?_
      refine A_getf X flX11_41 h_this rfl dX11_layTake_81 ?_
      refine A_il1 X dX11_layTake_84 ?_
      refine A_il3 X dX11_layTake_85 ?_
      refine A_iast X h_this_takes (by omega) dX11_layTake_86 ?_
      refine A_gen (fun h86 e86 k86 q86 => ?_)
      have h_this := (k86 _ (by omega)).trans h_this
      have h_this_ends := (k86 _ (by omega)).trans h_this_ends
      have h_this_endsRight := (k86 _ (by omega)).trans h_this_endsRight
      have h_this_takes := e86
      refine A_al0 X dX11_layTake_87 ?_
      refine A_getf X flX11_35 h_this rfl dX11_layTake_88 ?_
      refine A_il1 X dX11_layTake_91 ?_
      refine A_al0 X dX11_layTake_92 ?_
      refine A_getf X flX11_35 h_this rfl dX11_layTake_93 ?_
      refine A_il4 X dX11_layTake_96 ?_
      refine A_iald X h_this_ends (by omega) dX11_layTake_98 ?_
      refine A_iast X h_this_ends (by omega) dX11_layTake_99 ?_
      refine A_gen (fun h99 e99 k99 q99 => ?_)
      have h_this := (k99 _ (by omega)).trans h_this
      have h_this_ends := e99
      have h_this_endsRight := (k99 _ (by omega)).trans h_this_endsRight
      have h_this_takes := (k99 _ (by omega)).trans h_this_takes
      refine A_al0 X dX11_layTake_100 ?_
      refine A_getf X flX11_38 h_this rfl dX11_layTake_101 ?_
      refine A_il1 X dX11_layTake_104 ?_
      refine A_al0 X dX11_layTake_105 ?_
      refine A_getf X flX11_38 h_this rfl dX11_layTake_106 ?_
      refine A_il4 X dX11_layTake_109 ?_
      refine A_iald X h_this_endsRight (by omega) dX11_layTake_111 ?_
      refine A_iast X h_this_endsRight (by omega) dX11_layTake_112 ?_
      refine A_gen (fun h112 e112 k112 q112 => ?_)
      have h_this := (k112 _ (by omega)).trans h_this
      have h_this_ends := (k112 _ (by omega)).trans h_this_ends
      have h_this_endsRight := e112
      have h_this_takes := (k112 _ (by omega)).trans h_this_takes
      exact A_retv X dX11_layTake_113 rfl ⟨rfl, rfl, by rw [if_pos (Or.inr (by rw [if_pos rfl]; omega))]; exact h_this_ends, by rw [if_pos (Or.inr (by rw [if_pos rfl]; omega))]; exact h_this_endsRight, by rw [if_pos (Or.inr (by rw [if_pos rfl]; omega))]; exact h_this_takes, fun q h1 h2 h3 => by rw [k112 q h2, k99 q h1, k86 q h3]⟩
set_option maxRecDepth 100000 in
theorem m_layTake1 {G : aG} {d n : Nat} {h : AH} {tm : Nat} {un sz sm tr ak bg mt : Int} {f9 f10 f11 : Int → Int} {i z : Int} (g : Nat) (hz : z = (g : Int)) (hg : g < 6) (hi : 0 ≤ i ∧ i + ((1 * 2 ^ g : Nat) : Int) < 4096) (h11 : inR (f11 i)) (hth : inR (f10 (i + ((1 * 2 ^ g : Nat) : Int)))) (hii : f11 i ≠ -9 → inR (f10 i)) (h_this : h tm = some (aOb 11 (mO tm un sz sm tr ak bg mt))) (h_this_ends : h (tm + 9) = some (aIa G 4096 f9)) (h_this_endsRight : h (tm + 10) = some (aIa G 4096 f10)) (h_this_takes : h (tm + 11) = some (aIa G 4096 f11)) : aE G d kX11_layTake [.ref tm, aI i, aI 1, aI z] n h none (fun h' => h' (tm + 9) = some (aIa G 4096 (if ltQ f9 f10 f11 i (i + ((1 * 2 ^ g : Nat) : Int)) 1 then aiu f9 i (f9 (i + ((1 * 2 ^ g : Nat) : Int))) else f9)) ∧ h' (tm + 10) = some (aIa G 4096 (if ltQ f9 f10 f11 i (i + ((1 * 2 ^ g : Nat) : Int)) 1 then aiu f10 i (f10 (i + ((1 * 2 ^ g : Nat) : Int))) else f10)) ∧ h' (tm + 11) = some (aIa G 4096 (if ltQ f9 f10 f11 i (i + ((1 * 2 ^ g : Nat) : Int)) 1 then aiu f11 i z else f11)) ∧ ∀ q, q ≠ tm + 9 → q ≠ tm + 10 → q ≠ tm + 11 → h' q = h q) := by
  refine aCt_of (lv := [some (.ref tm), some (aI i), some (aI 1), some (aI z), none, none, none]) knX11_layTake.1 rfl rfl (Nat.le_of_ble_eq_true rfl) (fun x hG hsc X => ?_)
  subst hG
  have hp := p2b (show g ≤ 6 by omega)
  refine A_il1 X dX11_layTake_0 ?_
  refine A_il2 X dX11_layTake_1 ?_
  refine A_if_ne (t := 12) X (by omega) dX11_layTake_2 (fun c2 => ?_) (fun c2 => by exfalso; omega)
  refine A_iconst X dX11_layTake_12 ?_
  refine A_il3 X dX11_layTake_13 ?_
  refine A_ishl X 1 g rfl hz (by omega) (by omega) dX11_layTake_14 ?_
  refine A_iadd X dX11_layTake_15 ?_
  refine A_is4 X dX11_layTake_16 ?_
  refine A_il2 X dX11_layTake_18 ?_
  refine A_if_ne (t := 32) X (by omega) dX11_layTake_19 (fun c19 => ?_) (fun c19 => by exfalso; omega)
  refine A_al0 X dX11_layTake_32 ?_
  refine A_getf X flX11_38 h_this rfl dX11_layTake_33 ?_
  refine A_il4 X dX11_layTake_36 ?_
  refine A_iald X h_this_endsRight (by omega) dX11_layTake_38 ?_
  refine A_is5 X dX11_layTake_39 ?_
  refine A_il2 X dX11_layTake_41 ?_
  refine A_if_ne (t := 54) X (by omega) dX11_layTake_42 (fun c42 => ?_) (fun c42 => by exfalso; omega)
  refine A_al0 X dX11_layTake_54 ?_
  refine A_getf X flX11_38 h_this rfl dX11_layTake_55 ?_
  refine A_il1 X dX11_layTake_58 ?_
  refine A_iald X h_this_endsRight (by omega) dX11_layTake_59 ?_
  refine A_is6 X dX11_layTake_60 ?_
  refine A_al0 X dX11_layTake_62 ?_
  refine A_getf X flX11_41 h_this rfl dX11_layTake_63 ?_
  refine A_il1 X dX11_layTake_66 ?_
  refine A_iald X h_this_takes (by omega) dX11_layTake_67 ?_
  refine A_bipush X dX11_layTake_68 ?_
  refine A_icmp_eq (t := 80) X (by omega) (by omega) dX11_layTake_70 (fun c70 => ?_) (fun c70 => ?_)
  · refine A_al0 X dX11_layTake_80 ?_
    refine A_getf X flX11_41 h_this rfl dX11_layTake_81 ?_
    refine A_il1 X dX11_layTake_84 ?_
    refine A_il3 X dX11_layTake_85 ?_
    refine A_iast X h_this_takes (by omega) dX11_layTake_86 ?_
    refine A_gen (fun h86 e86 k86 q86 => ?_)
    have h_this := (k86 _ (by omega)).trans h_this
    have h_this_ends := (k86 _ (by omega)).trans h_this_ends
    have h_this_endsRight := (k86 _ (by omega)).trans h_this_endsRight
    have h_this_takes := e86
    refine A_al0 X dX11_layTake_87 ?_
    refine A_getf X flX11_35 h_this rfl dX11_layTake_88 ?_
    refine A_il1 X dX11_layTake_91 ?_
    refine A_al0 X dX11_layTake_92 ?_
    refine A_getf X flX11_35 h_this rfl dX11_layTake_93 ?_
    refine A_il4 X dX11_layTake_96 ?_
    refine A_iald X h_this_ends (by omega) dX11_layTake_98 ?_
    refine A_iast X h_this_ends (by omega) dX11_layTake_99 ?_
    refine A_gen (fun h99 e99 k99 q99 => ?_)
    have h_this := (k99 _ (by omega)).trans h_this
    have h_this_ends := e99
    have h_this_endsRight := (k99 _ (by omega)).trans h_this_endsRight
    have h_this_takes := (k99 _ (by omega)).trans h_this_takes
    refine A_al0 X dX11_layTake_100 ?_
    refine A_getf X flX11_38 h_this rfl dX11_layTake_101 ?_
    refine A_il1 X dX11_layTake_104 ?_
    refine A_al0 X dX11_layTake_105 ?_
    refine A_getf X flX11_38 h_this rfl dX11_layTake_106 ?_
    refine A_il4 X dX11_layTake_109 ?_
    refine A_iald X h_this_endsRight (by omega) dX11_layTake_111 ?_
    refine A_iast X h_this_endsRight (by omega) dX11_layTake_112 ?_
    refine A_gen (fun h112 e112 k112 q112 => ?_)
    have h_this := (k112 _ (by omega)).trans h_this
    have h_this_ends := (k112 _ (by omega)).trans h_this_ends
    have h_this_endsRight := e112
    have h_this_takes := (k112 _ (by omega)).trans h_this_takes
    exact A_retv X dX11_layTake_113 rfl ⟨rfl, rfl, by rw [if_pos (Or.inl c70)]; exact h_this_ends, by rw [if_pos (Or.inl c70)]; exact h_this_endsRight, by rw [if_pos (Or.inl c70)]; exact h_this_takes, fun q h1 h2 h3 => by rw [k112 q h2, k99 q h1, k86 q h3]⟩
  · refine A_il5 X dX11_layTake_73 ?_
    refine A_il6 X dX11_layTake_75 ?_
    refine A_icmp_lt (t := 113) X (by omega) (by have := hii c70; omega) dX11_layTake_77 (fun c77 => ?_) (fun c77 => ?_)
    · exact A_retv X dX11_layTake_113 rfl ⟨rfl, rfl, by rw [if_neg (fun q => q.elim c70 (fun q => by rw [if_neg (by decide)] at q; omega))]; exact h_this_ends, by rw [if_neg (fun q => q.elim c70 (fun q => by rw [if_neg (by decide)] at q; omega))]; exact h_this_endsRight, by rw [if_neg (fun q => q.elim c70 (fun q => by rw [if_neg (by decide)] at q; omega))]; exact h_this_takes, fun q _ _ _ => rfl⟩
    · refine A_al0 X dX11_layTake_80 ?_
      refine A_getf X flX11_41 h_this rfl dX11_layTake_81 ?_
      refine A_il1 X dX11_layTake_84 ?_
      refine A_il3 X dX11_layTake_85 ?_
      refine A_iast X h_this_takes (by omega) dX11_layTake_86 ?_
      refine A_gen (fun h86 e86 k86 q86 => ?_)
      have h_this := (k86 _ (by omega)).trans h_this
      have h_this_ends := (k86 _ (by omega)).trans h_this_ends
      have h_this_endsRight := (k86 _ (by omega)).trans h_this_endsRight
      have h_this_takes := e86
      refine A_al0 X dX11_layTake_87 ?_
      refine A_getf X flX11_35 h_this rfl dX11_layTake_88 ?_
      refine A_il1 X dX11_layTake_91 ?_
      refine A_al0 X dX11_layTake_92 ?_
      refine A_getf X flX11_35 h_this rfl dX11_layTake_93 ?_
      refine A_il4 X dX11_layTake_96 ?_
      refine A_iald X h_this_ends (by omega) dX11_layTake_98 ?_
      refine A_iast X h_this_ends (by omega) dX11_layTake_99 ?_
      refine A_gen (fun h99 e99 k99 q99 => ?_)
      have h_this := (k99 _ (by omega)).trans h_this
      have h_this_ends := e99
      have h_this_endsRight := (k99 _ (by omega)).trans h_this_endsRight
      have h_this_takes := (k99 _ (by omega)).trans h_this_takes
      refine A_al0 X dX11_layTake_100 ?_
      refine A_getf X flX11_38 h_this rfl dX11_layTake_101 ?_
      refine A_il1 X dX11_layTake_104 ?_
      refine A_al0 X dX11_layTake_105 ?_
      refine A_getf X flX11_38 h_this rfl dX11_layTake_106 ?_
      refine A_il4 X dX11_layTake_109 ?_
      refine A_iald X h_this_endsRight (by omega) dX11_layTake_111 ?_
      refine A_iast X h_this_endsRight (by omega) dX11_layTake_112 ?_
      refine A_gen (fun h112 e112 k112 q112 => ?_)
      have h_this := (k112 _ (by omega)).trans h_this
      have h_this_ends := (k112 _ (by omega)).trans h_this_ends
      have h_this_endsRight := e112
      have h_this_takes := (k112 _ (by omega)).trans h_this_takes
      exact A_retv X dX11_layTake_113 rfl ⟨rfl, rfl, by rw [if_pos (Or.inr (by rw [if_neg (by decide)]; omega))]; exact h_this_ends, by rw [if_pos (Or.inr (by rw [if_neg (by decide)]; omega))]; exact h_this_endsRight, by rw [if_pos (Or.inr (by rw [if_neg (by decide)]; omega))]; exact h_this_takes, fun q h1 h2 h3 => by rw [k112 q h2, k99 q h1, k86 q h3]⟩
