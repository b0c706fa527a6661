/-! the reference: the soonest way -/
def anyB (p : Int → Bool) : Nat → Bool
  | 0 => false
  | j + 1 => anyB p j || p ((j : Int) + 1)
theorem anyB_cg {p q : Int → Bool} : ∀ j : Nat, (∀ r : Int, 1 ≤ r → r ≤ (j : Int) → p r = q r) → anyB p j = anyB q j
  | 0, _ => rfl
  | j + 1, h => by
    unfold anyB
    rw [anyB_cg j (fun r h1 h2 => h r h1 (by omega)), h ((j : Int) + 1) (by omega) (by omega)]
def yd (a b f : Int) : Int := if f = 0 then a else b
/-- whether so many yards can be reached by so many steps, the last run of a foot being so long -/
def rc (hp a b : Int) : Nat → Int → Int → Int → Bool
  | 0, _, r, y => decide (r = 0 ∧ y = 0)
  | k + 1, f, r, y => decide (1 ≤ r ∧ r ≤ hp + 1 ∧ yd a b f ≤ y) && (if r = 1 then rc hp a b k (1 - f) 0 (y - yd a b f) || anyB (fun q => rc hp a b k (1 - f) q (y - yd a b f)) (hp + 1).toNat else rc hp a b k f (r - 1) (y - yd a b f))
def okS (hp a b m : Int) (k : Nat) : Bool := anyB (fun q => rc hp a b k 0 q m) (hp + 1).toNat || anyB (fun q => rc hp a b k 1 q m) (hp + 1).toNat
def fnd (p : Nat → Bool) : Nat → Int
  | 0 => -9
  | j + 1 => if fnd p j = -9 then (if p (j + 1) then ((j + 1 : Nat) : Int) else -9) else fnd p j
theorem fnd_at {p : Nat → Bool} {k : Nat} (h0 : fnd p k = -9) (h1 : p (k + 1) = true) : ∀ m : Nat, fnd p (k + 1 + m) = ((k + 1 : Nat) : Int)
  | 0 => by rw [Nat.add_zero, fnd, if_pos h0, if_pos h1]
  | m + 1 => by rw [show k + 1 + (m + 1) = (k + 1 + m) + 1 from rfl, fnd, fnd_at h0 h1 m, if_neg (by omega)]
abbrev okSn (m a b : Int) : Prop := (1 ≤ m ∧ m ≤ 99) ∧ (1 ≤ a ∧ a ≤ 9) ∧ (1 ≤ b ∧ b ≤ 9)
def qSoon (fs : Int → Int) (m a b : Int) : Int := if okSn m a b then fnd (okS (fs 2) a b m) 60 else -1
set_option maxRecDepth 100000 in
theorem m_place {G : aG} {d n : Nat} {h : AH} {f r y : Int} : aD G d kX11_place [aI f, aI r, aI y] n h (some (aI (500 * f + 100 * r + y))) := by
  refine aCt_of (lv := [some (aI f), some (aI r), some (aI y)]) knX11_place.1 rfl rfl (Nat.le_of_ble_eq_true rfl) (fun x hG hsc X => ?_)
  subst hG
  refine A_sipush X dX11_place_0 ?_
  refine A_il0 X dX11_place_3 ?_
  refine A_imul X dX11_place_4 ?_
  refine A_bipush X dX11_place_5 ?_
  refine A_il1 X dX11_place_7 ?_
  refine A_imul X dX11_place_8 ?_
  refine A_iadd X dX11_place_9 ?_
  refine A_il2 X dX11_place_10 ?_
  refine A_iadd X dX11_place_11 ?_
  exact A_ret X dX11_place_12 rfl ⟨rfl, rfl, rfl⟩
def zOK (u : Int → Int) : Prop := ∀ k : Int, 0 ≤ k → k < 1000 → u k = 0 ∨ u k = 1
set_option maxRecDepth 100000 in
theorem m_anyOf {G : aG} {d n : Nat} {h : AH} {tm : Nat} {un sz sm tr ak bg mt : Int} {fs fc : Int → Int} {foot y : Int} (hc : 0 ≤ fs 2 ∧ fs 2 ≤ 3) (hf : foot = 0 ∨ foot = 1) (hy : 0 ≤ y ∧ y < 100) (hz : zOK fc) (h_this : h tm = some (aOb 11 (mO tm un sz sm tr ak bg mt))) (h_this_suit : h (tm + 1) = some (aIa G 32 fs)) (h_this_can : h (tm + 12) = some (aZa G 1000 fc)) : aD G (d + 1) kX11_anyOf [.ref tm, aI foot, aI y] n h (some (aI (bI (anyB (fun r => decide (fc (500 * foot + 100 * r + y) = 1)) (fs 2 + 1).toNat = true)))) := by
  refine aCt_of (lv := [some (.ref tm), some (aI foot), some (aI y), none, none]) knX11_anyOf.1 rfl rfl (Nat.le_of_ble_eq_true rfl) (fun x hG hsc X => ?_)
  subst hG
  obtain ⟨R, hR⟩ : ∃ R : Nat, fs 2 + 1 = (R : Int) := ⟨(fs 2 + 1).toNat, by omega⟩
  rw [show (fs 2 + 1).toNat = R by omega] at X
  refine A_iconst X dX11_anyOf_0 ?_
  refine A_is3 X dX11_anyOf_1 ?_
  refine A_iconst X dX11_anyOf_2 ?_
  refine A_is4 X dX11_anyOf_3 ?_
  refine lp_0 (P := fun i => ∀ s : Int, s = bI (anyB (fun r => decide (fc (500 * foot + 100 * r + y) = 1)) i = true) → AW x 0 0 n h 5 [some (.ref tm), some (aI foot), some (aI y), some (aI s), some (aI ((i : Int) + 1))] []) R ?_ ?_ 0 rfl
  · intro s hs
    have h01 := bI_or (p := anyB (fun r => decide (fc (500 * foot + 100 * r + y) = 1)) R = true)
    rw [← hs] at h01
    refine A_il4 X dX11_anyOf_5 ?_
    refine A_al0 X dX11_anyOf_7 ?_
    refine A_getf X flX11_7 h_this rfl dX11_anyOf_8 ?_
    refine A_iconst X dX11_anyOf_11 ?_
    refine A_iald X h_this_suit (by omega) dX11_anyOf_12 ?_
    refine A_iconst X dX11_anyOf_13 ?_
    refine A_iadd X dX11_anyOf_14 ?_
    refine A_icmp_gt (t := 49) X (by omega) (by omega) dX11_anyOf_15 (fun c15 => ?_) (fun c15 => by exfalso; omega)
    refine A_il3 X dX11_anyOf_49 ?_
    exact A_retz X dX11_anyOf_50 rfl (h01) ⟨congrArg (fun t => some (aI t)) hs, rfl, rfl⟩
  · intro i hi ih s hs
    have h01 := bI_or (p := anyB (fun r => decide (fc (500 * foot + 100 * r + y) = 1)) i = true)
    rw [← hs] at h01
    have hzz := hz (500 * foot + 100 * ((i : Int) + 1) + y) (by omega) (by omega)
    refine A_il4 X dX11_anyOf_5 ?_
    refine A_al0 X dX11_anyOf_7 ?_
    refine A_getf X flX11_7 h_this rfl dX11_anyOf_8 ?_
    refine A_iconst X dX11_anyOf_11 ?_
    refine A_iald X h_this_suit (by omega) dX11_anyOf_12 ?_
    refine A_iconst X dX11_anyOf_13 ?_
    refine A_iadd X dX11_anyOf_14 ?_
    refine A_icmp_gt (t := 49) X (by omega) (by omega) dX11_anyOf_15 (fun c15 => by exfalso; omega) (fun c15 => ?_)
    refine A_il3 X dX11_anyOf_18 ?_
    refine A_if_ne (t := 37) X (by omega) dX11_anyOf_19 (fun c19 => ?_) (fun c19 => ?_)
    · refine A_iconst X dX11_anyOf_37 ?_
      refine A_goto (t := 42) X dX11_anyOf_38 ?_
      refine A_is3 X dX11_anyOf_42 ?_
      refine A_ii4 X dX11_anyOf_43 ?_
      refine A_goto (t := 5) X dX11_anyOf_46 ?_
      exact ih _ (by
        have e : anyB (fun r => decide (fc (500 * foot + 100 * r + y) = 1)) i = true := Decidable.byContradiction fun q => by rw [bI_f q] at hs; omega
        rw [bI_t]; rw [anyB, e]; rfl)
    · refine A_al0 X dX11_anyOf_22 ?_
      refine A_getf X flX11_44 h_this rfl dX11_anyOf_23 ?_
      refine A_il1 X dX11_anyOf_26 ?_
      refine A_il4 X dX11_anyOf_27 ?_
      refine A_il2 X dX11_anyOf_29 ?_
      refine A_dSi3 X (m_place) knX11_place mlX11_191 dX11_anyOf_30 ?_
      refine A_zald X h_this_can (by omega) dX11_anyOf_33 ?_
      refine A_if_eq (t := 41) X (by omega) dX11_anyOf_34 (fun c34 => ?_) (fun c34 => ?_)
      · refine A_iconst X dX11_anyOf_41 ?_
        refine A_is3 X dX11_anyOf_42 ?_
        refine A_ii4 X dX11_anyOf_43 ?_
        refine A_goto (t := 5) X dX11_anyOf_46 ?_
        exact ih _ (by
          have e : ¬ anyB (fun r => decide (fc (500 * foot + 100 * r + y) = 1)) i = true := fun q => by rw [bI_t q] at hs; omega
          rw [bI_f]; rw [anyB, Bool.or_eq_true, decide_eq_true_eq]; exact fun q => q.elim e (fun q => by omega))
      · refine A_iconst X dX11_anyOf_37 ?_
        refine A_goto (t := 42) X dX11_anyOf_38 ?_
        refine A_is3 X dX11_anyOf_42 ?_
        refine A_ii4 X dX11_anyOf_43 ?_
        refine A_goto (t := 5) X dX11_anyOf_46 ?_
        exact ih _ (by rw [bI_t]; rw [anyB, Bool.or_eq_true, decide_eq_true_eq]; exact Or.inr (by omega))
/-- what a step more lays -/
def gQ (fc : Int → Int) (hp foot r y : Int) : Prop := (r = 1 ∧ (fc (500 * (1 - foot) + 100 * 0 + y) = 1 ∨ anyB (fun q => decide (fc (500 * (1 - foot) + 100 * q + y) = 1)) (hp + 1).toNat = true)) ∨ (1 < r ∧ fc (500 * foot + 100 * (r - 1) + y) = 1)
def gV (fc : Int → Int) (hp foot r y : Int) : Int := if r = 1 then bI (fc (500 * (1 - foot) + 100 * 0 + y) = 1 ∨ anyB (fun q => decide (fc (500 * (1 - foot) + 100 * q + y) = 1)) (hp + 1).toNat = true) else bI (fc (500 * foot + 100 * (r - 1) + y) = 1)
theorem gV_1 {fc : Int → Int} {hp foot r y : Int} (h1 : r = 1) (h2 : fc (500 * (1 - foot) + 100 * 0 + y) = 1 ∨ anyB (fun q => decide (fc (500 * (1 - foot) + 100 * q + y) = 1)) (hp + 1).toNat = true) : gV fc hp foot r y = 1 := by rw [gV, if_pos h1, bI_t h2]
theorem gV_0 {fc : Int → Int} {hp foot r y : Int} (h1 : r = 1) (h2 : ¬ (fc (500 * (1 - foot) + 100 * 0 + y) = 1 ∨ anyB (fun q => decide (fc (500 * (1 - foot) + 100 * q + y) = 1)) (hp + 1).toNat = true)) : gV fc hp foot r y = 0 := by rw [gV, if_pos h1, bI_f h2]
theorem gV_or {fc : Int → Int} {hp foot r y : Int} : gV fc hp foot r y = 0 ∨ gV fc hp foot r y = 1 := by unfold gV; split <;> exact bI_or
set_option maxRecDepth 100000 in
theorem m_goes {G : aG} {d n : Nat} {h : AH} {tm : Nat} {un sz sm tr ak bg mt : Int} {fs fc u0 : Int → Int} {foot yards : Int} (hc : 0 ≤ fs 2 ∧ fs 2 ≤ 3) (hf : foot = 0 ∨ foot = 1) (hy : 1 ≤ yards ∧ yards ≤ 9) (hz : zOK fc) (h_this : h tm = some (aOb 11 (mO tm un sz sm tr ak bg mt))) (h_this_suit : h (tm + 1) = some (aIa G 32 fs)) (h_this_can : h (tm + 12) = some (aZa G 1000 fc)) (h_this_then : h (tm + 13) = some (aZa G 1000 u0)) : aE G (d + 2) kX11_goes [.ref tm, aI foot, aI yards] n h none (fun h' => (∃ u : Int → Int, h' (tm + 13) = some (aZa G 1000 u) ∧ ∀ f r y : Int, 0 ≤ f ∧ f ≤ 1 → 0 ≤ r ∧ r ≤ 4 → 0 ≤ y ∧ y < 100 → u (500 * f + 100 * r + y) = if f = foot ∧ (1 ≤ r ∧ r ≤ fs 2 + 1) ∧ yards ≤ y then gV fc (fs 2) foot r (y - yards) else u0 (500 * f + 100 * r + y)) ∧ ∀ q, q ≠ tm + 13 → h' q = h q) := by
  refine aCt_of (lv := [some (.ref tm), some (aI foot), some (aI yards), none, none, none, none]) knX11_goes.1 rfl rfl (Nat.le_of_ble_eq_true rfl) (fun x hG hsc X => ?_)
  subst hG
  obtain ⟨Y, hY⟩ : ∃ Y : Nat, 100 - yards = (Y : Int) := ⟨(100 - yards).toNat, by omega⟩
  obtain ⟨R, hR⟩ : ∃ R : Nat, fs 2 + 1 = (R : Int) := ⟨(fs 2 + 1).toNat, by omega⟩
  refine A_iconst X dX11_goes_0 ?_
  refine A_is3 X dX11_goes_1 ?_
  refine lp_0 (P := fun i => ∀ (hh : AH) (u : Int → Int), hh (tm + 13) = some (aZa x.1 1000 u) → (∀ f r y : Int, 0 ≤ f ∧ f ≤ 1 → 0 ≤ r ∧ r ≤ 4 → 0 ≤ y ∧ y < 100 → u (500 * f + 100 * r + y) = if f = foot ∧ (1 ≤ r ∧ r ≤ fs 2 + 1) ∧ (yards ≤ y ∧ y < yards + (i : Int)) then gV fc (fs 2) foot r (y - yards) else u0 (500 * f + 100 * r + y)) → (∀ q, q ≠ tm + 13 → hh q = h q) → AW x 0 0 n hh 2 [some (.ref tm), some (aI foot), some (aI yards), some (aI (i : Int)), none, none, none] []) Y ?_ ?_ h u0 h_this_then (fun f r y _ _ _ => by rw [if_neg (by omega)]) (fun _ _ => rfl)
  · intro hh u hu hk hq
    refine A_il3 X dX11_goes_2 ?_
    refine A_il2 X dX11_goes_3 ?_
    refine A_iadd X dX11_goes_4 ?_
    refine A_bipush X dX11_goes_5 ?_
    refine A_icmp_ge (t := 129) X (by omega) (by omega) dX11_goes_7 (fun c7 => ?_) (fun c7 => by exfalso; omega)
    refine A_retv X dX11_goes_129 rfl ⟨rfl, rfl, ⟨u, hu, fun f r y h1 h2 h3 => ?_⟩, hq⟩
    rw [hk f r y h1 h2 h3]
    by_cases e : f = foot ∧ (1 ≤ r ∧ r ≤ fs 2 + 1) ∧ yards ≤ y
    · rw [if_pos (by omega), if_pos e]
    · rw [if_neg (by omega), if_neg e]
  · intro i hi ih hh u hu hk hq
    refine A_il3 X dX11_goes_2 ?_
    refine A_il2 X dX11_goes_3 ?_
    refine A_iadd X dX11_goes_4 ?_
    refine A_bipush X dX11_goes_5 ?_
    refine A_icmp_ge (t := 129) X (by omega) (by omega) dX11_goes_7 (fun c7 => by exfalso; omega) (fun c7 => ?_)
    refine A_iconst X dX11_goes_10 ?_
    refine A_is4 X dX11_goes_11 ?_
    refine lp_0 (P := fun j => ∀ (hh : AH) (u : Int → Int), hh (tm + 13) = some (aZa x.1 1000 u) → (∀ f r y : Int, 0 ≤ f ∧ f ≤ 1 → 0 ≤ r ∧ r ≤ 4 → 0 ≤ y ∧ y < 100 → u (500 * f + 100 * r + y) = if f = foot ∧ ((1 ≤ r ∧ r ≤ fs 2 + 1 ∧ yards ≤ y ∧ y < yards + (i : Int)) ∨ (1 ≤ r ∧ r ≤ (j : Int) ∧ y = yards + (i : Int))) then gV fc (fs 2) foot r (y - yards) else u0 (500 * f + 100 * r + y)) → (∀ q, q ≠ tm + 13 → hh q = h q) → AW x 0 0 n hh 13 [some (.ref tm), some (aI foot), some (aI yards), some (aI (i : Int)), some (aI ((j : Int) + 1)), none, none] []) R ?_ ?_ hh u hu (fun f r y h1 h2 h3 => ?_) hq
    · intro hh u hu hk hq
      have h_this := (hq tm (by omega)).trans h_this
      have h_this_suit := (hq (tm + 1) (by omega)).trans h_this_suit
      refine A_il4 X dX11_goes_13 ?_
      refine A_al0 X dX11_goes_15 ?_
      refine A_getf X flX11_7 h_this rfl dX11_goes_16 ?_
      refine A_iconst X dX11_goes_19 ?_
      refine A_iald X h_this_suit (by omega) dX11_goes_20 ?_
      refine A_iconst X dX11_goes_21 ?_
      refine A_iadd X dX11_goes_22 ?_
      refine A_icmp_gt (t := 123) X (by omega) (by omega) dX11_goes_23 (fun c23 => ?_) (fun c23 => by exfalso; omega)
      refine A_ii3 X dX11_goes_123 ?_
      refine A_goto (t := 2) X dX11_goes_126 ?_
      refine A_fg4 (ih hh u hu (fun f r y h1 h2 h3 => ?_) hq)
      rw [hk f r y h1 h2 h3]
      by_cases e : f = foot ∧ (1 ≤ r ∧ r ≤ fs 2 + 1) ∧ (yards ≤ y ∧ y < yards + ((i + 1 : Nat) : Int))
      · rw [if_pos (by omega), if_pos e]
      · rw [if_neg (by omega), if_neg e]
    · intro j hj ih2 hh u hu hk hq
      have h_this := (hq tm (by omega)).trans h_this
      have h_this_suit := (hq (tm + 1) (by omega)).trans h_this_suit
      have h_this_can := (hq (tm + 12) (by omega)).trans h_this_can
      have h_this_then := hu
      have hz1 := hz (500 * (1 - foot) + 100 * 0 + (i : Int)) (by omega) (by omega)
      have hz2 := fun (q : 1 ≤ (j : Int)) => hz (500 * foot + 100 * ((j : Int) + 1 - 1) + (i : Int)) (by omega) (by omega)
      have stp : ∀ (v : Int), v = gV fc (fs 2) foot ((j : Int) + 1) (i : Int) → ∀ f r y : Int, 0 ≤ f ∧ f ≤ 1 → 0 ≤ r ∧ r ≤ 4 → 0 ≤ y ∧ y < 100 → aiu u (500 * foot + 100 * ((j : Int) + 1) + ((i : Int) + yards)) v (500 * f + 100 * r + y) = if f = foot ∧ ((1 ≤ r ∧ r ≤ fs 2 + 1 ∧ yards ≤ y ∧ y < yards + (i : Int)) ∨ (1 ≤ r ∧ r ≤ ((j + 1 : Nat) : Int) ∧ y = yards + (i : Int))) then gV fc (fs 2) foot r (y - yards) else u0 (500 * f + 100 * r + y) := by
        intro v hv f r y h1 h2 h3
        unfold aiu
        by_cases e : 500 * f + 100 * r + y = 500 * foot + 100 * ((j : Int) + 1) + ((i : Int) + yards)
        · have e1 : r = (j : Int) + 1 := by omega
          have e2 : y = yards + (i : Int) := by omega
          rw [if_pos e, if_pos (by omega), hv, e1, e2, show yards + (i : Int) - yards = (i : Int) by omega]
        · rw [if_neg e, hk f r y h1 h2 h3]
          by_cases e3 : f = foot ∧ ((1 ≤ r ∧ r ≤ fs 2 + 1 ∧ yards ≤ y ∧ y < yards + (i : Int)) ∨ (1 ≤ r ∧ r ≤ (j : Int) ∧ y = yards + (i : Int)))
          · rw [if_pos e3, if_pos (by omega)]
          · rw [if_neg e3, if_neg (by omega)]
      refine A_il4 X dX11_goes_13 ?_
      refine A_al0 X dX11_goes_15 ?_
      refine A_getf X flX11_7 h_this rfl dX11_goes_16 ?_
      refine A_iconst X dX11_goes_19 ?_
      refine A_iald X h_this_suit (by omega) dX11_goes_20 ?_
      refine A_iconst X dX11_goes_21 ?_
      refine A_iadd X dX11_goes_22 ?_
      refine A_icmp_gt (t := 123) X (by omega) (by omega) dX11_goes_23 (fun c23 => by exfalso; omega) (fun c23 => ?_)
      refine A_il1 X dX11_goes_26 ?_
      refine A_il4 X dX11_goes_27 ?_
      refine A_il3 X dX11_goes_29 ?_
      refine A_il2 X dX11_goes_30 ?_
      refine A_iadd X dX11_goes_31 ?_
      refine A_dSi3 X (m_place) knX11_place mlX11_191 dX11_goes_32 ?_
      refine A_is5 X dX11_goes_35 ?_
      refine A_il4 X dX11_goes_37 ?_
      refine A_iconst X dX11_goes_39 ?_
      refine A_icmp_ne (t := 74) X (by omega) (by omega) dX11_goes_40 (fun c40 => ?_) (fun c40 => ?_)
      · refine A_iconst X dX11_goes_74 ?_
        refine A_is6 X dX11_goes_75 ?_
        refine A_al0 X dX11_goes_77 ?_
        refine A_getf X flX11_47 h_this rfl dX11_goes_78 ?_
        refine A_il5 X dX11_goes_81 ?_
        refine A_il6 X dX11_goes_83 ?_
        refine A_if_ne (t := 111) X (by omega) dX11_goes_85 (fun c85 => by exfalso; omega) (fun c85 => ?_)
        refine A_il4 X dX11_goes_88 ?_
        refine A_iconst X dX11_goes_90 ?_
        refine A_icmp_le (t := 115) X (by omega) (by omega) dX11_goes_91 (fun c91 => ?_) (fun c91 => ?_)
        · refine A_iconst X dX11_goes_115 ?_
          refine A_zast X h_this_then (by omega) (by omega) dX11_goes_116 ?_
          refine A_gen (fun h116 e116 k116 q116 => ?_)
          refine A_ii4 X dX11_goes_117 ?_
          refine A_goto (t := 13) X dX11_goes_120 ?_
          exact A_fg5 (A_fg6 (ih2 h116 _ e116 (stp _ (by exfalso; omega)) (fun q hqb => (k116 q hqb).trans (hq q hqb))))
        · refine A_al0 X dX11_goes_94 ?_
          refine A_getf X flX11_44 h_this rfl dX11_goes_95 ?_
          refine A_il1 X dX11_goes_98 ?_
          refine A_il4 X dX11_goes_99 ?_
          refine A_iconst X dX11_goes_101 ?_
          refine A_isub X dX11_goes_102 ?_
          refine A_il3 X dX11_goes_103 ?_
          refine A_dSi3 X (m_place) knX11_place mlX11_191 dX11_goes_104 ?_
          refine A_zald X h_this_can (by omega) dX11_goes_107 ?_
          refine A_if_eq (t := 115) X (by have := hz2 (by omega); omega) dX11_goes_108 (fun c108 => ?_) (fun c108 => ?_)
          · refine A_iconst X dX11_goes_115 ?_
            refine A_zast X h_this_then (by omega) (by omega) dX11_goes_116 ?_
            refine A_gen (fun h116 e116 k116 q116 => ?_)
            refine A_ii4 X dX11_goes_117 ?_
            refine A_goto (t := 13) X dX11_goes_120 ?_
            exact A_fg5 (A_fg6 (ih2 h116 _ e116 (stp _ (by rw [gV, if_neg (by omega), bI_f (by omega)])) (fun q hqb => (k116 q hqb).trans (hq q hqb))))
          · refine A_iconst X dX11_goes_111 ?_
            refine A_goto (t := 116) X dX11_goes_112 ?_
            refine A_zast X h_this_then (by omega) (by omega) dX11_goes_116 ?_
            refine A_gen (fun h116 e116 k116 q116 => ?_)
            refine A_ii4 X dX11_goes_117 ?_
            refine A_goto (t := 13) X dX11_goes_120 ?_
            exact A_fg5 (A_fg6 (ih2 h116 _ e116 (stp _ (by have := hz2 (by omega); rw [gV, if_neg (by omega), bI_t (by omega)])) (fun q hqb => (k116 q hqb).trans (hq q hqb))))
      · refine A_al0 X dX11_goes_43 ?_
        refine A_getf X flX11_44 h_this rfl dX11_goes_44 ?_
        refine A_iconst X dX11_goes_47 ?_
        refine A_il1 X dX11_goes_48 ?_
        refine A_isub X dX11_goes_49 ?_
        refine A_iconst X dX11_goes_50 ?_
        refine A_il3 X dX11_goes_51 ?_
        refine A_dSi3 X (m_place) knX11_place mlX11_191 dX11_goes_52 ?_
        refine A_zald X h_this_can (by omega) dX11_goes_55 ?_
        refine A_if_ne (t := 70) X (by omega) dX11_goes_56 (fun c56 => ?_) (fun c56 => ?_)
        · refine A_iconst X dX11_goes_70 ?_
          refine A_goto (t := 75) X dX11_goes_71 ?_
          refine A_is6 X dX11_goes_75 ?_
          refine A_al0 X dX11_goes_77 ?_
          refine A_getf X flX11_47 h_this rfl dX11_goes_78 ?_
          refine A_il5 X dX11_goes_81 ?_
          refine A_il6 X dX11_goes_83 ?_
          refine A_if_ne (t := 111) X (by omega) dX11_goes_85 (fun c85 => ?_) (fun c85 => by exfalso; omega)
          refine A_iconst X dX11_goes_111 ?_
          refine A_goto (t := 116) X dX11_goes_112 ?_
          refine A_zast X h_this_then (by omega) (by omega) dX11_goes_116 ?_
          refine A_gen (fun h116 e116 k116 q116 => ?_)
          refine A_ii4 X dX11_goes_117 ?_
          refine A_goto (t := 13) X dX11_goes_120 ?_
          exact A_fg5 (A_fg6 (ih2 h116 _ e116 (stp _ ((gV_1 (by omega) (Or.inl (by omega))).symm)) (fun q hqb => (k116 q hqb).trans (hq q hqb))))
        · refine A_al0 X dX11_goes_59 ?_
          refine A_iconst X dX11_goes_60 ?_
          refine A_il1 X dX11_goes_61 ?_
          refine A_isub X dX11_goes_62 ?_
          refine A_il3 X dX11_goes_63 ?_
          refine A_dVi2 X (m_anyOf hc (by omega) (by omega) hz h_this h_this_suit h_this_can) h_this knX11_anyOf mlX11_194 dX11_goes_64 ?_
          refine A_ifb_eq (t := 74) X dX11_goes_67 (fun c67 => ?_) (fun c67 => ?_)
          · refine A_iconst X dX11_goes_74 ?_
            refine A_is6 X dX11_goes_75 ?_
            refine A_al0 X dX11_goes_77 ?_
            refine A_getf X flX11_47 h_this rfl dX11_goes_78 ?_
            refine A_il5 X dX11_goes_81 ?_
            refine A_il6 X dX11_goes_83 ?_
            refine A_if_ne (t := 111) X (by omega) dX11_goes_85 (fun c85 => by exfalso; omega) (fun c85 => ?_)
            refine A_il4 X dX11_goes_88 ?_
            refine A_iconst X dX11_goes_90 ?_
            refine A_icmp_le (t := 115) X (by omega) (by omega) dX11_goes_91 (fun c91 => ?_) (fun c91 => ?_)
            · refine A_iconst X dX11_goes_115 ?_
              refine A_zast X h_this_then (by omega) (by omega) dX11_goes_116 ?_
              refine A_gen (fun h116 e116 k116 q116 => ?_)
              refine A_ii4 X dX11_goes_117 ?_
              refine A_goto (t := 13) X dX11_goes_120 ?_
              exact A_fg5 (A_fg6 (ih2 h116 _ e116 (stp _ ((gV_0 (by omega) (fun q => q.elim (fun q => by omega) c67)).symm)) (fun q hqb => (k116 q hqb).trans (hq q hqb))))
            · refine A_al0 X dX11_goes_94 ?_
              refine A_getf X flX11_44 h_this rfl dX11_goes_95 ?_
              refine A_il1 X dX11_goes_98 ?_
              refine A_il4 X dX11_goes_99 ?_
              refine A_iconst X dX11_goes_101 ?_
              refine A_isub X dX11_goes_102 ?_
              refine A_il3 X dX11_goes_103 ?_
              refine A_dSi3 X (m_place) knX11_place mlX11_191 dX11_goes_104 ?_
              refine A_zald X h_this_can (by omega) dX11_goes_107 ?_
              refine A_if_eq (t := 115) X (by have := hz2 (by omega); omega) dX11_goes_108 (fun c108 => ?_) (fun c108 => ?_)
              · refine A_iconst X dX11_goes_115 ?_
                refine A_zast X h_this_then (by omega) (by omega) dX11_goes_116 ?_
                refine A_gen (fun h116 e116 k116 q116 => ?_)
                refine A_ii4 X dX11_goes_117 ?_
                refine A_goto (t := 13) X dX11_goes_120 ?_
                exact A_fg5 (A_fg6 (ih2 h116 _ e116 (stp _ (by exfalso; omega)) (fun q hqb => (k116 q hqb).trans (hq q hqb))))
              · refine A_iconst X dX11_goes_111 ?_
                refine A_goto (t := 116) X dX11_goes_112 ?_
                refine A_zast X h_this_then (by omega) (by omega) dX11_goes_116 ?_
                refine A_gen (fun h116 e116 k116 q116 => ?_)
                refine A_ii4 X dX11_goes_117 ?_
                refine A_goto (t := 13) X dX11_goes_120 ?_
                exact A_fg5 (A_fg6 (ih2 h116 _ e116 (stp _ (by exfalso; omega)) (fun q hqb => (k116 q hqb).trans (hq q hqb))))
          · refine A_iconst X dX11_goes_70 ?_
            refine A_goto (t := 75) X dX11_goes_71 ?_
            refine A_is6 X dX11_goes_75 ?_
            refine A_al0 X dX11_goes_77 ?_
            refine A_getf X flX11_47 h_this rfl dX11_goes_78 ?_
            refine A_il5 X dX11_goes_81 ?_
            refine A_il6 X dX11_goes_83 ?_
            refine A_if_ne (t := 111) X (by omega) dX11_goes_85 (fun c85 => ?_) (fun c85 => by exfalso; omega)
            refine A_iconst X dX11_goes_111 ?_
            refine A_goto (t := 116) X dX11_goes_112 ?_
            refine A_zast X h_this_then (by omega) (by omega) dX11_goes_116 ?_
            refine A_gen (fun h116 e116 k116 q116 => ?_)
            refine A_ii4 X dX11_goes_117 ?_
            refine A_goto (t := 13) X dX11_goes_120 ?_
            exact A_fg5 (A_fg6 (ih2 h116 _ e116 (stp _ ((gV_1 (by omega) (Or.inr c67)).symm)) (fun q hqb => (k116 q hqb).trans (hq q hqb))))
    · rw [hk f r y h1 h2 h3]
      by_cases e : f = foot ∧ (1 ≤ r ∧ r ≤ fs 2 + 1) ∧ (yards ≤ y ∧ y < yards + (i : Int))
      · rw [if_pos e, if_pos (by omega)]
      · rw [if_neg e, if_neg (by omega)]
/-- the invariant of the soonest way: what can be reached by so many steps -/
def cnI (hp a b : Int) (k : Nat) (fc : Int → Int) : Prop := ∀ f r y : Int, 0 ≤ f ∧ f ≤ 1 → 0 ≤ r ∧ r ≤ 4 → 0 ≤ y ∧ y < 100 → fc (500 * f + 100 * r + y) = bI (rc hp a b k f r y = true)
theorem cnI_z {hp a b : Int} {k : Nat} {fc : Int → Int} (h : cnI hp a b k fc) : zOK fc := by
  intro q h1 h2
  have e : q = 500 * (q / 500) + 100 * (q % 500 / 100) + q % 100 := by omega
  rw [e, h (q / 500) (q % 500 / 100) (q % 100) (by omega) (by omega) (by omega)]
  exact bI_or
theorem cnI_any {hp a b : Int} (hc : 0 ≤ hp ∧ hp ≤ 3) {k : Nat} {fc : Int → Int} (h : cnI hp a b k fc) {f y : Int} (hf : 0 ≤ f ∧ f ≤ 1) (hy : 0 ≤ y ∧ y < 100) : anyB (fun r => decide (fc (500 * f + 100 * r + y) = 1)) (hp + 1).toNat = anyB (fun r => rc hp a b k f r y) (hp + 1).toNat := by
  refine anyB_cg _ (fun r h1 h2 => ?_)
  rw [h f r y hf (by omega) hy]
  by_cases e : rc hp a b k f r y = true
  · rw [bI_t e, e]; rfl
  · rw [bI_f e, Bool.eq_false_iff.mpr e]; rfl
theorem cnI_s {hp a b : Int} (hc : 0 ≤ hp ∧ hp ≤ 3) (ha : 1 ≤ a ∧ a ≤ 9) (hb : 1 ≤ b ∧ b ≤ 9) {k : Nat} {fc u1 u2 : Int → Int} (h : cnI hp a b k fc)
    (h1 : ∀ f r y : Int, 0 ≤ f ∧ f ≤ 1 → 0 ≤ r ∧ r ≤ 4 → 0 ≤ y ∧ y < 100 → u1 (500 * f + 100 * r + y) = if f = 0 ∧ (1 ≤ r ∧ r ≤ hp + 1) ∧ a ≤ y then gV fc hp 0 r (y - a) else 0)
    (h2 : ∀ f r y : Int, 0 ≤ f ∧ f ≤ 1 → 0 ≤ r ∧ r ≤ 4 → 0 ≤ y ∧ y < 100 → u2 (500 * f + 100 * r + y) = if f = 1 ∧ (1 ≤ r ∧ r ≤ hp + 1) ∧ b ≤ y then gV fc hp 1 r (y - b) else u1 (500 * f + 100 * r + y)) : cnI hp a b (k + 1) u2 := by
  have key : ∀ f r y : Int, 0 ≤ f ∧ f ≤ 1 → 1 ≤ r ∧ r ≤ hp + 1 → yd a b f ≤ y → y < 100 → gV fc hp f r (y - yd a b f) = bI (rc hp a b (k + 1) f r y = true) := by
    intro f r y hf hr hy hy2
    have hyd : 1 ≤ yd a b f := by unfold yd; split <;> omega
    have e0 : rc hp a b (k + 1) f r y = (if r = 1 then rc hp a b k (1 - f) 0 (y - yd a b f) || anyB (fun q => rc hp a b k (1 - f) q (y - yd a b f)) (hp + 1).toNat else rc hp a b k f (r - 1) (y - yd a b f)) := by
      rw [rc, decide_eq_true (by omega), Bool.true_and]
    rw [e0]
    unfold gV
    by_cases hr1 : r = 1
    · rw [if_pos hr1, if_pos hr1, cnI_any hc h (by omega) (by omega), h (1 - f) 0 (y - yd a b f) (by omega) (by omega) (by omega)]
      refine bI_cg ?_
      rw [Bool.or_eq_true]
      refine or_congr ⟨fun q => Decidable.byContradiction fun q2 => by rw [bI_f q2] at q; omega, fun q => bI_t q⟩ Iff.rfl
    · rw [if_neg hr1, if_neg hr1, h f (r - 1) (y - yd a b f) hf (by omega) (by omega)]
      refine bI_cg ⟨fun q => Decidable.byContradiction fun q2 => by rw [bI_f q2] at q; omega, fun q => bI_t q⟩
  intro f r y hf hr hy
  rw [h2 f r y hf hr hy, h1 f r y hf hr hy]
  rcases (show f = 0 ∨ f = 1 by omega) with e | e
  · subst e
    rw [if_neg (by omega)]
    have e1 : yd a b 0 = a := rfl
    by_cases hh : (1 ≤ r ∧ r ≤ hp + 1) ∧ a ≤ y
    · rw [if_pos ⟨rfl, hh⟩, ← key 0 r y (by omega) hh.1 (by rw [e1]; exact hh.2) hy.2, e1]
    · rw [if_neg (fun q => hh q.2), bI_f]
      rw [rc, Bool.and_eq_true, decide_eq_true_eq, e1]
      exact fun q => hh ⟨⟨q.1.1, q.1.2.1⟩, q.1.2.2⟩
  · subst e
    have e1 : yd a b 1 = b := rfl
    by_cases hh : (1 ≤ r ∧ r ≤ hp + 1) ∧ b ≤ y
    · rw [if_pos ⟨rfl, hh⟩, ← key 1 r y (by omega) hh.1 (by rw [e1]; exact hh.2) hy.2, e1]
    · rw [if_neg (fun q => hh q.2), if_neg (by omega), bI_f]
      rw [rc, Bool.and_eq_true, decide_eq_true_eq, e1]
      exact fun q => hh ⟨⟨q.1.1, q.1.2.1⟩, q.1.2.2⟩
