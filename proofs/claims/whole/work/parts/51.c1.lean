/-! the class: suits read, steps -/
set_option maxRecDepth 100000 in
theorem c_valueOf {G : aG} {d n : Nat} {h : AH} {su : Nat} {fs : Int → Int} {side s : Int} (set : Nat) (hsv : s = (set : Int)) (hs : side = 0 ∨ side = 1) (hg : 0 ≤ fs 0 ∧ fs 0 ≤ 6) (hset : set < al fs) (hC : suC G h su fs) : aD G (d + 1) kX6_valueOf [.ref su, aI side, aI s] n h (some (aI (vl fs side set))) := by
  obtain ⟨fw, fq, fm, fv, hA, hr, hv⟩ := hC
  obtain ⟨h_this, h_this_worth, h_this_pairSet, h_this_more, h_this_value⟩ := hA
  have hb := al_b hg
  subst hsv
  refine aCt_of (lv := [some (.ref su), some (aI side), some (aI (set : Int))]) knX6_valueOf.1 rfl rfl (Nat.le_of_ble_eq_true rfl) (fun x hG hsc X => ?_)
  subst hG
  refine A_il1 X dX6_valueOf_0 ?_
  refine A_dSNi1 X (c_isSide (by omega)) knX10_isSide mlX6_51 dX6_valueOf_1 ?_
  refine A_ifb_eq (t := 31) X dX6_valueOf_4 (fun c4 => by exact absurd hs c4) (fun c4 => ?_)
  refine A_il2 X dX6_valueOf_7 ?_
  refine A_if_lt (t := 31) X (by omega) dX6_valueOf_8 (fun c8 => by exfalso; omega) (fun c8 => ?_)
  refine A_il2 X dX6_valueOf_11 ?_
  refine A_bipush X dX6_valueOf_12 ?_
  refine A_icmp_ge (t := 31) X (by omega) (by omega) dX6_valueOf_14 (fun c14 => by exfalso; omega) (fun c14 => ?_)
  refine A_al0 X dX6_valueOf_17 ?_
  refine A_getf X flX6_21 h_this rfl dX6_valueOf_18 ?_
  refine A_il1 X dX6_valueOf_21 ?_
  refine A_bipush X dX6_valueOf_22 ?_
  refine A_imul X dX6_valueOf_24 ?_
  refine A_il2 X dX6_valueOf_25 ?_
  refine A_iadd X dX6_valueOf_26 ?_
  refine A_iald X h_this_value (by omega) dX6_valueOf_27 ?_
  refine A_goto (t := 32) X dX6_valueOf_28 ?_
  exact A_ret X dX6_valueOf_32 rfl ⟨congrArg (fun t => some (aI t)) (by rw [hv side set hs hset]), rfl, rfl⟩
theorem xr_lt {fs : Int → Int} {r : Nat} (hr : r < al fs) : (al fs - 1) ^^^ r < al fs := by
  unfold al at hr ⊢
  exact Nat.xor_lt_two_pow (by have := Nat.one_le_two_pow (n := (fs 0).toNat); omega) hr
theorem bt9 : ∀ g, g < 7 → ∀ r, r < 64 → r < 2 ^ g → (2 ^ g - 1) &&& r = r := by decide +kernel
theorem cm_x {fs : Int → Int} (hg : 0 ≤ fs 0 ∧ fs 0 ≤ 6) {r : Nat} (hr : r < al fs) : (al fs - 1) ^^^ r = cm fs r := by
  have hb := al_b hg
  unfold cm
  rw [show (al fs - 1) &&& r = r from bt9 (fs 0).toNat (by omega) r (by omega) hr]
theorem cm_lt {fs : Int → Int} (hg : 0 ≤ fs 0 ∧ fs 0 ≤ 6) {r : Nat} (hr : r < al fs) : cm fs r < al fs := by
  rw [← cm_x hg hr]
  exact xr_lt hr
def oI (fs : Int → Int) (side : Int) (r : Nat) : Nat := if side = 1 then r else cm fs r
theorem oI_lt {fs : Int → Int} (hg : 0 ≤ fs 0 ∧ fs 0 ≤ 6) {side : Int} {r : Nat} (hr : r < al fs) : oI fs side r < al fs := by
  unfold oI
  split
  · exact hr
  · exact cm_lt hg hr
theorem c_all2 {G : aG} {d n : Nat} {h : AH} {su : Nat} {fs : Int → Int} (hg : 0 ≤ fs 0 ∧ fs 0 ≤ 6) (hC : suC G h su fs) : aD G d kX6_all [.ref su] n h (some (aI ((al fs - 1 : Nat) : Int))) := by
  obtain ⟨fw, fq, fm, fv, hA, hr, hv⟩ := hC
  exact c_all hg hA
set_option maxRecDepth 100000 in
theorem c_ownIn {G : aG} {d n : Nat} {h : AH} {su : Nat} {fs : Int → Int} {side s : Int} (r : Nat) (hsv : s = (r : Int)) (hs : side = 0 ∨ side = 1) (hg : 0 ≤ fs 0 ∧ fs 0 ≤ 6) (hr : r < al fs) (hC : suC G h su fs) : aD G (d + 1) kX6_ownIn [.ref su, aI side, aI s] n h (some (aI ((oI fs side r : Nat) : Int))) := by
  have h_this : ∃ g p hp c : Int, h su = some (aOb 6 (sO su g p hp c)) := by
    obtain ⟨fw, fq, fm, fv, hA, -, -⟩ := hC
    exact ⟨_, _, _, _, hA.1⟩
  obtain ⟨g0, p0, hp0, c0, h_this⟩ := h_this
  have hb := al_b hg
  subst hsv
  refine aCt_of (lv := [some (.ref su), some (aI side), some (aI (r : Int))]) knX6_ownIn.1 rfl rfl (Nat.le_of_ble_eq_true rfl) (fun x hG hsc X => ?_)
  subst hG
  refine A_il1 X dX6_ownIn_0 ?_
  refine A_iconst X dX6_ownIn_1 ?_
  refine A_icmp_ne (t := 9) X (by omega) (by omega) dX6_ownIn_2 (fun c2 => ?_) (fun c2 => ?_)
  · refine A_al0 X dX6_ownIn_9 ?_
    refine A_dVi0 X (c_all2 hg hC) h_this knX6_all mlX6_40 dX6_ownIn_10 ?_
    refine A_il2 X dX6_ownIn_13 ?_
    refine A_ixor X (al fs - 1) r rfl rfl dX6_ownIn_14 ?_
    exact A_ret X dX6_ownIn_15 rfl ⟨congrArg (fun t => some (aI t)) (by rw [oI, if_neg c2, cm_x hg hr]), rfl, rfl⟩
  · refine A_il2 X dX6_ownIn_5 ?_
    refine A_goto (t := 15) X dX6_ownIn_6 ?_
    exact A_ret X dX6_ownIn_15 rfl ⟨congrArg (fun t => some (aI t)) (by rw [oI, if_pos c2]), rfl, rfl⟩
set_option maxRecDepth 100000 in
theorem c_cellBehind {G : aG} {d n : Nat} {h : AH} {su : Nat} {fs : Int → Int} {a : Int} (hc : 1 ≤ fs 3 ∧ fs 3 ≤ 6) (ha : 0 ≤ a ∧ a < 1000) (hC : suC G h su fs) : aD G d kX6_cellBehind [.ref su, aI a] n h (some (aI (a % fs 3))) := by
  obtain ⟨fw, fq, fm, fv, hA, hr, hv⟩ := hC
  obtain ⟨h_this, h_this_worth, h_this_pairSet, h_this_more, h_this_value⟩ := hA
  refine aCt_of (lv := [some (.ref su), some (aI a)]) knX6_cellBehind.1 rfl rfl (Nat.le_of_ble_eq_true rfl) (fun x hG hsc X => ?_)
  subst hG
  refine A_al0 X dX6_cellBehind_0 ?_
  refine A_getf X flX6_37 h_this rfl dX6_cellBehind_1 ?_
  refine A_iconst X dX6_cellBehind_4 ?_
  refine A_icmp_ge (t := 12) X (by omega) (by omega) dX6_cellBehind_5 (fun c5 => ?_) (fun c5 => by exfalso; omega)
  refine A_il1 X dX6_cellBehind_12 ?_
  refine A_al0 X dX6_cellBehind_13 ?_
  refine A_getf X flX6_37 h_this rfl dX6_cellBehind_14 ?_
  refine A_irem X (by omega) (by omega) dX6_cellBehind_17 ?_
  exact A_ret X dX6_cellBehind_18 rfl ⟨rfl, rfl, rfl⟩
/-- how worn a cell is behind so many steps -/
def wr (m cell c : Int) : Int := if m ≤ cell then 0 else (m - cell + c - 1) / c
set_option maxRecDepth 100000 in
theorem c_wear {G : aG} {d n : Nat} {h : AH} {su : Nat} {fs : Int → Int} {m cell : Int} (hc : 1 ≤ fs 3 ∧ fs 3 ≤ 6) (hm : -1000 ≤ m ∧ m < 1000) (hce : 0 ≤ cell ∧ cell < 1000) (hC : suC G h su fs) : aD G d kX6_wear [.ref su, aI m, aI cell] n h (some (aI (wr m cell (fs 3)))) := by
  obtain ⟨fw, fq, fm, fv, hA, hr, hv⟩ := hC
  obtain ⟨h_this, h_this_worth, h_this_pairSet, h_this_more, h_this_value⟩ := hA
  refine aCt_of (lv := [some (.ref su), some (aI m), some (aI cell)]) knX6_wear.1 rfl rfl (Nat.le_of_ble_eq_true rfl) (fun x hG hsc X => ?_)
  subst hG
  refine A_al0 X dX6_wear_0 ?_
  refine A_getf X flX6_37 h_this rfl dX6_wear_1 ?_
  refine A_iconst X dX6_wear_4 ?_
  refine A_icmp_lt (t := 13) X (by omega) (by omega) dX6_wear_5 (fun c5 => by exfalso; omega) (fun c5 => ?_)
  refine A_il1 X dX6_wear_8 ?_
  refine A_il2 X dX6_wear_9 ?_
  refine A_icmp_gt (t := 17) X (by omega) (by omega) dX6_wear_10 (fun c10 => ?_) (fun c10 => ?_)
  · refine A_il1 X dX6_wear_17 ?_
    refine A_il2 X dX6_wear_18 ?_
    refine A_isub X dX6_wear_19 ?_
    refine A_al0 X dX6_wear_20 ?_
    refine A_getf X flX6_37 h_this rfl dX6_wear_21 ?_
    refine A_iadd X dX6_wear_24 ?_
    refine A_iconst X dX6_wear_25 ?_
    refine A_isub X dX6_wear_26 ?_
    refine A_al0 X dX6_wear_27 ?_
    refine A_getf X flX6_37 h_this rfl dX6_wear_28 ?_
    refine A_idiv X (by omega) (by omega) dX6_wear_31 ?_
    exact A_ret X dX6_wear_32 rfl ⟨congrArg (fun t => some (aI t)) (by rw [wr, if_neg (by omega)]), rfl, rfl⟩
  · refine A_iconst X dX6_wear_13 ?_
    refine A_goto (t := 32) X dX6_wear_14 ?_
    exact A_ret X dX6_wear_32 rfl ⟨congrArg (fun t => some (aI t)) (by rw [wr, if_pos (by omega)]), rfl, rfl⟩
theorem wr_s {m cell c : Int} (hm : 0 ≤ m) (hc : 1 ≤ c ∧ c ≤ 6) (hce : 0 ≤ cell ∧ cell < c) : wr (m + 1) cell c = wr m cell c + (if m % c = cell then 1 else 0) := by
  unfold wr
  rcases (show c = 1 ∨ c = 2 ∨ c = 3 ∨ c = 4 ∨ c = 5 ∨ c = 6 by omega) with e | e | e | e | e | e <;> subst e <;> (repeat' split) <;> omega
theorem wrn_wr {ft : Nat → Int} {c foot cell : Int} (hc : 1 ≤ c ∧ c ≤ 6) (hce : 0 ≤ cell ∧ cell < c) : ∀ k : Nat, wrn ft c foot cell k = wr (cnt ft foot k) cell c
  | 0 => by
    rw [wrn, cnt, wr, if_pos (by omega)]
  | k + 1 => by
    have ih := wrn_wr (ft := ft) (foot := foot) hc hce k
    have hb := cnt_b ft foot k
    rw [wrn, cnt, ih]
    by_cases h1 : ft k = foot
    · rw [if_pos h1, wr_s hb.1 hc hce]
      by_cases h2 : cnt ft foot k % c = cell
      · rw [if_pos ⟨h1, h2⟩, if_pos h2]
      · rw [if_neg (fun q => h2 q.2), if_neg h2]
    · rw [if_neg h1, if_neg (fun q => h1 q.1), Int.add_zero, Int.add_zero]
/-! steps, owners -/
def nO (r : Nat) (st fl : Int) : List Value := [.ref (r + 1), .ref (r + 2), aI st, aI fl]
abbrev fN (ff : Int → Int) : Nat → Int := fun i => ff (i : Int)
set_option maxRecDepth 100000 in
theorem c_whose {G : aG} {d n : Nat} {h : AH} {r : Nat} {st fl : Int} {fo : Int → Int} {g : Int} (hg : 0 ≤ g ∧ g < 6) (h_this : h r = some (aOb 3 (nO r st fl))) (h_this_owner : h (r + 1) = some (aIa G 6 fo)) : aD G d kX3_whose [.ref r, aI g] n h (some (aI (fo g))) := by
  refine aCt_of (lv := [some (.ref r), some (aI g)]) knX3_whose.1 rfl rfl (Nat.le_of_ble_eq_true rfl) (fun x hG hsc X => ?_)
  subst hG
  refine A_il1 X dX3_whose_0 ?_
  refine A_if_lt (t := 19) X (by omega) dX3_whose_1 (fun c1 => by exfalso; omega) (fun c1 => ?_)
  refine A_il1 X dX3_whose_4 ?_
  refine A_bipush X dX3_whose_5 ?_
  refine A_icmp_ge (t := 19) X (by omega) (by omega) dX3_whose_7 (fun c7 => by exfalso; omega) (fun c7 => ?_)
  refine A_al0 X dX3_whose_10 ?_
  refine A_getf X flX3_9 h_this rfl dX3_whose_11 ?_
  refine A_il1 X dX3_whose_14 ?_
  refine A_iald X h_this_owner (by omega) dX3_whose_15 ?_
  refine A_goto (t := 20) X dX3_whose_16 ?_
  exact A_ret X dX3_whose_20 rfl ⟨rfl, rfl, rfl⟩
set_option maxRecDepth 100000 in
theorem c_put {G : aG} {d n : Nat} {h : AH} {r : Nat} {st fl : Int} {fo : Int → Int} {g to : Int} (hg : 0 ≤ g ∧ g < 6) (h_this : h r = some (aOb 3 (nO r st fl))) (h_this_owner : h (r + 1) = some (aIa G 6 fo)) : aE G d kX3_put [.ref r, aI g, aI to] n h none (fun h' => h' (r + 1) = some (aIa G 6 (aiu fo g to)) ∧ ∀ q, q ≠ r + 1 → h' q = h q) := by
  refine aCt_of (lv := [some (.ref r), some (aI g), some (aI to)]) knX3_put.1 rfl rfl (Nat.le_of_ble_eq_true rfl) (fun x hG hsc X => ?_)
  subst hG
  refine A_il1 X dX3_put_0 ?_
  refine A_if_lt (t := 17) X (by omega) dX3_put_1 (fun c1 => by exfalso; omega) (fun c1 => ?_)
  refine A_il1 X dX3_put_4 ?_
  refine A_bipush X dX3_put_5 ?_
  refine A_icmp_ge (t := 17) X (by omega) (by omega) dX3_put_7 (fun c7 => by exfalso; omega) (fun c7 => ?_)
  refine A_al0 X dX3_put_10 ?_
  refine A_getf X flX3_9 h_this rfl dX3_put_11 ?_
  refine A_il1 X dX3_put_14 ?_
  refine A_il2 X dX3_put_15 ?_
  refine A_iast X h_this_owner (by omega) dX3_put_16 ?_
  refine A_gen (fun h16 e16 k16 q16 => ?_)
  exact A_retv X dX3_put_17 rfl ⟨rfl, rfl, e16, k16⟩
set_option maxRecDepth 100000 in
theorem c_setOf {G : aG} {d n : Nat} {h : AH} {r : Nat} {st fl : Int} {fo : Int → Int} {w g : Int} (k : Nat) (hk : g = (k : Int)) (h6 : k ≤ 6) (hw : inR w) (hfo : ∀ k : Int, 0 ≤ k → k < 6 → 0 ≤ fo k ∧ fo k ≤ 2) (h_this : h r = some (aOb 3 (nO r st fl))) (h_this_owner : h (r + 1) = some (aIa G 6 fo)) : aD G d kX3_setOf [.ref r, aI w, aI g] n h (some (aI ((gO fo w k : Nat) : Int))) := by
  subst hk
  refine aCt_of (lv := [some (.ref r), some (aI w), some (aI (k : Int)), none, none]) knX3_setOf.1 rfl rfl (Nat.le_of_ble_eq_true rfl) (fun x hG hsc X => ?_)
  subst hG
  refine A_iconst X dX3_setOf_0 ?_
  refine A_is3 X dX3_setOf_1 ?_
  refine A_iconst X dX3_setOf_2 ?_
  refine A_is4 X dX3_setOf_3 ?_
  refine lp_0 (P := fun i => ∀ s : Nat, s = gO fo w i → AW x 0 0 n h 5 [some (.ref r), some (aI w), some (aI (k : Int)), some (aI (s : Int)), some (aI (i : Int))] []) k ?_ ?_ 0 rfl
  · intro s hs
    refine A_il4 X dX3_setOf_5 ?_
    refine A_il2 X dX3_setOf_7 ?_
    refine A_icmp_ge (t := 42) X (by omega) (by omega) dX3_setOf_8 (fun c8 => ?_) (fun c8 => by exfalso; omega)
    refine A_il3 X dX3_setOf_42 ?_
    exact A_ret X dX3_setOf_43 rfl ⟨congrArg (fun t => some (aI t)) (by rw [hs]), rfl, rfl⟩
  · intro i hi ih s hs
    have hb := hfo (i : Int) (by omega) (by omega)
    refine A_il4 X dX3_setOf_5 ?_
    refine A_il2 X dX3_setOf_7 ?_
    refine A_icmp_ge (t := 42) X (by omega) (by omega) dX3_setOf_8 (fun c8 => by exfalso; omega) (fun c8 => ?_)
    refine A_il4 X dX3_setOf_11 ?_
    refine A_bipush X dX3_setOf_13 ?_
    refine A_icmp_ge (t := 42) X (by omega) (by omega) dX3_setOf_15 (fun c15 => by exfalso; omega) (fun c15 => ?_)
    refine A_al0 X dX3_setOf_18 ?_
    refine A_getf X flX3_9 h_this rfl dX3_setOf_19 ?_
    refine A_il4 X dX3_setOf_22 ?_
    refine A_iald X h_this_owner (by omega) dX3_setOf_24 ?_
    refine A_il1 X dX3_setOf_25 ?_
    refine A_icmp_ne (t := 36) X (by omega) (by omega) dX3_setOf_26 (fun c26 => ?_) (fun c26 => ?_)
    · refine A_ii4 X dX3_setOf_36 ?_
      refine A_goto (t := 5) X dX3_setOf_39 ?_
      exact ih _ (by rw [hs, gO, if_neg c26, Nat.or_zero])
    · refine A_il3 X dX3_setOf_29 ?_
      refine A_iconst X dX3_setOf_30 ?_
      refine A_il4 X dX3_setOf_31 ?_
      refine A_ishl X 1 i rfl rfl (by omega) (by have := p2b (show i ≤ 6 by omega); omega) dX3_setOf_33 ?_
      refine A_ior X s (1 * 2 ^ i) rfl rfl dX3_setOf_34 ?_
      refine A_is3 X dX3_setOf_35 ?_
      refine A_ii4 X dX3_setOf_36 ?_
      refine A_goto (t := 5) X dX3_setOf_39 ?_
      exact ih _ (by rw [hs, gO, if_pos c26])
set_option maxRecDepth 100000 in
theorem c_walk {G : aG} {d n : Nat} {h : AH} {r : Nat} {st fl : Int} {ff : Int → Int} {foot : Int} (hst : 0 ≤ st ∧ st ≤ 60) (h_this : h r = some (aOb 3 (nO r st fl))) (h_this_feet : h (r + 2) = some (aIa G 60 ff)) : aE G d kX3_walk [.ref r, aI foot] n h (some (aI (bI (st < 60)))) (fun h' => h' r = some (aOb 3 (nO r (if st < 60 then st + 1 else st) fl)) ∧ h' (r + 2) = some (aIa G 60 (if st < 60 then aiu ff st foot else ff)) ∧ ∀ q, q ≠ r → q ≠ r + 2 → h' q = h q) := by
  refine aCt_of (lv := [some (.ref r), some (aI foot)]) knX3_walk.1 rfl rfl (Nat.le_of_ble_eq_true rfl) (fun x hG hsc X => ?_)
  subst hG
  refine A_al0 X dX3_walk_0 ?_
  refine A_getf X flX3_18 h_this rfl dX3_walk_1 ?_
  refine A_if_lt (t := 16) X (by omega) dX3_walk_4 (fun c4 => by exfalso; omega) (fun c4 => ?_)
  refine A_al0 X dX3_walk_7 ?_
  refine A_getf X flX3_18 h_this rfl dX3_walk_8 ?_
  refine A_bipush X dX3_walk_11 ?_
  refine A_icmp_lt (t := 18) X (by omega) (by omega) dX3_walk_13 (fun c13 => ?_) (fun c13 => ?_)
  · refine A_al0 X dX3_walk_18 ?_
    refine A_getf X flX3_15 h_this rfl dX3_walk_19 ?_
    refine A_al0 X dX3_walk_22 ?_
    refine A_getf X flX3_18 h_this rfl dX3_walk_23 ?_
    refine A_il1 X dX3_walk_26 ?_
    refine A_iast X h_this_feet (by omega) dX3_walk_27 ?_
    refine A_gen (fun h27 e27 k27 q27 => ?_)
    have h_this := (k27 _ (by omega)).trans h_this
    have h_this_feet := e27
    refine A_al0 X dX3_walk_28 ?_
    refine A_dup X dX3_walk_29 ?_
    refine A_getf X flX3_18 h_this rfl dX3_walk_30 ?_
    refine A_iconst X dX3_walk_33 ?_
    refine A_iadd X dX3_walk_34 ?_
    refine A_putf X flX3_18 h_this dX3_walk_35 ?_
    refine A_gen (fun h35 e35 k35 q35 => ?_)
    have h_this := e35
    have h_this_feet := (k35 _ (by omega)).trans h_this_feet
    refine A_iconst X dX3_walk_38 ?_
    exact A_retz X dX3_walk_39 rfl (Or.inr rfl) ⟨bI_1 (by omega), rfl, by rw [if_pos (by omega)]; exact h_this, by rw [if_pos (by omega)]; exact h_this_feet, fun q h1 h2 => by rw [k35 q h1, k27 q h2]⟩
  · refine A_iconst X dX3_walk_16 ?_
    exact A_retz X dX3_walk_17 rfl (Or.inl rfl) ⟨bI_0 (by omega), rfl, by rw [if_neg (by omega)]; exact h_this, by rw [if_neg (by omega)]; exact h_this_feet, fun _ _ _ => rfl⟩
set_option maxRecDepth 100000 in
theorem c_unwalk {G : aG} {d n : Nat} {h : AH} {r : Nat} {st fl : Int} (hst : 0 ≤ st ∧ st ≤ 60) (h_this : h r = some (aOb 3 (nO r st fl))) : aE G d kX3_unwalk [.ref r] n h none (fun h' => h' r = some (aOb 3 (nO r (if 0 < st then st - 1 else st) fl)) ∧ ∀ q, q ≠ r → h' q = h q) := by
  refine aCt_of (lv := [some (.ref r)]) knX3_unwalk.1 rfl rfl (Nat.le_of_ble_eq_true rfl) (fun x hG hsc X => ?_)
  subst hG
  refine A_al0 X dX3_unwalk_0 ?_
  refine A_getf X flX3_18 h_this rfl dX3_unwalk_1 ?_
  refine A_if_le (t := 17) X (by omega) dX3_unwalk_4 (fun c4 => ?_) (fun c4 => ?_)
  · exact A_retv X dX3_unwalk_17 rfl ⟨rfl, rfl, by rw [if_neg (by omega)]; exact h_this, fun _ _ => rfl⟩
  · refine A_al0 X dX3_unwalk_7 ?_
    refine A_dup X dX3_unwalk_8 ?_
    refine A_getf X flX3_18 h_this rfl dX3_unwalk_9 ?_
    refine A_iconst X dX3_unwalk_12 ?_
    refine A_isub X dX3_unwalk_13 ?_
    refine A_putf X flX3_18 h_this dX3_unwalk_14 ?_
    refine A_gen (fun h14 e14 k14 q14 => ?_)
    have h_this := e14
    exact A_retv X dX3_unwalk_17 rfl ⟨rfl, rfl, by rw [if_pos (by omega)]; exact h_this, k14⟩
set_option maxRecDepth 100000 in
theorem c_footOf {G : aG} {d n : Nat} {h : AH} {r : Nat} {st fl : Int} {ff : Int → Int} {i : Int} (hi : 0 ≤ i ∧ i < 60) (h_this : h r = some (aOb 3 (nO r st fl))) (h_this_feet : h (r + 2) = some (aIa G 60 ff)) : aD G d kX3_footOf [.ref r, aI i] n h (some (aI (ff i))) := by
  refine aCt_of (lv := [some (.ref r), some (aI i)]) knX3_footOf.1 rfl rfl (Nat.le_of_ble_eq_true rfl) (fun x hG hsc X => ?_)
  subst hG
  refine A_il1 X dX3_footOf_0 ?_
  refine A_if_lt (t := 19) X (by omega) dX3_footOf_1 (fun c1 => by exfalso; omega) (fun c1 => ?_)
  refine A_il1 X dX3_footOf_4 ?_
  refine A_bipush X dX3_footOf_5 ?_
  refine A_icmp_ge (t := 19) X (by omega) (by omega) dX3_footOf_7 (fun c7 => by exfalso; omega) (fun c7 => ?_)
  refine A_al0 X dX3_footOf_10 ?_
  refine A_getf X flX3_15 h_this rfl dX3_footOf_11 ?_
  refine A_il1 X dX3_footOf_14 ?_
  refine A_iald X h_this_feet (by omega) dX3_footOf_15 ?_
  refine A_goto (t := 21) X dX3_footOf_16 ?_
  exact A_ret X dX3_footOf_21 rfl ⟨rfl, rfl, rfl⟩
def fOK (ff : Int → Int) (k : Nat) : Prop := ∀ i : Int, 0 ≤ i → i < (k : Int) → ff i = 0 ∨ ff i = 1
set_option maxRecDepth 100000 in
theorem c_stepsOf {G : aG} {d n : Nat} {h : AH} {r : Nat} {st fl : Int} {ff : Int → Int} {foot : Int} (k : Nat) (hk : st = (k : Int)) (hk6 : k ≤ 60) (hf01 : fOK ff k) (hf : inR foot) (h_this : h r = some (aOb 3 (nO r st fl))) (h_this_feet : h (r + 2) = some (aIa G 60 ff)) : aD G (d + 1) kX3_stepsOf [.ref r, aI foot] n h (some (aI (cnt (fN ff) foot k))) := by
  subst hk
  refine aCt_of (lv := [some (.ref r), some (aI foot), none, none]) knX3_stepsOf.1 rfl rfl (Nat.le_of_ble_eq_true rfl) (fun x hG hsc X => ?_)
  subst hG
  refine A_iconst X dX3_stepsOf_0 ?_
  refine A_is2 X dX3_stepsOf_1 ?_
  refine A_iconst X dX3_stepsOf_2 ?_
  refine A_is3 X dX3_stepsOf_3 ?_
  refine lp_0 (P := fun i => ∀ s : Int, s = cnt (fN ff) foot i → AW x 0 0 n h 4 [some (.ref r), some (aI foot), some (aI s), some (aI (i : Int))] []) k ?_ ?_ 0 rfl
  · intro s hs
    refine A_il3 X dX3_stepsOf_4 ?_
    refine A_al0 X dX3_stepsOf_5 ?_
    refine A_getf X flX3_18 h_this rfl dX3_stepsOf_6 ?_
    refine A_icmp_ge (t := 30) X (by omega) (by omega) dX3_stepsOf_9 (fun c9 => ?_) (fun c9 => by exfalso; omega)
    refine A_il2 X dX3_stepsOf_30 ?_
    exact A_ret X dX3_stepsOf_31 rfl ⟨congrArg (fun t => some (aI t)) (by rw [hs]), rfl, rfl⟩
  · intro i hi ih s hs
    have hb := hf01 (i : Int) (by omega) (by omega)
    refine A_il3 X dX3_stepsOf_4 ?_
    refine A_al0 X dX3_stepsOf_5 ?_
    refine A_getf X flX3_18 h_this rfl dX3_stepsOf_6 ?_
    refine A_icmp_ge (t := 30) X (by omega) (by omega) dX3_stepsOf_9 (fun c9 => by exfalso; omega) (fun c9 => ?_)
    refine A_al0 X dX3_stepsOf_12 ?_
    refine A_il3 X dX3_stepsOf_13 ?_
    refine A_dVi1 X (c_footOf (by omega) h_this h_this_feet) h_this knX3_footOf mlX3_28 dX3_stepsOf_14 ?_
    refine A_il1 X dX3_stepsOf_17 ?_
    refine A_icmp_ne (t := 24) X (by omega) (by omega) dX3_stepsOf_18 (fun c18 => ?_) (fun c18 => ?_)
    · refine A_ii3 X dX3_stepsOf_24 ?_
      refine A_goto (t := 4) X dX3_stepsOf_27 ?_
      exact ih _ (by rw [hs, cnt, if_neg c18, Int.add_zero])
    · refine A_ii2 X dX3_stepsOf_21 ?_
      refine A_ii3 X dX3_stepsOf_24 ?_
      refine A_goto (t := 4) X dX3_stepsOf_27 ?_
      exact ih _ (by rw [hs, cnt, if_pos c18])
set_option maxRecDepth 100000 in
theorem c_changesAt {G : aG} {d n : Nat} {h : AH} {r : Nat} {st fl : Int} {ff : Int → Int} {z : Int} (i : Nat) (hz : z = (i : Int)) (hi : (i : Int) < 60) (hb : ∀ j : Int, 0 ≤ j → j ≤ (i : Int) → ff j = 0 ∨ ff j = 1) (h_this : h r = some (aOb 3 (nO r st fl))) (h_this_feet : h (r + 2) = some (aIa G 60 ff)) : aD G (d + 1) kX3_changesAt [.ref r, aI z] n h (some (aI (bI (0 < i ∧ ¬ smB (fN ff) i)))) := by
  subst hz
  refine aCt_of (lv := [some (.ref r), some (aI (i : Int))]) knX3_changesAt.1 rfl rfl (Nat.le_of_ble_eq_true rfl) (fun x hG hsc X => ?_)
  subst hG
  have h1 := hb (i : Int) (by omega) (by omega)
  have h2 := fun q : 0 < i => hb ((i : Int) - 1) (by omega) (by omega)
  have e : 0 < i → fN ff (i - 1) = ff ((i : Int) - 1) := fun q => by show ff ((i - 1 : Nat) : Int) = _; rw [show ((i - 1 : Nat) : Int) = (i : Int) - 1 by omega]
  refine A_il1 X dX3_changesAt_0 ?_
  refine A_if_le (t := 23) X (by omega) dX3_changesAt_1 (fun c1 => ?_) (fun c1 => ?_)
  · refine A_iconst X dX3_changesAt_23 ?_
    exact A_retz X dX3_changesAt_24 rfl (Or.inl rfl) ⟨bI_0 (fun q => by omega), rfl, rfl⟩
  · refine A_al0 X dX3_changesAt_4 ?_
    refine A_il1 X dX3_changesAt_5 ?_
    refine A_dVi1 X (c_footOf (by omega) h_this h_this_feet) h_this knX3_footOf mlX3_28 dX3_changesAt_6 ?_
    refine A_al0 X dX3_changesAt_9 ?_
    refine A_il1 X dX3_changesAt_10 ?_
    refine A_iconst X dX3_changesAt_11 ?_
    refine A_isub X dX3_changesAt_12 ?_
    refine A_dVi1 X (c_footOf (by omega) h_this h_this_feet) h_this knX3_footOf mlX3_28 dX3_changesAt_13 ?_
    refine A_icmp_eq (t := 23) X (by omega) (by have := h2 (by omega); omega) dX3_changesAt_16 (fun c16 => ?_) (fun c16 => ?_)
    · refine A_iconst X dX3_changesAt_23 ?_
      exact A_retz X dX3_changesAt_24 rfl (Or.inl rfl) ⟨bI_0 (fun q => q.2 ⟨q.1, by rw [e q.1]; exact c16⟩), rfl, rfl⟩
    · refine A_iconst X dX3_changesAt_19 ?_
      refine A_goto (t := 24) X dX3_changesAt_20 ?_
      exact A_retz X dX3_changesAt_24 rfl (Or.inr rfl) ⟨bI_1 (⟨by omega, fun q => c16 (by have := q.2; rw [e q.1] at this; exact this)⟩), rfl, rfl⟩
theorem rnC_at {ft : Nat → Int} {hp : Int} {i : Nat} (h : rnC ft hp (i + 1) = (i : Int)) : ∀ m : Nat, rnC ft hp (i + 1 + m) = (i : Int)
  | 0 => h
  | m + 1 => by
    rw [show i + 1 + (m + 1) = (i + 1 + m) + 1 from rfl, rnC, rnC_at h m, if_neg (by omega)]
theorem rnL_s (ft : Nat → Int) (k : Nat) : rnL ft (k + 1) = if 0 < k ∧ ¬ smB ft k then 1 else rnL ft k + 1 := by
  rw [rnL]
  by_cases h : smB ft k
  · rw [if_pos h, if_neg (fun q => q.2 h)]
  · rw [if_neg h]
    by_cases h0 : 0 < k
    · rw [if_pos ⟨h0, h⟩]
    · rw [if_neg (fun q => h0 q.1)]
      obtain rfl : k = 0 := by omega
      rfl
set_option maxRecDepth 100000 in
theorem c_firstRunOver {G : aG} {d n : Nat} {h : AH} {r : Nat} {st fl : Int} {ff : Int → Int} {hp : Int} (k : Nat) (hk : st = (k : Int)) (hk6 : k ≤ 60) (hf01 : fOK ff k) (hhp : 0 ≤ hp ∧ hp ≤ 3) (h_this : h r = some (aOb 3 (nO r st fl))) (h_this_feet : h (r + 2) = some (aIa G 60 ff)) : aD G (d + 2) kX3_firstRunOver [.ref r, aI (hp + 1)] n h (some (aI (rnC (fN ff) hp k))) := by
  subst hk
  refine aCt_of (lv := [some (.ref r), some (aI (hp + 1)), none, none]) knX3_firstRunOver.1 rfl rfl (Nat.le_of_ble_eq_true rfl) (fun x hG hsc X => ?_)
  subst hG
  refine A_iconst X dX3_firstRunOver_0 ?_
  refine A_is2 X dX3_firstRunOver_1 ?_
  refine A_iconst X dX3_firstRunOver_2 ?_
  refine A_is3 X dX3_firstRunOver_3 ?_
  refine lp_0 (P := fun i => ∀ s : Int, s = rnL (fN ff) i → rnC (fN ff) hp i = -9 → AW x 0 0 n h 4 [some (.ref r), some (aI (hp + 1)), some (aI s), some (aI (i : Int))] []) k ?_ ?_ 0 rfl rfl
  · intro s hs hc
    refine A_il3 X dX3_firstRunOver_4 ?_
    refine A_al0 X dX3_firstRunOver_5 ?_
    refine A_getf X flX3_18 h_this rfl dX3_firstRunOver_6 ?_
    refine A_icmp_ge (t := 41) X (by omega) (by omega) dX3_firstRunOver_9 (fun c9 => ?_) (fun c9 => by exfalso; omega)
    refine A_bipush X dX3_firstRunOver_41 ?_
    exact A_ret X dX3_firstRunOver_43 rfl ⟨congrArg (fun t => some (aI t)) (by rw [hc]), rfl, rfl⟩
  · intro i hi ih s hs hc
    obtain ⟨b1, -, -, -⟩ := rn_b (fN ff) hp i
    have eL := rnL_s (fN ff) i
    refine A_il3 X dX3_firstRunOver_4 ?_
    refine A_al0 X dX3_firstRunOver_5 ?_
    refine A_getf X flX3_18 h_this rfl dX3_firstRunOver_6 ?_
    refine A_icmp_ge (t := 41) X (by omega) (by omega) dX3_firstRunOver_9 (fun c9 => by exfalso; omega) (fun c9 => ?_)
    refine A_al0 X dX3_firstRunOver_12 ?_
    refine A_il3 X dX3_firstRunOver_13 ?_
    refine A_dVi1 X (c_changesAt i rfl (by omega) (fun j h1 h2 => hf01 j h1 (by omega)) h_this h_this_feet) h_this knX3_changesAt mlX3_32 dX3_firstRunOver_14 ?_
    refine A_ifb_eq (t := 24) X dX3_firstRunOver_17 (fun c17 => ?_) (fun c17 => ?_)
    · refine A_il2 X dX3_firstRunOver_24 ?_
      refine A_iconst X dX3_firstRunOver_25 ?_
      refine A_iadd X dX3_firstRunOver_26 ?_
      refine A_is2 X dX3_firstRunOver_27 ?_
      refine A_il2 X dX3_firstRunOver_28 ?_
      refine A_il1 X dX3_firstRunOver_29 ?_
      refine A_icmp_le (t := 35) X (by omega) (by omega) dX3_firstRunOver_30 (fun c30 => ?_) (fun c30 => ?_)
      · refine A_ii3 X dX3_firstRunOver_35 ?_
        refine A_goto (t := 4) X dX3_firstRunOver_38 ?_
        exact ih _ (by rw [eL, if_neg c17, hs]) (by rw [rnC, if_neg (fun q => by omega)]; exact hc)
      · refine A_il3 X dX3_firstRunOver_33 ?_
        exact A_ret X dX3_firstRunOver_34 rfl ⟨congrArg (fun t => some (aI t)) (by rw [if_neg c17] at eL; have e1 : rnC (fN ff) hp (i + 1) = (i : Int) := (by rw [rnC, if_pos ⟨hc, by refine Decidable.byContradiction fun q => ?_; rw [rnL, if_neg q] at eL; omega, by omega⟩]); have := rnC_at e1 (k - (i + 1)); rw [show i + 1 + (k - (i + 1)) = k by omega] at this; exact this.symm), rfl, rfl⟩
    · refine A_iconst X dX3_firstRunOver_20 ?_
      refine A_goto (t := 27) X dX3_firstRunOver_21 ?_
      refine A_is2 X dX3_firstRunOver_27 ?_
      refine A_il2 X dX3_firstRunOver_28 ?_
      refine A_il1 X dX3_firstRunOver_29 ?_
      refine A_icmp_le (t := 35) X (by omega) (by omega) dX3_firstRunOver_30 (fun c30 => ?_) (fun c30 => ?_)
      · refine A_ii3 X dX3_firstRunOver_35 ?_
        refine A_goto (t := 4) X dX3_firstRunOver_38 ?_
        exact ih _ (by rw [eL, if_pos c17]) (by rw [rnC, if_neg (fun q => c17.2 q.2.1)]; exact hc)
      · refine A_il3 X dX3_firstRunOver_33 ?_
        exact A_ret X dX3_firstRunOver_34 rfl ⟨congrArg (fun t => some (aI t)) (by exfalso; omega), rfl, rfl⟩
set_option maxRecDepth 100000 in
theorem c_longestRun {G : aG} {d n : Nat} {h : AH} {r : Nat} {st fl : Int} {ff : Int → Int} (k : Nat) (hk : st = (k : Int)) (hk6 : k ≤ 60) (hf01 : fOK ff k) (h_this : h r = some (aOb 3 (nO r st fl))) (h_this_feet : h (r + 2) = some (aIa G 60 ff)) : aD G (d + 2) kX3_longestRun [.ref r] n h (some (aI (rnM (fN ff) k))) := by
  subst hk
  refine aCt_of (lv := [some (.ref r), none, none, none]) knX3_longestRun.1 rfl rfl (Nat.le_of_ble_eq_true rfl) (fun x hG hsc X => ?_)
  subst hG
  refine A_iconst X dX3_longestRun_0 ?_
  refine A_is1 X dX3_longestRun_1 ?_
  refine A_iconst X dX3_longestRun_2 ?_
  refine A_is2 X dX3_longestRun_3 ?_
  refine A_iconst X dX3_longestRun_4 ?_
  refine A_is3 X dX3_longestRun_5 ?_
  refine lp_0 (P := fun i => ∀ s t : Int, s = rnL (fN ff) i → t = rnM (fN ff) i → AW x 0 0 n h 6 [some (.ref r), some (aI s), some (aI t), some (aI (i : Int))] []) k ?_ ?_ 0 0 rfl rfl
  · intro s t hs ht
    refine A_il3 X dX3_longestRun_6 ?_
    refine A_al0 X dX3_longestRun_7 ?_
    refine A_getf X flX3_18 h_this rfl dX3_longestRun_8 ?_
    refine A_icmp_ge (t := 42) X (by omega) (by omega) dX3_longestRun_11 (fun c11 => ?_) (fun c11 => by exfalso; omega)
    refine A_il2 X dX3_longestRun_42 ?_
    exact A_ret X dX3_longestRun_43 rfl ⟨congrArg (fun t => some (aI t)) (by rw [ht]), rfl, rfl⟩
  · intro i hi ih s t hs ht
    obtain ⟨b1, -, b3, -⟩ := rn_b (fN ff) 0 i
    have eL := rnL_s (fN ff) i
    refine A_il3 X dX3_longestRun_6 ?_
    refine A_al0 X dX3_longestRun_7 ?_
    refine A_getf X flX3_18 h_this rfl dX3_longestRun_8 ?_
    refine A_icmp_ge (t := 42) X (by omega) (by omega) dX3_longestRun_11 (fun c11 => by exfalso; omega) (fun c11 => ?_)
    refine A_al0 X dX3_longestRun_14 ?_
    refine A_il3 X dX3_longestRun_15 ?_
    refine A_dVi1 X (c_changesAt i rfl (by omega) (fun j h1 h2 => hf01 j h1 (by omega)) h_this h_this_feet) h_this knX3_changesAt mlX3_32 dX3_longestRun_16 ?_
    refine A_ifb_eq (t := 26) X dX3_longestRun_19 (fun c19 => ?_) (fun c19 => ?_)
    · refine A_il1 X dX3_longestRun_26 ?_
      refine A_iconst X dX3_longestRun_27 ?_
      refine A_iadd X dX3_longestRun_28 ?_
      refine A_is1 X dX3_longestRun_29 ?_
      refine A_il2 X dX3_longestRun_30 ?_
      refine A_il1 X dX3_longestRun_31 ?_
      refine A_mmax X (by omega) (by omega) mlX3_36 dX3_longestRun_32 ?_
      refine A_is2 X dX3_longestRun_35 ?_
      refine A_ii3 X dX3_longestRun_36 ?_
      refine A_goto (t := 6) X dX3_longestRun_39 ?_
      exact ih _ _ (by rw [eL, if_neg c19, hs]) (by rw [rnM, eL, if_neg c19, ht, hs]; split <;> omega)
    · refine A_iconst X dX3_longestRun_22 ?_
      refine A_goto (t := 29) X dX3_longestRun_23 ?_
      refine A_is1 X dX3_longestRun_29 ?_
      refine A_il2 X dX3_longestRun_30 ?_
      refine A_il1 X dX3_longestRun_31 ?_
      refine A_mmax X (by omega) (by omega) mlX3_36 dX3_longestRun_32 ?_
      refine A_is2 X dX3_longestRun_35 ?_
      refine A_ii3 X dX3_longestRun_36 ?_
      refine A_goto (t := 6) X dX3_longestRun_39 ?_
      exact ih _ _ (by rw [eL, if_pos c19]) (by rw [rnM, eL, if_pos c19, ht]; split <;> omega)
set_option maxRecDepth 100000 in
theorem c_changes {G : aG} {d n : Nat} {h : AH} {r : Nat} {st fl : Int} {ff : Int → Int} (k : Nat) (hk : st = (k : Int)) (hk6 : k ≤ 60) (hf01 : fOK ff k) (h_this : h r = some (aOb 3 (nO r st fl))) (h_this_feet : h (r + 2) = some (aIa G 60 ff)) : aD G (d + 2) kX3_changes [.ref r] n h (some (aI (rnD (fN ff) k))) := by
  subst hk
  refine aCt_of (lv := [some (.ref r), none, none]) knX3_changes.1 rfl rfl (Nat.le_of_ble_eq_true rfl) (fun x hG hsc X => ?_)
  subst hG
  refine A_iconst X dX3_changes_0 ?_
  refine A_is1 X dX3_changes_1 ?_
  refine A_iconst X dX3_changes_2 ?_
  refine A_is2 X dX3_changes_3 ?_
  refine lp_0 (P := fun i => ∀ s : Int, s = rnD (fN ff) i → AW x 0 0 n h 4 [some (.ref r), some (aI s), some (aI (i : Int))] []) k ?_ ?_ 0 rfl
  · intro s hs
    refine A_il2 X dX3_changes_4 ?_
    refine A_al0 X dX3_changes_5 ?_
    refine A_getf X flX3_18 h_this rfl dX3_changes_6 ?_
    refine A_icmp_ge (t := 29) X (by omega) (by omega) dX3_changes_9 (fun c9 => ?_) (fun c9 => by exfalso; omega)
    refine A_il1 X dX3_changes_29 ?_
    exact A_ret X dX3_changes_30 rfl ⟨congrArg (fun t => some (aI t)) (by rw [hs]), rfl, rfl⟩
  · intro i hi ih s hs
    refine A_il2 X dX3_changes_4 ?_
    refine A_al0 X dX3_changes_5 ?_
    refine A_getf X flX3_18 h_this rfl dX3_changes_6 ?_
    refine A_icmp_ge (t := 29) X (by omega) (by omega) dX3_changes_9 (fun c9 => by exfalso; omega) (fun c9 => ?_)
    refine A_al0 X dX3_changes_12 ?_
    refine A_il2 X dX3_changes_13 ?_
    refine A_dVi1 X (c_changesAt i rfl (by omega) (fun j h1 h2 => hf01 j h1 (by omega)) h_this h_this_feet) h_this knX3_changesAt mlX3_32 dX3_changes_14 ?_
    refine A_ifb_eq (t := 23) X dX3_changes_17 (fun c17 => ?_) (fun c17 => ?_)
    · refine A_ii2 X dX3_changes_23 ?_
      refine A_goto (t := 4) X dX3_changes_26 ?_
      exact ih _ (by rw [hs, rnD, if_neg c17, Int.add_zero])
    · refine A_ii1 X dX3_changes_20 ?_
      refine A_ii2 X dX3_changes_23 ?_
      refine A_goto (t := 4) X dX3_changes_26 ?_
      exact ih _ (by rw [hs, rnD, if_pos c17])
