/-! the class: reading items -/
/-- a suit's cells, whatever they tell -/
def suX (G : aG) (h : AH) (su : Nat) : Prop := ∃ (a b c d : Int) (fw fq fm fv : Int → Int), h su = some (aOb 6 (sO su a b c d)) ∧ h (su + 1) = some (aIa G 12 fw) ∧ h (su + 2) = some (aIa G 4 fq) ∧ h (su + 3) = some (aIa G 8 fm) ∧ h (su + 4) = some (aIa G 128 fv)
/-- a suit as it was read: its values are not weighed yet -/
def suW (G : aG) (h : AH) (su : Nat) (fs : Int → Int) : Prop := ∃ fw fq fm fv : Int → Int, suA G h su fs fw fq fm fv ∧ suR fs fw fq fm
theorem suW_x {G : aG} {h : AH} {su : Nat} {fs : Int → Int} (hW : suW G h su fs) : suX G h su := by
  obtain ⟨fw, fq, fm, fv, ⟨a1, a2, a3, a4, a5⟩, -⟩ := hW
  exact ⟨_, _, _, _, fw, fq, fm, fv, a1, a2, a3, a4, a5⟩
theorem suW_fr {G : aG} {h h' : AH} {su : Nat} {fs : Int → Int} (hC : suW G h su fs) (hq : ∀ q, su ≤ q → q < su + 5 → h' q = h q) : suW G h' su fs := by
  obtain ⟨fw, fq, fm, fv, ⟨a1, a2, a3, a4, a5⟩, hr⟩ := hC
  exact ⟨fw, fq, fm, fv, ⟨(hq _ (by omega) (by omega)).trans a1, (hq _ (by omega) (by omega)).trans a2, (hq _ (by omega) (by omega)).trans a3, (hq _ (by omega) (by omega)).trans a4, (hq _ (by omega) (by omega)).trans a5⟩, hr⟩
theorem suX_fr {G : aG} {h h' : AH} {su : Nat} (hC : suX G h su) (hq : ∀ q, su ≤ q → q < su + 5 → h' q = h q) : suX G h' su := by
  obtain ⟨a, b, c, d, fw, fq, fm, fv, a1, a2, a3, a4, a5⟩ := hC
  exact ⟨a, b, c, d, fw, fq, fm, fv, (hq _ (by omega) (by omega)).trans a1, (hq _ (by omega) (by omega)).trans a2, (hq _ (by omega) (by omega)).trans a3, (hq _ (by omega) (by omega)).trans a4, (hq _ (by omega) (by omega)).trans a5⟩
set_option maxRecDepth 100000 in
theorem s_begin {G : aG} {d n : Nat} {h : AH} {su : Nat} (hX : suX G h su) : aE G d kX6_begin [.ref su] n h none (fun h' => suW G h' su clF ∧ ∀ q, q ≠ su → h' q = h q) := by
  obtain ⟨a, b, c, e, fw, fq, fm, fv, h_this, a2, a3, a4, a5⟩ := hX
  refine aCt_of (lv := [some (.ref su)]) knX6_begin.1 rfl rfl (Nat.le_of_ble_eq_true rfl) (fun x hG hsc X => ?_)
  subst hG
  refine A_al0 X dX6_begin_0 ?_
  refine A_iconst X dX6_begin_1 ?_
  refine A_putf X flX6_27 h_this dX6_begin_2 ?_
  refine A_gen (fun h2 e2 k2 q2 => ?_)
  have h_this := e2
  refine A_al0 X dX6_begin_5 ?_
  refine A_iconst X dX6_begin_6 ?_
  refine A_putf X flX6_31 h_this dX6_begin_7 ?_
  refine A_gen (fun h7 e7 k7 q7 => ?_)
  have h_this := e7
  refine A_al0 X dX6_begin_10 ?_
  refine A_iconst X dX6_begin_11 ?_
  refine A_putf X flX6_34 h_this dX6_begin_12 ?_
  refine A_gen (fun h12 e12 k12 q12 => ?_)
  have h_this := e12
  refine A_al0 X dX6_begin_15 ?_
  refine A_bipush X dX6_begin_16 ?_
  refine A_putf X flX6_37 h_this dX6_begin_18 ?_
  refine A_gen (fun h18 e18 k18 q18 => ?_)
  have h_this := e18
  refine A_retv X dX6_begin_21 rfl ⟨rfl, rfl, ?_, fun q h1 => by rw [k18 q h1, k12 q h1, k7 q h1, k2 q h1]⟩
  have hq : ∀ q, q ≠ su → h18 q = h q := fun q h1 => by rw [k18 q h1, k12 q h1, k7 q h1, k2 q h1]
  exact ⟨fw, fq, fm, fv, ⟨h_this, (hq _ (by omega)).trans a2, (hq _ (by omega)).trans a3, (hq _ (by omega)).trans a4, (hq _ (by omega)).trans a5⟩, fun side k _ h1 h2 => absurd h2 (by simp [clF]; omega), fun p h1 h2 => absurd h2 (by simp [clF]; omega), fun side p _ h1 h2 => absurd h2 (by simp [clF]; omega)⟩
def gdF (fr : Int → Int) (v1 v2 : Int) : Int → Int := aiu (aiu (aiu fr (4 + fr 0) v1) (10 + fr 0) v2) 0 (fr 0 + 1)
def prF (fr : Int → Int) (v1 v2 v3 v4 : Int) : Int → Int := aiu (aiu (aiu (aiu (aiu fr (16 + fr 1) v1) (20 + fr 1) v2) (24 + fr 1) v3) (28 + fr 1) v4) 1 (fr 1 + 1)
set_option maxRecDepth 100000 in
theorem s_addGood {G : aG} {d n : Nat} {h : AH} {su : Nat} {fr : Int → Int} {v1 v2 : Int} (h0 : 0 ≤ fr 0 ∧ fr 0 < 6) (h1 : 0 ≤ fr 1 ∧ fr 1 ≤ 4) (hv1 : inR v1) (hv2 : inR v2) (hW : suW G h su fr) : aE G d kX6_addGood [.ref su, aI v1, aI v2] n h none (fun h' => suW G h' su (gdF fr v1 v2) ∧ ∀ q, (q < su ∨ su + 5 ≤ q) → h' q = h q) := by
  obtain ⟨fw, fq, fm, fv, ⟨h_this, h_this_worth, h_this_pairSet, h_this_more, h_this_value⟩, hr⟩ := hW
  refine aCt_of (lv := [some (.ref su), some (aI v1), some (aI v2)]) knX6_addGood.1 rfl rfl (Nat.le_of_ble_eq_true rfl) (fun x hG hsc X => ?_)
  subst hG
  refine A_al0 X dX6_addGood_0 ?_
  refine A_getf X flX6_27 h_this rfl dX6_addGood_1 ?_
  refine A_if_lt (t := 16) X (by omega) dX6_addGood_4 (fun c4 => by exfalso; omega) (fun c4 => ?_)
  refine A_al0 X dX6_addGood_7 ?_
  refine A_getf X flX6_27 h_this rfl dX6_addGood_8 ?_
  refine A_bipush X dX6_addGood_11 ?_
  refine A_icmp_lt (t := 17) X (by omega) (by omega) dX6_addGood_13 (fun c13 => ?_) (fun c13 => by exfalso; omega)
  refine A_al0 X dX6_addGood_17 ?_
  refine A_getf X flX6_9 h_this rfl dX6_addGood_18 ?_
  refine A_al0 X dX6_addGood_21 ?_
  refine A_getf X flX6_27 h_this rfl dX6_addGood_22 ?_
  refine A_il1 X dX6_addGood_25 ?_
  refine A_iast X h_this_worth (by omega) dX6_addGood_26 ?_
  refine A_gen (fun h26 e26 k26 q26 => ?_)
  have h_this := (k26 _ (by omega)).trans h_this
  have h_this_worth := e26
  have h_this_pairSet := (k26 _ (by omega)).trans h_this_pairSet
  have h_this_more := (k26 _ (by omega)).trans h_this_more
  have h_this_value := (k26 _ (by omega)).trans h_this_value
  refine A_al0 X dX6_addGood_27 ?_
  refine A_getf X flX6_9 h_this rfl dX6_addGood_28 ?_
  refine A_bipush X dX6_addGood_31 ?_
  refine A_al0 X dX6_addGood_33 ?_
  refine A_getf X flX6_27 h_this rfl dX6_addGood_34 ?_
  refine A_iadd X dX6_addGood_37 ?_
  refine A_il2 X dX6_addGood_38 ?_
  refine A_iast X h_this_worth (by omega) dX6_addGood_39 ?_
  refine A_gen (fun h39 e39 k39 q39 => ?_)
  have h_this := (k39 _ (by omega)).trans h_this
  have h_this_worth := e39
  have h_this_pairSet := (k39 _ (by omega)).trans h_this_pairSet
  have h_this_more := (k39 _ (by omega)).trans h_this_more
  have h_this_value := (k39 _ (by omega)).trans h_this_value
  refine A_al0 X dX6_addGood_40 ?_
  refine A_dup X dX6_addGood_41 ?_
  refine A_getf X flX6_27 h_this rfl dX6_addGood_42 ?_
  refine A_iconst X dX6_addGood_45 ?_
  refine A_iadd X dX6_addGood_46 ?_
  refine A_putf X flX6_27 h_this dX6_addGood_47 ?_
  refine A_gen (fun h47 e47 k47 q47 => ?_)
  have h_this := e47
  have h_this_worth := (k47 _ (by omega)).trans h_this_worth
  have h_this_pairSet := (k47 _ (by omega)).trans h_this_pairSet
  have h_this_more := (k47 _ (by omega)).trans h_this_more
  have h_this_value := (k47 _ (by omega)).trans h_this_value
  refine A_retv X dX6_addGood_50 rfl ⟨rfl, rfl, ⟨_, fq, fm, fv, ⟨?_, h_this_worth, h_this_pairSet, h_this_more, h_this_value⟩, ?_, ?_, ?_⟩, fun q hq => by rw [k47 q (by omega), k39 q (by omega), k26 q (by omega)]⟩
  · rw [h_this]; unfold gdF sO; rw [aiu_s, aiu_n (by omega), aiu_n (by omega), aiu_n (by omega), aiu_n (by omega), aiu_n (by omega), aiu_n (by omega), aiu_n (by omega), aiu_n (by omega), aiu_n (by omega)]; rfl
  · intro side k hs hk0 hk
    unfold gdF at hk ⊢
    rw [aiu_s] at hk
    have old := hr.1 side k hs hk0
    clear h_this h_this_worth h_this_pairSet h_this_more h_this_value
    rcases hs with rfl | rfl <;> simp only [aiu] <;> repeat' split
    all_goals first | rfl | (exfalso; omega) | exact old (by omega)
  · intro p hp0 hp
    unfold gdF at hp ⊢
    rw [aiu_n (by omega), aiu_n (by omega), aiu_n (by omega)] at hp
    rw [aiu_n (by omega), aiu_n (by omega), aiu_n (by omega), aiu_n (by omega), aiu_n (by omega), aiu_n (by omega)]
    exact hr.2.1 p hp0 hp
  · intro side p hs hp0 hp
    unfold gdF at hp ⊢
    rw [aiu_n (by omega), aiu_n (by omega), aiu_n (by omega)] at hp
    rw [aiu_n (by omega), aiu_n (by omega), aiu_n (by omega)]
    exact hr.2.2 side p hs hp0 hp
theorem prF_0 {fr : Int → Int} {v1 v2 v3 v4 : Int} (h1 : 0 ≤ fr 1 ∧ fr 1 < 4) : prF fr v1 v2 v3 v4 0 = fr 0 := by
  simp only [prF, aiu]; repeat' split
  all_goals first | rfl | (exfalso; omega)
theorem prF_2 {fr : Int → Int} {v1 v2 v3 v4 : Int} (h1 : 0 ≤ fr 1 ∧ fr 1 < 4) : prF fr v1 v2 v3 v4 2 = fr 2 := by
  simp only [prF, aiu]; repeat' split
  all_goals first | rfl | (exfalso; omega)
theorem prF_3 {fr : Int → Int} {v1 v2 v3 v4 : Int} (h1 : 0 ≤ fr 1 ∧ fr 1 < 4) : prF fr v1 v2 v3 v4 3 = fr 3 := by
  simp only [prF, aiu]; repeat' split
  all_goals first | rfl | (exfalso; omega)
set_option maxRecDepth 100000 in
theorem s_addPair {G : aG} {d n : Nat} {h : AH} {su : Nat} {fr : Int → Int} {v1 v2 v3 v4 z : Int} (h0 : 0 ≤ fr 0 ∧ fr 0 ≤ 6) (h1 : 0 ≤ fr 1 ∧ fr 1 < 4) (hv1 : 0 ≤ v1 ∧ v1 < 6) (hv2 : 0 ≤ v2 ∧ v2 < 6) (hv3 : inR v3) (hv4 : inR v4) (hz : z = ((2 ^ v1.toNat ||| 2 ^ v2.toNat : Nat) : Int)) (hW : suW G h su fr) : aE G d kX6_addPair [.ref su, aI z, aI v3, aI v4] n h none (fun h' => suW G h' su (prF fr v1 v2 v3 v4) ∧ ∀ q, (q < su ∨ su + 5 ≤ q) → h' q = h q) := by
  obtain ⟨fw, fq, fm, fv, ⟨h_this, h_this_worth, h_this_pairSet, h_this_more, h_this_value⟩, hr⟩ := hW
  refine aCt_of (lv := [some (.ref su), some (aI z), some (aI v3), some (aI v4)]) knX6_addPair.1 rfl rfl (Nat.le_of_ble_eq_true rfl) (fun x hG hsc X => ?_)
  subst hG
  refine A_al0 X dX6_addPair_0 ?_
  refine A_getf X flX6_31 h_this rfl dX6_addPair_1 ?_
  refine A_if_lt (t := 15) X (by omega) dX6_addPair_4 (fun c4 => by exfalso; omega) (fun c4 => ?_)
  refine A_al0 X dX6_addPair_7 ?_
  refine A_getf X flX6_31 h_this rfl dX6_addPair_8 ?_
  refine A_iconst X dX6_addPair_11 ?_
  refine A_icmp_lt (t := 16) X (by omega) (by omega) dX6_addPair_12 (fun c12 => ?_) (fun c12 => by exfalso; omega)
  refine A_al0 X dX6_addPair_16 ?_
  refine A_getf X flX6_15 h_this rfl dX6_addPair_17 ?_
  refine A_al0 X dX6_addPair_20 ?_
  refine A_getf X flX6_31 h_this rfl dX6_addPair_21 ?_
  refine A_il1 X dX6_addPair_24 ?_
  refine A_iast X h_this_pairSet (by omega) dX6_addPair_25 ?_
  refine A_gen (fun h25 e25 k25 q25 => ?_)
  have h_this := (k25 _ (by omega)).trans h_this
  have h_this_worth := (k25 _ (by omega)).trans h_this_worth
  have h_this_pairSet := e25
  have h_this_more := (k25 _ (by omega)).trans h_this_more
  have h_this_value := (k25 _ (by omega)).trans h_this_value
  refine A_al0 X dX6_addPair_26 ?_
  refine A_getf X flX6_18 h_this rfl dX6_addPair_27 ?_
  refine A_al0 X dX6_addPair_30 ?_
  refine A_getf X flX6_31 h_this rfl dX6_addPair_31 ?_
  refine A_il2 X dX6_addPair_34 ?_
  refine A_iast X h_this_more (by omega) dX6_addPair_35 ?_
  refine A_gen (fun h35 e35 k35 q35 => ?_)
  have h_this := (k35 _ (by omega)).trans h_this
  have h_this_worth := (k35 _ (by omega)).trans h_this_worth
  have h_this_pairSet := (k35 _ (by omega)).trans h_this_pairSet
  have h_this_more := e35
  have h_this_value := (k35 _ (by omega)).trans h_this_value
  refine A_al0 X dX6_addPair_36 ?_
  refine A_getf X flX6_18 h_this rfl dX6_addPair_37 ?_
  refine A_iconst X dX6_addPair_40 ?_
  refine A_al0 X dX6_addPair_41 ?_
  refine A_getf X flX6_31 h_this rfl dX6_addPair_42 ?_
  refine A_iadd X dX6_addPair_45 ?_
  refine A_il3 X dX6_addPair_46 ?_
  refine A_iast X h_this_more (by omega) dX6_addPair_47 ?_
  refine A_gen (fun h47 e47 k47 q47 => ?_)
  have h_this := (k47 _ (by omega)).trans h_this
  have h_this_worth := (k47 _ (by omega)).trans h_this_worth
  have h_this_pairSet := (k47 _ (by omega)).trans h_this_pairSet
  have h_this_more := e47
  have h_this_value := (k47 _ (by omega)).trans h_this_value
  refine A_al0 X dX6_addPair_48 ?_
  refine A_dup X dX6_addPair_49 ?_
  refine A_getf X flX6_31 h_this rfl dX6_addPair_50 ?_
  refine A_iconst X dX6_addPair_53 ?_
  refine A_iadd X dX6_addPair_54 ?_
  refine A_putf X flX6_31 h_this dX6_addPair_55 ?_
  refine A_gen (fun h55 e55 k55 q55 => ?_)
  have h_this := e55
  have h_this_worth := (k55 _ (by omega)).trans h_this_worth
  have h_this_pairSet := (k55 _ (by omega)).trans h_this_pairSet
  have h_this_more := (k55 _ (by omega)).trans h_this_more
  have h_this_value := (k55 _ (by omega)).trans h_this_value
  refine A_retv X dX6_addPair_58 rfl ⟨rfl, rfl, ⟨fw, _, _, fv, ⟨?_, h_this_worth, h_this_pairSet, h_this_more, h_this_value⟩, ?_, ?_, ?_⟩, fun q hq => by rw [k55 q (by omega), k47 q (by omega), k35 q (by omega), k25 q (by omega)]⟩
  · have e0 : prF fr v1 v2 v3 v4 0 = fr 0 := prF_0 h1
    have e1 : prF fr v1 v2 v3 v4 1 = fr 1 + 1 := by simp only [prF, aiu]; rfl
    have e2 : prF fr v1 v2 v3 v4 2 = fr 2 := prF_2 h1
    have e3 : prF fr v1 v2 v3 v4 3 = fr 3 := prF_3 h1
    rw [h_this, e0, e1, e2, e3]; rfl
  · intro side k hs hk0 hk
    have old := hr.1 side k hs hk0
    clear h_this h_this_worth h_this_pairSet h_this_more h_this_value
    have e0 : prF fr v1 v2 v3 v4 0 = fr 0 := prF_0 h1
    rw [e0] at hk
    rw [old hk]
    rcases hs with rfl | rfl <;> simp only [prF, aiu] <;> repeat' split
    all_goals first | rfl | (exfalso; omega)
  · intro p hp0 hp
    have old := hr.2.1 p hp0
    clear h_this h_this_worth h_this_pairSet h_this_more h_this_value
    have e1 : prF fr v1 v2 v3 v4 1 = fr 1 + 1 := by simp only [prF, aiu]; rfl
    rw [e1] at hp
    have a1 : prF fr v1 v2 v3 v4 (16 + p) = if p = fr 1 then v1 else fr (16 + p) := by
      simp only [prF, aiu]; repeat' split
      all_goals first | rfl | (exfalso; omega)
    have a2 : prF fr v1 v2 v3 v4 (20 + p) = if p = fr 1 then v2 else fr (20 + p) := by
      simp only [prF, aiu]; repeat' split
      all_goals first | rfl | (exfalso; omega)
    rw [a1, a2]
    by_cases q : p = fr 1
    · rw [if_pos q, if_pos q, q, aiu_s]; exact hz
    · rw [if_neg q, if_neg q, aiu_n q]; exact old (by omega)
  · intro side p hs hp0 hp
    have old := hr.2.2 side p hs hp0
    clear h_this h_this_worth h_this_pairSet h_this_more h_this_value
    have e1 : prF fr v1 v2 v3 v4 1 = fr 1 + 1 := by simp only [prF, aiu]; rfl
    rw [e1] at hp
    rcases hs with rfl | rfl <;> simp only [prF, aiu] <;> repeat' split
    all_goals first | rfl | (exfalso; omega) | exact old (by omega)
