/-! the class: lies -/
def pO (pa : Nat) (fo ga li : Int) : List Value := [.ref (pa + 1), .ref (pa + 2), .ref (pa + 3), aI fo, aI ga, aI li]
/-- the partings among the first ones that leave the other side without envy -/
def lo (fs : Int → Int) (side : Int) : Nat → List Nat
  | 0 => []
  | k + 1 => if 0 ≤ ld fs (1 - side) k then lo fs side k ++ [k] else lo fs side k
theorem lo_len (fs : Int → Int) (side : Int) : ∀ k : Nat, (lo fs side k).length ≤ k
  | 0 => Nat.le_refl 0
  | k + 1 => by
    have := lo_len fs side k
    unfold lo
    split
    · rw [List.length_append]; simp; omega
    · omega
theorem lo_lt (fs : Int → Int) (side : Int) : ∀ (k : Nat) (r : Nat), r ∈ lo fs side k → r < k
  | 0, r, h => by simp [lo] at h
  | k + 1, r, h => by
    unfold lo at h
    split at h
    · rcases List.mem_append.mp h with q | q
      · exact Nat.lt_succ_of_lt (lo_lt fs side k r q)
      · simp at q; omega
    · exact Nat.lt_succ_of_lt (lo_lt fs side k r h)
/-- what the rows hold of a list of partings -/
def rwP (fs : Int → Int) (side : Int) (l : List Nat) (g1 g2 g3 : Int → Int) : Prop := ∀ (j : Nat) (r : Nat), l[j]? = some r → g1 (j : Int) = (oI fs side r : Nat) ∧ g2 (j : Int) = ld fs side r ∧ g3 (j : Int) = tg fs r
theorem suC_fr {G : aG} {h h' : AH} {su : Nat} {fs : Int → Int} (hC : suC G h su fs) (hq : ∀ q, su ≤ q → q < su + 5 → h' q = h q) : suC G h' su fs := by
  obtain ⟨fw, fq, fm, fv, ⟨a1, a2, a3, a4, a5⟩, hr, hv⟩ := hC
  exact ⟨fw, fq, fm, fv, ⟨(hq _ (by omega) (by omega)).trans a1, (hq _ (by omega) (by omega)).trans a2, (hq _ (by omega) (by omega)).trans a3, (hq _ (by omega) (by omega)).trans a4, (hq _ (by omega) (by omega)).trans a5⟩, hr, hv⟩
set_option maxRecDepth 100000 in
theorem p_list {G : aG} {d n : Nat} {h : AH} {pa su : Nat} {fs : Int → Int} {fo ga li : Int} {g1 g2 g3 : Int → Int} {side : Int} (hs : side = 0 ∨ side = 1) (hap : su + 5 ≤ pa ∨ pa + 4 ≤ su) (hok : sOK fs) (hC : suC G h su fs) (h_this : h pa = some (aOb 4 (pO pa fo ga li))) (h_this_own : h (pa + 1) = some (aIa G 64 g1)) (h_this_ahead : h (pa + 2) = some (aIa G 64 g2)) (h_this_sum : h (pa + 3) = some (aIa G 64 g3)) : aE G (d + 3) kX4_listOthersFair [.ref pa, .ref su, aI side] n h none (fun h' => (∃ u1 u2 u3 : Int → Int, h' pa = some (aOb 4 (pO pa ((lo fs side (al fs)).length : Nat) ga li)) ∧ h' (pa + 1) = some (aIa G 64 u1) ∧ h' (pa + 2) = some (aIa G 64 u2) ∧ h' (pa + 3) = some (aIa G 64 u3) ∧ rwP fs side (lo fs side (al fs)) u1 u2 u3) ∧ ∀ q, (q < pa ∨ pa + 4 ≤ q) → h' q = h q) := by
  have hg := hok.1; have hal := al_b hg; have h_suit := suC_o hC
  have hs2 : 1 - side = 0 ∨ 1 - side = 1 := by omega
  refine aCt_of (lv := [some (.ref pa), some (.ref su), some (aI side), none]) knX4_listOthersFair.1 rfl rfl (Nat.le_of_ble_eq_true rfl) (fun x hG hsc X => ?_)
  subst hG
  refine A_al0 X dX4_listOthersFair_0 ?_
  refine A_iconst X dX4_listOthersFair_1 ?_
  refine A_putf X flX4_78 h_this dX4_listOthersFair_2 ?_
  refine A_gen (fun h2 e2 k2 q2 => ?_)
  have h_this := e2
  have h_this_own := (k2 _ (by omega)).trans h_this_own
  have h_this_ahead := (k2 _ (by omega)).trans h_this_ahead
  have h_this_sum := (k2 _ (by omega)).trans h_this_sum
  refine A_iconst X dX4_listOthersFair_5 ?_
  refine A_is3 X dX4_listOthersFair_6 ?_
  refine lp_0 (P := fun i => ∀ (hh : AH) (u1 u2 u3 : Int → Int), hh pa = some (aOb 4 (pO pa ((lo fs side i).length : Nat) ga li)) → hh (pa + 1) = some (aIa x.1 64 u1) → hh (pa + 2) = some (aIa x.1 64 u2) → hh (pa + 3) = some (aIa x.1 64 u3) → rwP fs side (lo fs side i) u1 u2 u3 → (∀ q, (q < pa ∨ pa + 4 ≤ q) → hh q = h q) → AW x 0 0 n hh 7 [some (.ref pa), some (.ref su), some (aI side), some (aI (i : Int))] []) (al fs) ?_ ?_ h2 g1 g2 g3 h_this h_this_own h_this_ahead h_this_sum (fun j r q => by simp [lo] at q) (fun q hq => k2 q (by omega))
  · intro hh u1 u2 u3 a0 a1 a2 a3 a4 hq
    have hC := suC_fr hC (fun q q1 q2 => hq q (by omega))
    have h_suit := suC_o hC
    refine A_il3 X dX4_listOthersFair_7 ?_
    refine A_al1 X dX4_listOthersFair_8 ?_
    refine A_dVi0 X (c_all2 hg hC) h_suit knX6_all mlX4_30 dX4_listOthersFair_9 ?_
    refine A_icmp_gt (t := 105) X (by omega) (by omega) dX4_listOthersFair_12 (fun c12 => ?_) (fun c12 => by exfalso; omega)
    exact A_retv X dX4_listOthersFair_105 rfl ⟨rfl, rfl, ⟨u1, u2, u3, a0, a1, a2, a3, a4⟩, hq⟩
  · intro i hi ih hh u1 u2 u3 h_this h_this_own h_this_ahead h_this_sum a4 hq
    have hC := suC_fr hC (fun q q1 q2 => hq q (by omega))
    have h_suit := suC_o hC
    have hll := lo_len fs side i
    have b1 := ld_b hok hs2 i
    have b2 := ld_b hok hs i
    have hCn : ∀ (h2 : AH), (∀ q, (q < pa ∨ pa + 4 ≤ q) → h2 q = h q) → suC x.1 h2 su fs := fun h2 hq2 => suC_fr hC (fun q q1 q2 => by rw [hq2 q (by omega), hq q (by omega)])
    generalize hL : (lo fs side i).length = L at *
    refine A_il3 X dX4_listOthersFair_7 ?_
    refine A_al1 X dX4_listOthersFair_8 ?_
    refine A_dVi0 X (c_all2 hg hC) h_suit knX6_all mlX4_30 dX4_listOthersFair_9 ?_
    refine A_icmp_gt (t := 105) X (by omega) (by omega) dX4_listOthersFair_12 (fun c12 => by exfalso; omega) (fun c12 => ?_)
    refine A_al0 X dX4_listOthersFair_15 ?_
    refine A_al1 X dX4_listOthersFair_16 ?_
    refine A_iconst X dX4_listOthersFair_17 ?_
    refine A_il2 X dX4_listOthersFair_18 ?_
    refine A_isub X dX4_listOthersFair_19 ?_
    refine A_il3 X dX4_listOthersFair_20 ?_
    refine A_dVi3 X (p_lead i rfl hs2 hi hok hC) h_this knX4_lead mlX4_34 dX4_listOthersFair_21 ?_
    refine A_if_lt (t := 99) X (by omega) dX4_listOthersFair_24 (fun c24 => ?_) (fun c24 => ?_)
    · refine A_ii3 X dX4_listOthersFair_99 ?_
      refine A_goto (t := 7) X dX4_listOthersFair_102 ?_
      have e : lo fs side (i + 1) = lo fs side i := by rw [lo, if_neg (by omega)]
      exact ih hh u1 u2 u3 (by rw [e, hL]; exact h_this) h_this_own h_this_ahead h_this_sum (by rw [e]; exact a4) hq
    · refine A_al0 X dX4_listOthersFair_27 ?_
      refine A_getf X flX4_78 h_this rfl dX4_listOthersFair_28 ?_
      refine A_if_lt (t := 99) X (by omega) dX4_listOthersFair_31 (fun c31 => by exfalso; omega) (fun c31 => ?_)
      refine A_al0 X dX4_listOthersFair_34 ?_
      refine A_getf X flX4_78 h_this rfl dX4_listOthersFair_35 ?_
      refine A_bipush X dX4_listOthersFair_38 ?_
      refine A_icmp_ge (t := 99) X (by omega) (by omega) dX4_listOthersFair_40 (fun c40 => by exfalso; omega) (fun c40 => ?_)
      refine A_al0 X dX4_listOthersFair_43 ?_
      refine A_getf X flX4_9 h_this rfl dX4_listOthersFair_44 ?_
      refine A_al0 X dX4_listOthersFair_47 ?_
      refine A_getf X flX4_78 h_this rfl dX4_listOthersFair_48 ?_
      refine A_al1 X dX4_listOthersFair_51 ?_
      refine A_il2 X dX4_listOthersFair_52 ?_
      refine A_il3 X dX4_listOthersFair_53 ?_
      refine A_dVi2 X (c_ownIn i rfl hs hg hi hC) h_suit knX6_ownIn mlX4_21 dX4_listOthersFair_54 ?_
      refine A_iast X h_this_own (by omega) dX4_listOthersFair_57 ?_
      refine A_gen (fun h57 e57 k57 q57 => ?_)
      have h_this := (k57 _ (by omega)).trans h_this
      have h_this_own := e57
      have h_this_ahead := (k57 _ (by omega)).trans h_this_ahead
      have h_this_sum := (k57 _ (by omega)).trans h_this_sum
      have hC := hCn h57 (fun q hq2 => by rw [k57 q (by omega), hq q hq2])
      refine A_al0 X dX4_listOthersFair_58 ?_
      refine A_getf X flX4_15 h_this rfl dX4_listOthersFair_59 ?_
      refine A_al0 X dX4_listOthersFair_62 ?_
      refine A_getf X flX4_78 h_this rfl dX4_listOthersFair_63 ?_
      refine A_al0 X dX4_listOthersFair_66 ?_
      refine A_al1 X dX4_listOthersFair_67 ?_
      refine A_il2 X dX4_listOthersFair_68 ?_
      refine A_il3 X dX4_listOthersFair_69 ?_
      refine A_dVi3 X (p_lead i rfl hs hi hok hC) h_this knX4_lead mlX4_34 dX4_listOthersFair_70 ?_
      refine A_iast X h_this_ahead (by omega) dX4_listOthersFair_73 ?_
      refine A_gen (fun h73 e73 k73 q73 => ?_)
      have h_this := (k73 _ (by omega)).trans h_this
      have h_this_own := (k73 _ (by omega)).trans h_this_own
      have h_this_ahead := e73
      have h_this_sum := (k73 _ (by omega)).trans h_this_sum
      have hC := hCn h73 (fun q hq2 => by rw [k73 q (by omega), k57 q (by omega), hq q hq2])
      refine A_al0 X dX4_listOthersFair_74 ?_
      refine A_getf X flX4_18 h_this rfl dX4_listOthersFair_75 ?_
      refine A_al0 X dX4_listOthersFair_78 ?_
      refine A_getf X flX4_78 h_this rfl dX4_listOthersFair_79 ?_
      refine A_al0 X dX4_listOthersFair_82 ?_
      refine A_al1 X dX4_listOthersFair_83 ?_
      refine A_il3 X dX4_listOthersFair_84 ?_
      refine A_dVi2 X (p_total i rfl hi hok hC) h_this knX4_total mlX4_42 dX4_listOthersFair_85 ?_
      refine A_iast X h_this_sum (by omega) dX4_listOthersFair_88 ?_
      refine A_gen (fun h88 e88 k88 q88 => ?_)
      have h_this := (k88 _ (by omega)).trans h_this
      have h_this_own := (k88 _ (by omega)).trans h_this_own
      have h_this_ahead := (k88 _ (by omega)).trans h_this_ahead
      have h_this_sum := e88
      refine A_al0 X dX4_listOthersFair_89 ?_
      refine A_dup X dX4_listOthersFair_90 ?_
      refine A_getf X flX4_78 h_this rfl dX4_listOthersFair_91 ?_
      refine A_iconst X dX4_listOthersFair_94 ?_
      refine A_iadd X dX4_listOthersFair_95 ?_
      refine A_putf X flX4_78 h_this dX4_listOthersFair_96 ?_
      refine A_gen (fun h96 e96 k96 q96 => ?_)
      have h_this := e96
      have h_this_own := (k96 _ (by omega)).trans h_this_own
      have h_this_ahead := (k96 _ (by omega)).trans h_this_ahead
      have h_this_sum := (k96 _ (by omega)).trans h_this_sum
      refine A_ii3 X dX4_listOthersFair_99 ?_
      refine A_goto (t := 7) X dX4_listOthersFair_102 ?_
      have e : lo fs side (i + 1) = lo fs side i ++ [i] := by rw [lo, if_pos (by omega)]
      refine ih h96 _ _ _ (by rw [e, List.length_append, hL]; exact h_this) h_this_own h_this_ahead h_this_sum ?_ (fun q hq2 => by rw [k96 q (by omega), k88 q (by omega), k73 q (by omega), k57 q (by omega), hq q hq2])
      rw [e]
      intro j r hj
      by_cases hjl : j < L
      · rw [List.getElem?_append_left (by omega)] at hj
        have := a4 j r hj
        rw [aiu_n (by omega), aiu_n (by omega), aiu_n (by omega)]
        exact this
      · rw [List.getElem?_append_right (by omega)] at hj
        have hz : j - (lo fs side i).length < 1 := (List.getElem?_eq_some_iff.mp hj).1
        have hjL : j = L := by omega
        subst hjL
        rw [hL, Nat.sub_self] at hj
        cases hj
        rw [aiu_s, aiu_s, aiu_s]
        exact ⟨rfl, rfl, rfl⟩
