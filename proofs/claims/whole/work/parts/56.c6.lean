/-! the class: by turns -/
def oF (e : Nat → Nat) (fs : Int → Int) (m : Int) (rest right : Nat) : Nat → Nat × Int
  | 0 => (right, -1)
  | i + 1 => if hasB rest i ∧ (oF e fs m rest right i).2 < vl fs m (oI fs m (e i % 64)) then (e i % 64 + 64 * (i + 1), vl fs m (oI fs m (e i % 64))) else oF e fs m rest right i
def oC (fs : Int → Int) : Nat → Nat → Nat → Int → Nat
  | 0, right, _, _ => right
  | k + 1, right, rest, m => (oF (fun j => oC fs k (if m = 1 then right ||| 2 ^ j else right) (rest ^^^ 2 ^ j) (1 - m)) fs m rest right (fs 0).toNat).1
theorem oF_b {e : Nat → Nat} {fs : Int → Int} (hok : sOK fs) {m : Int} (hm : m = 0 ∨ m = 1) {rest right : Nat} : ∀ i, -1 ≤ (oF e fs m rest right i).2 ∧ (oF e fs m rest right i).2 ≤ 200
  | 0 => by simp [oF]
  | i + 1 => by
    have ih := oF_b hok hm (e := e) (rest := rest) (right := right) i
    have := vl_b hok hm (oI fs m (e i % 64))
    unfold oF
    split
    · show -1 ≤ vl fs m (oI fs m (e i % 64)) ∧ vl fs m (oI fs m (e i % 64)) ≤ 200
      omega
    · exact ih
theorem oF_lt {e : Nat → Nat} {fs : Int → Int} {m : Int} {rest right : Nat} (hr : right < al fs) (h64 : al fs ≤ 64) : ∀ i, (∀ j, j < i → hasB rest j → e j % 64 < al fs) → (oF e fs m rest right i).1 % 64 < al fs ∧ (oF e fs m rest right i).1 < 64 * (i + 1)
  | 0, _ => by
    unfold oF
    show right % 64 < al fs ∧ right < 64 * (0 + 1)
    rw [Nat.mod_eq_of_lt (by omega)]
    omega
  | i + 1, H => by
    have ih := oF_lt hr h64 (m := m) i (fun j q => H j (by omega))
    unfold oF
    split
    · next q =>
      have := H i (by omega) q.1
      show (e i % 64 + 64 * (i + 1)) % 64 < al fs ∧ e i % 64 + 64 * (i + 1) < 64 * (i + 1 + 1)
      omega
    · omega
theorem or_al {fs : Int → Int} {r j : Nat} (hr : r < al fs) (hj : j < (fs 0).toNat) : r ||| 2 ^ j < al fs := Nat.or_lt_two_pow hr (Nat.pow_lt_pow_right (by omega) hj)
theorem xor_al {fs : Int → Int} {r j : Nat} (hr : r < al fs) (hj : j < (fs 0).toNat) : r ^^^ 2 ^ j < al fs := Nat.xor_lt_two_pow hr (Nat.pow_lt_pow_right (by omega) hj)
theorem oC_lt {fs : Int → Int} (hg : 0 ≤ fs 0 ∧ fs 0 ≤ 6) : ∀ (k right rest : Nat) (m : Int), right < al fs → oC fs k right rest m % 64 < al fs ∧ oC fs k right rest m < 448
  | 0, right, rest, m, hr => by
    have := al_b hg
    unfold oC
    rw [Nat.mod_eq_of_lt (by omega)]
    omega
  | k + 1, right, rest, m, hr => by
    have := al_b hg
    unfold oC
    have h := oF_lt (e := fun j => oC fs k (if m = 1 then right ||| 2 ^ j else right) (rest ^^^ 2 ^ j) (1 - m)) (m := m) (rest := rest) hr this.2 (fs 0).toNat (fun j hj _ => (oC_lt hg k _ _ _ (by
      by_cases q : m = 1
      · rw [if_pos q]; exact or_al hr hj
      · rw [if_neg q]; exact hr)).1)
    omega
theorem bt_x : ∀ s, s < 64 → ∀ j, j < 6 → hasB s j → pct (s ^^^ 2 ^ j) + 1 = pct s := by decide +kernel
set_option maxRecDepth 100000 in
theorem p_outcome {G : aG} {n : Nat} {h : AH} {su : Nat} {fs : Int → Int} (hok : sOK fs) (hC : suC G h su fs) : ∀ (k d right rest : Nat) (m z1 z2 dep : Int), z1 = (right : Int) → z2 = (rest : Int) → right < al fs → rest < al fs → pct rest = k → 0 ≤ dep → dep + (k : Int) ≤ 6 → (m = 0 ∨ m = 1) → aD G (d + k + 1) kX4_outcome [.ref su, aI z1, aI z2, aI m, aI dep] n h (some (aI ((oC fs k right rest m : Nat) : Int))) := by
  have hg := hok.1; have hal := al_b hg; have h_suit := suC_o hC
  intro k
  induction k with
  | zero =>
    intro d right rest m z1 z2 dep hz1 hz2 hr1 hr2 hk hd0 hd6 hm
    have h0 := (bt6 rest (by omega)).mp hk
    refine aCt_of (lv := [some (.ref su), some (aI z1), some (aI z2), some (aI m), some (aI dep), none, none, none, none, none, none, none]) knX4_outcome.1 rfl rfl (Nat.le_of_ble_eq_true rfl) (fun x hG hsc X => ?_)
    subst hG
    refine A_il2 X dX4_outcome_0 ?_
    refine A_if_eq (t := 11) X (by omega) dX4_outcome_1 (fun c1 => ?_) (fun c1 => by exfalso; omega)
    refine A_il1 X dX4_outcome_11 ?_
    exact A_ret X dX4_outcome_12 rfl ⟨congrArg (fun t => some (aI t)) (by rw [hz1]; rfl), rfl, rfl⟩
  | succ k ih =>
    intro d right rest m z1 z2 dep hz1 hz2 hr1 hr2 hk hd0 hd6 hm
    subst hz1
    obtain ⟨g, hgn⟩ := Int.eq_ofNat_of_zero_le hg.1
    have hgt : (fs 0).toNat = g := by omega
    have h0 : rest ≠ 0 := fun q => by rw [q] at hk; simp [pct] at hk
    have hm2 : 1 - m = 0 ∨ 1 - m = 1 := by omega
    generalize hE : (fun j => oC fs k (if m = 1 then right ||| 2 ^ j else right) (rest ^^^ 2 ^ j) (1 - m)) = e
    have eC : oC fs (k + 1) right rest m = (oF e fs m rest right g).1 := by rw [oC, hE, hgt]
    have hee : ∀ j, e j = oC fs k (if m = 1 then right ||| 2 ^ j else right) (rest ^^^ 2 ^ j) (1 - m) := fun j => by rw [← hE]
    rw [eC]
    refine aCt_of (lv := [some (.ref su), some (aI (right : Int)), some (aI z2), some (aI m), some (aI dep), none, none, none, none, none, none, none]) knX4_outcome.1 rfl rfl (Nat.le_of_ble_eq_true rfl) (fun x hG hsc X => ?_)
    subst hG
    refine A_il2 X dX4_outcome_0 ?_
    refine A_if_eq (t := 11) X (by omega) dX4_outcome_1 (fun c1 => by exfalso; omega) (fun c1 => ?_)
    refine A_il4 X dX4_outcome_4 ?_
    refine A_bipush X dX4_outcome_6 ?_
    refine A_icmp_lt (t := 13) X (by omega) (by omega) dX4_outcome_8 (fun c8 => ?_) (fun c8 => by exfalso; omega)
    refine A_il1 X dX4_outcome_13 ?_
    refine A_is5 X dX4_outcome_14 ?_
    refine A_iconst X dX4_outcome_16 ?_
    refine A_is6 X dX4_outcome_17 ?_
    refine A_iconst X dX4_outcome_19 ?_
    refine A_is7 X dX4_outcome_20 ?_
    refine lp_0 (P := fun i => ∀ a : Nat × Int, a = oF e fs m rest right i → AW x 0 0 n h 22 [some (.ref su), some (aI (right : Int)), some (aI z2), some (aI m), some (aI dep), some (aI (a.1 : Int)), some (aI a.2), some (aI (i : Int)), none, none, none, none] []) g ?_ ?_ (right, -1) rfl
    · intro a ha
      refine A_il7 X dX4_outcome_22 ?_
      refine A_al0 X dX4_outcome_24 ?_
      refine A_getf X flX4_54 h_suit rfl dX4_outcome_25 ?_
      refine A_icmp_ge (t := 124) X (by omega) (by omega) dX4_outcome_28 (fun c28 => ?_) (fun c28 => by exfalso; omega)
      refine A_il5 X dX4_outcome_124 ?_
      exact A_ret X dX4_outcome_126 rfl ⟨congrArg (fun t => some (aI t)) (by rw [ha]), rfl, rfl⟩
    · intro i hi ihl a ha
      have p2 := p2b (show i ≤ 6 by omega)
      have hb := bt_and rest (by omega) i (by omega)
      have hba := oF_b hok hm (e := e) (rest := rest) (right := right) i
      have hr3 : (if m = 1 then right ||| 2 ^ i else right) < al fs := by
        by_cases q : m = 1
        · rw [if_pos q]; exact or_al hr1 (by omega)
        · rw [if_neg q]; exact hr1
      have hel := oC_lt hg k (if m = 1 then right ||| 2 ^ i else right) (rest ^^^ 2 ^ i) (1 - m) hr3
      rw [← hee i] at hel
      have hx := xor_al (fs := fs) (j := i) hr2 (by omega)
      have hol := oI_lt (side := m) hg hel.1
      have hvb := vl_b hok hm (oI fs m (e i % 64))
      have land : rest &&& 2 ^ i ≤ rest := Nat.and_le_left
      have call := fun (hh : hasB rest i) (z : Int) (hz : z = (((if m = 1 then right ||| 2 ^ i else right : Nat)) : Int)) => (hee i).symm ▸ ih d (if m = 1 then right ||| 2 ^ i else right) (rest ^^^ 2 ^ i) (1 - m) z ((rest ^^^ 2 ^ i : Nat) : Int) (dep + 1) hz rfl hr3 hx (by have := bt_x rest (by omega) i (by omega) hh; omega) (by omega) (by omega) hm2
      have iN : ¬ (hasB rest i ∧ (oF e fs m rest right i).2 < vl fs m (oI fs m (e i % 64))) → AW x 0 0 n h 22 [some (.ref su), some (aI (right : Int)), some (aI z2), some (aI m), some (aI dep), some (aI (a.1 : Int)), some (aI a.2), some (aI ((i : Int) + 1)), none, none, none, none] [] := fun q => ihl a (by rw [oF, if_neg q]; exact ha)
      have iS : hasB rest i ∧ (oF e fs m rest right i).2 < vl fs m (oI fs m (e i % 64)) → AW x 0 0 n h 22 [some (.ref su), some (aI (right : Int)), some (aI z2), some (aI m), some (aI dep), some (aI ((e i % 64 + 64 * (i + 1) : Nat) : Int)), some (aI (vl fs m (oI fs m (e i % 64)))), some (aI ((i : Int) + 1)), none, none, none, none] [] := fun q => ihl (e i % 64 + 64 * (i + 1), vl fs m (oI fs m (e i % 64))) (by rw [oF, if_pos q])
      rw [← ha] at hba iN iS
      refine A_il7 X dX4_outcome_22 ?_
      refine A_al0 X dX4_outcome_24 ?_
      refine A_getf X flX4_54 h_suit rfl dX4_outcome_25 ?_
      refine A_icmp_ge (t := 124) X (by omega) (by omega) dX4_outcome_28 (fun c28 => by exfalso; omega) (fun c28 => ?_)
      refine A_iconst X dX4_outcome_31 ?_
      refine A_il7 X dX4_outcome_32 ?_
      refine A_ishl X 1 i rfl rfl (by omega) (by omega) dX4_outcome_34 ?_
      rw [Nat.one_mul]
      refine A_is8 X dX4_outcome_35 ?_
      refine A_il2 X dX4_outcome_37 ?_
      refine A_il8 X dX4_outcome_38 ?_
      refine A_iand X rest (2 ^ i) hz2 rfl dX4_outcome_40 ?_
      refine A_if_eq (t := 118) X (by omega) dX4_outcome_41 (fun c41 => ?_) (fun c41 => ?_)
      · refine A_ii7 X dX4_outcome_118 ?_
        refine A_goto (t := 22) X dX4_outcome_121 ?_
        exact A_fg8 (iN (fun q => hb.mp (by omega) q.1))
      · refine A_il3 X dX4_outcome_44 ?_
        refine A_iconst X dX4_outcome_45 ?_
        refine A_icmp_ne (t := 56) X (by omega) (by omega) dX4_outcome_46 (fun c46 => ?_) (fun c46 => ?_)
        · refine A_il1 X dX4_outcome_56 ?_
          refine A_is9 X dX4_outcome_57 ?_
          refine A_al0 X dX4_outcome_59 ?_
          refine A_il9 X dX4_outcome_60 ?_
          refine A_il2 X dX4_outcome_62 ?_
          refine A_il8 X dX4_outcome_63 ?_
          refine A_ixor X rest (2 ^ i) hz2 rfl dX4_outcome_65 ?_
          refine A_iconst X dX4_outcome_66 ?_
          refine A_il3 X dX4_outcome_67 ?_
          refine A_isub X dX4_outcome_68 ?_
          refine A_il4 X dX4_outcome_69 ?_
          refine A_iconst X dX4_outcome_71 ?_
          refine A_iadd X dX4_outcome_72 ?_
          refine A_dSi5 X (call (by omega) (right : Int) (by rw [if_neg (by omega)])) knX4_outcome mlX4_58 dX4_outcome_73 ?_
          refine A_bipush X dX4_outcome_76 ?_
          refine A_irem X (by omega) (by omega) dX4_outcome_78 ?_
          rw [show ((e i : Nat) : Int) % 64 = ((e i % 64 : Nat) : Int) by omega]
          refine A_is10 X dX4_outcome_79 ?_
          refine A_al0 X dX4_outcome_81 ?_
          refine A_il3 X dX4_outcome_82 ?_
          refine A_al0 X dX4_outcome_83 ?_
          refine A_il3 X dX4_outcome_84 ?_
          refine A_il10 X dX4_outcome_85 ?_
          refine A_dVi2 X (c_ownIn (e i % 64) rfl hm hg hel.1 hC) h_suit knX6_ownIn mlX4_21 dX4_outcome_87 ?_
          refine A_dVi2 X (c_valueOf (oI fs m (e i % 64)) rfl hm hg hol hC) h_suit knX6_valueOf mlX4_27 dX4_outcome_90 ?_
          refine A_is11 X dX4_outcome_93 ?_
          refine A_il11 X dX4_outcome_95 ?_
          refine A_il6 X dX4_outcome_97 ?_
          refine A_icmp_le (t := 118) X (by omega) (by omega) dX4_outcome_99 (fun c99 => ?_) (fun c99 => ?_)
          · refine A_ii7 X dX4_outcome_118 ?_
            refine A_goto (t := 22) X dX4_outcome_121 ?_
            exact A_fg8 (A_fg9 (A_fg10 (A_fg11 (iN (by omega)))))
          · refine A_il11 X dX4_outcome_102 ?_
            refine A_is6 X dX4_outcome_104 ?_
            refine A_il10 X dX4_outcome_106 ?_
            refine A_bipush X dX4_outcome_108 ?_
            refine A_il7 X dX4_outcome_110 ?_
            refine A_iconst X dX4_outcome_112 ?_
            refine A_iadd X dX4_outcome_113 ?_
            refine A_imul X dX4_outcome_114 ?_
            refine A_iadd X dX4_outcome_115 ?_
            refine A_is5 X dX4_outcome_116 ?_
            refine A_ii7 X dX4_outcome_118 ?_
            refine A_goto (t := 22) X dX4_outcome_121 ?_
            rw [show ((e i % 64 : Nat) : Int) + 64 * ((i : Int) + 1) = ((e i % 64 + 64 * (i + 1) : Nat) : Int) by omega]
            exact A_fg8 (A_fg9 (A_fg10 (A_fg11 (iS ⟨Decidable.byContradiction fun q => by have := hb.mpr q; omega, by omega⟩))))
        · refine A_il1 X dX4_outcome_49 ?_
          refine A_il8 X dX4_outcome_50 ?_
          refine A_ior X right (2 ^ i) rfl rfl dX4_outcome_52 ?_
          refine A_goto (t := 57) X dX4_outcome_53 ?_
          refine A_is9 X dX4_outcome_57 ?_
          refine A_al0 X dX4_outcome_59 ?_
          refine A_il9 X dX4_outcome_60 ?_
          refine A_il2 X dX4_outcome_62 ?_
          refine A_il8 X dX4_outcome_63 ?_
          refine A_ixor X rest (2 ^ i) hz2 rfl dX4_outcome_65 ?_
          refine A_iconst X dX4_outcome_66 ?_
          refine A_il3 X dX4_outcome_67 ?_
          refine A_isub X dX4_outcome_68 ?_
          refine A_il4 X dX4_outcome_69 ?_
          refine A_iconst X dX4_outcome_71 ?_
          refine A_iadd X dX4_outcome_72 ?_
          refine A_dSi5 X (call (by omega) _ (by rw [if_pos (by omega)])) knX4_outcome mlX4_58 dX4_outcome_73 ?_
          refine A_bipush X dX4_outcome_76 ?_
          refine A_irem X (by omega) (by omega) dX4_outcome_78 ?_
          rw [show ((e i : Nat) : Int) % 64 = ((e i % 64 : Nat) : Int) by omega]
          refine A_is10 X dX4_outcome_79 ?_
          refine A_al0 X dX4_outcome_81 ?_
          refine A_il3 X dX4_outcome_82 ?_
          refine A_al0 X dX4_outcome_83 ?_
          refine A_il3 X dX4_outcome_84 ?_
          refine A_il10 X dX4_outcome_85 ?_
          refine A_dVi2 X (c_ownIn (e i % 64) rfl hm hg hel.1 hC) h_suit knX6_ownIn mlX4_21 dX4_outcome_87 ?_
          refine A_dVi2 X (c_valueOf (oI fs m (e i % 64)) rfl hm hg hol hC) h_suit knX6_valueOf mlX4_27 dX4_outcome_90 ?_
          refine A_is11 X dX4_outcome_93 ?_
          refine A_il11 X dX4_outcome_95 ?_
          refine A_il6 X dX4_outcome_97 ?_
          refine A_icmp_le (t := 118) X (by omega) (by omega) dX4_outcome_99 (fun c99 => ?_) (fun c99 => ?_)
          · refine A_ii7 X dX4_outcome_118 ?_
            refine A_goto (t := 22) X dX4_outcome_121 ?_
            exact A_fg8 (A_fg9 (A_fg10 (A_fg11 (iN (by omega)))))
          · refine A_il11 X dX4_outcome_102 ?_
            refine A_is6 X dX4_outcome_104 ?_
            refine A_il10 X dX4_outcome_106 ?_
            refine A_bipush X dX4_outcome_108 ?_
            refine A_il7 X dX4_outcome_110 ?_
            refine A_iconst X dX4_outcome_112 ?_
            refine A_iadd X dX4_outcome_113 ?_
            refine A_imul X dX4_outcome_114 ?_
            refine A_iadd X dX4_outcome_115 ?_
            refine A_is5 X dX4_outcome_116 ?_
            refine A_ii7 X dX4_outcome_118 ?_
            refine A_goto (t := 22) X dX4_outcome_121 ?_
            rw [show ((e i % 64 : Nat) : Int) + 64 * ((i : Int) + 1) = ((e i % 64 + 64 * (i + 1) : Nat) : Int) by omega]
            exact A_fg8 (A_fg9 (A_fg10 (A_fg11 (iS ⟨Decidable.byContradiction fun q => by have := hb.mpr q; omega, by omega⟩))))
theorem hasT (s i : Nat) : hasB s i ↔ s.testBit i = true := by unfold hasB; rw [Nat.testBit_eq_decide_div_mod_eq]; simp
theorem gO_t (fn : Int → Int) (ow : Int) (j : Nat) : ∀ k : Nat, (gO fn ow k).testBit j = decide (j < k ∧ fn (j : Int) = ow)
  | 0 => by simp [gO]
  | k + 1 => by
    rw [gO, Nat.testBit_or, gO_t fn ow j k, Nat.one_mul]
    by_cases q : fn (k : Int) = ow
    · rw [if_pos q, Nat.testBit_two_pow]
      by_cases q2 : j = k
      · subst q2; simp [q]
      · have : (k = j) = False := by simp; omega
        have e : (j < k) = (j < k + 1) := by apply propext; omega
        simp [this, e]
    · rw [if_neg q, Nat.zero_testBit]
      by_cases q2 : j = k
      · subst q2; simp [q]
      · have e : (j < k) = (j < k + 1) := by apply propext; omega
        simp [e]
/-- what the reference's choice is: the first of the best -/
def isB (by_ : Nat → Int × Int) (m : Int) (rem lo hi j0 : Nat) : Prop := (lo ≤ j0 ∧ j0 < hi) ∧ hasB rem j0 ∧ (∀ j, lo ≤ j → j < hi → hasB rem j → (if m = 0 then (by_ j).1 ≤ (by_ j0).1 else (by_ j).2 ≤ (by_ j0).2)) ∧ (∀ j, lo ≤ j → j < j0 → hasB rem j → (if m = 0 then (by_ j).1 < (by_ j0).1 else (by_ j).2 < (by_ j0).2))
theorem tf_c {by_ : Nat → Int × Int} {m : Int} {rem G : Nat} : ∀ k, k ≤ G → ((∀ j, G - k ≤ j → j < G → ¬ hasB rem j) ∧ tf by_ m rem G k = (-9, 0, 0)) ∨ ∃ j0, isB by_ m rem (G - k) G j0 ∧ tf by_ m rem G k = ((j0 : Int), (by_ j0).1, (by_ j0).2)
  | 0, _ => Or.inl ⟨fun j a b => by omega, rfl⟩
  | k + 1, hk => by
    have ih := tf_c (by_ := by_) (m := m) (rem := rem) (G := G) k (by omega)
    generalize hj : G - 1 - k = j
    have e1 : G - (k + 1) = j := by omega
    have e2 : G - k = j + 1 := by omega
    rw [e1]; rw [e2] at ih
    unfold tf
    rw [hj]
    rcases ih with ⟨ih, ih2⟩ | ⟨j0, ⟨a1, a2, a3, a4⟩, ih2⟩
    · rw [ih2]
      by_cases q : hasB rem j
      · rw [if_pos ⟨q, Or.inl rfl⟩]
        refine Or.inr ⟨j, ⟨⟨by omega, by omega⟩, q, fun i b1 b2 b3 => ?_, fun i b1 b2 b3 => by omega⟩, rfl⟩
        by_cases q2 : i = j
        · subst q2; split <;> omega
        · exact absurd b3 (ih i (by omega) b2)
      · rw [if_neg (fun z => q z.1)]
        refine Or.inl ⟨fun i b1 b2 b3 => ?_, rfl⟩
        by_cases q2 : i = j
        · subst q2; exact q b3
        · exact ih i (by omega) b2 b3
    · rw [ih2]
      by_cases q : hasB rem j ∧ (if m = 0 then (by_ j0).1 ≤ (by_ j).1 else (by_ j0).2 ≤ (by_ j).2)
      · rw [if_pos ⟨q.1, Or.inr q.2⟩]
        refine Or.inr ⟨j, ⟨⟨by omega, by omega⟩, q.1, fun i b1 b2 b3 => ?_, fun i b1 b2 b3 => by omega⟩, rfl⟩
        by_cases q2 : i = j
        · subst q2; split <;> omega
        · have := a3 i (by omega) b2 b3
          have := q.2
          by_cases q3 : m = 0 <;> simp only [q3, if_true, if_false] at * <;> omega
      · rw [if_neg (fun z => q ⟨z.1, z.2.resolve_left (by show ¬ ((j0 : Int) = -9); omega)⟩)]
        refine Or.inr ⟨j0, ⟨⟨by omega, a1.2⟩, a2, fun i b1 b2 b3 => ?_, fun i b1 b2 b3 => ?_⟩, rfl⟩
        · by_cases q2 : i = j
          · subst q2
            have q4 := fun z => q ⟨b3, z⟩
            by_cases q3 : m = 0 <;> simp only [q3, if_true, if_false] at * <;> omega
          · exact a3 i (by omega) b2 b3
        · by_cases q2 : i = j
          · subst q2
            have q4 := fun z => q ⟨b3, z⟩
            by_cases q3 : m = 0 <;> simp only [q3, if_true, if_false] at * <;> omega
          · exact a4 i (by omega) b2 b3
theorem oF_c {e : Nat → Nat} {fs : Int → Int} {by_ : Nat → Int × Int} {m : Int} {rest right : Nat} (hm : m = 0 ∨ m = 1) (hb : ∀ j, (0 ≤ (by_ j).1) ∧ (0 ≤ (by_ j).2)) : ∀ i, (∀ j, j < i → hasB rest j → vl fs m (oI fs m (e j % 64)) = if m = 0 then (by_ j).1 else (by_ j).2) → ((∀ j, j < i → ¬ hasB rest j) ∧ oF e fs m rest right i = (right, -1)) ∨ ∃ j0, isB by_ m rest 0 i j0 ∧ oF e fs m rest right i = (e j0 % 64 + 64 * (j0 + 1), if m = 0 then (by_ j0).1 else (by_ j0).2)
  | 0, _ => Or.inl ⟨fun j a => by omega, rfl⟩
  | i + 1, H => by
    have ih := oF_c hm hb (e := e) (fs := fs) (rest := rest) (right := right) i (fun j a => H j (by omega))
    have hi := H i (by omega)
    have hbi := hb i
    unfold oF
    rcases ih with ⟨ih, ih2⟩ | ⟨j0, ⟨a1, a2, a3, a4⟩, ih2⟩
    · rw [ih2]
      by_cases q : hasB rest i
      · rw [hi q, if_pos ⟨q, by show (-1 : Int) < _; split <;> omega⟩]
        refine Or.inr ⟨i, ⟨⟨by omega, by omega⟩, q, fun j b1 b2 b3 => ?_, fun j b1 b2 b3 => absurd b3 (ih j b2)⟩, rfl⟩
        by_cases q2 : j = i
        · subst q2; split <;> omega
        · exact absurd b3 (ih j (by omega))
      · rw [if_neg (fun z => q z.1)]
        refine Or.inl ⟨fun j b1 b3 => ?_, rfl⟩
        by_cases q2 : j = i
        · subst q2; exact q b3
        · exact ih j (by omega) b3
    · rw [ih2]
      by_cases q : hasB rest i ∧ (if m = 0 then (by_ j0).1 else (by_ j0).2) < (if m = 0 then (by_ i).1 else (by_ i).2)
      · rw [hi q.1, if_pos q]
        have q5 := q.2
        refine Or.inr ⟨i, ⟨⟨by omega, by omega⟩, q.1, fun j b1 b2 b3 => ?_, fun j b1 b2 b3 => ?_⟩, rfl⟩
        · by_cases q2 : j = i
          · subst q2; split <;> omega
          · have := a3 j (by omega) (by omega) b3
            by_cases q3 : m = 0 <;> simp only [q3, if_true, if_false] at * <;> omega
        · have := a3 j (by omega) (by omega) b3
          by_cases q3 : m = 0 <;> simp only [q3, if_true, if_false] at * <;> omega
      · rw [if_neg (fun z => q ⟨z.1, by rw [hi z.1] at z; exact z.2⟩)]
        refine Or.inr ⟨j0, ⟨⟨by omega, by omega⟩, a2, fun j b1 b2 b3 => ?_, fun j b1 b2 b3 => a4 j b1 b2 b3⟩, rfl⟩
        by_cases q2 : j = i
        · subst q2
          have q4 := fun z => q ⟨b3, z⟩
          by_cases q3 : m = 0 <;> simp only [q3, if_true, if_false] at * <;> omega
        · exact a3 j (by omega) (by omega) b3
theorem isB_1 {by_ : Nat → Int × Int} {m : Int} {rem hi i j : Nat} (h1 : isB by_ m rem 0 hi i) (h2 : isB by_ m rem 0 hi j) : i = j := by
  obtain ⟨a1, a2, a3, a4⟩ := h1
  obtain ⟨b1, b2, b3, b4⟩ := h2
  rcases Nat.lt_trichotomy i j with q | q | q
  · have c1 := b4 i (by omega) q a2
    have c2 := a3 j (by omega) (by omega) b2
    by_cases q3 : m = 0 <;> simp only [q3, if_true, if_false] at * <;> omega
  · exact q
  · have c1 := a4 j (by omega) q b2
    have c2 := b3 i (by omega) (by omega) a2
    by_cases q3 : m = 0 <;> simp only [q3, if_true, if_false] at * <;> omega
theorem bt_yb : ((List.range 64).all fun tb => (List.range 64).all fun s => (List.range 6).all fun j => !(decide (hasB (tb ^^^ (tb &&& s)) j)) || decide (tb ^^^ (tb &&& (s ||| 2 ^ j)) = (tb ^^^ (tb &&& s)) ^^^ 2 ^ j)) = true := by decide +kernel
theorem bt_y (tb : Nat) (ht : tb < 64) (s : Nat) (hs : s < 64) (j : Nat) (hj : j < 6) (h : hasB (tb ^^^ (tb &&& s)) j) : tb ^^^ (tb &&& (s ||| 2 ^ j)) = (tb ^^^ (tb &&& s)) ^^^ 2 ^ j := by
  have h1 := List.all_eq_true.mp (List.all_eq_true.mp (List.all_eq_true.mp bt_yb tb (List.mem_range.mpr ht)) s (List.mem_range.mpr hs)) j (List.mem_range.mpr hj)
  rw [decide_eq_true h, Bool.not_true, Bool.false_or, decide_eq_true_eq] at h1
  exact h1
theorem bt_z : ∀ s, s < 64 → ∀ j, j < 6 → ¬ hasB s j → pct (s ||| 2 ^ j) = pct s + 1 := by decide +kernel
theorem st_l {tb l r j : Nat} {side : Int} (ht : tb < 64) (hl : l < 64) (hr : r < 64) (hj : j < 6) (hb : hasB (rmQ tb l r) j) : rmQ tb (l + 2 ^ j) r = rmQ tb l r ^^^ 2 ^ j ∧ mv side (l + 2 ^ j) r = 1 - mv side l r := by
  obtain ⟨h1, h2, h3⟩ := bt1 tb ht (l ||| r) (or64 hl hr) j hj hb
  have h4 : ¬ hasB l j ∧ ¬ hasB r j := not_or.mp (fun q => h2 ((bt3 l hl r hr j hj).mpr q))
  obtain ⟨g1, g2, -⟩ := bt2 l hl j hj h4.1
  have e : (l + 2 ^ j) ||| r = (l ||| r) ||| 2 ^ j := by rw [g1, Nat.or_assoc, Nat.or_comm (2 ^ j) r, ← Nat.or_assoc]
  refine ⟨?_, ?_⟩
  · unfold rmQ; rw [e]; exact bt_y tb ht _ (or64 hl hr) j hj hb
  · unfold mv; rw [e, bt_z _ (or64 hl hr) j hj h2]
    by_cases q : pct (l ||| r) % 2 = 0
    · rw [if_pos q, if_neg (by omega)]
    · rw [if_neg q, if_pos (by omega)]; omega
theorem st_r {tb l r j : Nat} {side : Int} (ht : tb < 64) (hl : l < 64) (hr : r < 64) (hj : j < 6) (hb : hasB (rmQ tb l r) j) : rmQ tb l (r + 2 ^ j) = rmQ tb l r ^^^ 2 ^ j ∧ mv side l (r + 2 ^ j) = 1 - mv side l r ∧ r + 2 ^ j = r ||| 2 ^ j := by
  obtain ⟨h1, h2, h3⟩ := bt1 tb ht (l ||| r) (or64 hl hr) j hj hb
  have h4 : ¬ hasB l j ∧ ¬ hasB r j := not_or.mp (fun q => h2 ((bt3 l hl r hr j hj).mpr q))
  obtain ⟨g1, g2, -⟩ := bt2 r hr j hj h4.2
  have e : l ||| (r + 2 ^ j) = (l ||| r) ||| 2 ^ j := by rw [g1, ← Nat.or_assoc]
  refine ⟨?_, ?_, g1⟩
  · unfold rmQ; rw [e]; exact bt_y tb ht _ (or64 hl hr) j hj hb
  · unfold mv; rw [e, bt_z _ (or64 hl hr) j hj h2]
    by_cases q : pct (l ||| r) % 2 = 0
    · rw [if_pos q, if_neg (by omega)]
    · rw [if_neg q, if_pos (by omega)]; omega
theorem mv_2 {side : Int} (hs : side = 0 ∨ side = 1) (l r : Nat) : mv side l r = 0 ∨ mv side l r = 1 := by
  unfold mv; split <;> omega
theorem oC_tT {fs : Int → Int} (hok : sOK fs) {side : Int} (hs : side = 0 ∨ side = 1) {tb lf rt : Nat} (ht : tb < al fs) (hrt : rt < al fs) (H0 : ∀ l r, l < 64 → r < 64 → VQ tb l r → rmQ tb l r = 0 → cm fs (rt ||| r) = lf ||| l) : ∀ (k l r : Nat), l < 64 → r < 64 → VQ tb l r → pct (rmQ tb l r) = k → vl fs 0 (cm fs (oC fs k (rt ||| r) (rmQ tb l r) (mv side l r) % 64)) = (tT fs tb lf rt side k l r).2.1 ∧ vl fs 1 (oC fs k (rt ||| r) (rmQ tb l r) (mv side l r) % 64) = (tT fs tb lf rt side k l r).2.2 ∧ (k ≠ 0 → ((oC fs k (rt ||| r) (rmQ tb l r) (mv side l r) / 64 : Nat) : Int) = (tT fs tb lf rt side k l r).1 + 1 ∧ 64 ≤ oC fs k (rt ||| r) (rmQ tb l r) (mv side l r))
  | 0, l, r, hl, hr, hv, hk => by
    have hal := al_b hok.1
    have h0 := (bt6 _ (rm64 (by omega))).mp hk
    have hc := H0 l r hl hr hv h0
    unfold oC tT
    have : rt ||| r < 64 := or64 (by omega) hr
    rw [Nat.mod_eq_of_lt this, hc]
    exact ⟨rfl, rfl, fun q => absurd rfl q⟩
  | k + 1, l, r, hl, hr, hv, hk => by
    have hal := al_b hok.1
    have hg := hok.1
    have ht64 : tb < 64 := by omega
    have hrm : rmQ tb l r < 64 := rm64 ht64
    have hm := mv_2 hs l r
    have hg6 : ∀ j, hasB (rmQ tb l r) j → j < (fs 0).toNat := fun j q => by
      rcases Nat.lt_or_ge j (fs 0).toNat with q2 | q2
      · exact q2
      · have hlt : rmQ tb l r < 2 ^ (fs 0).toNat := Nat.xor_lt_two_pow ht (Nat.lt_of_le_of_lt Nat.and_le_left ht)
        have : rmQ tb l r / 2 ^ j = 0 := Nat.div_eq_of_lt (Nat.lt_of_lt_of_le hlt (Nat.pow_le_pow_right (n := 2) (by omega) q2))
        unfold hasB at q; rw [this] at q; simp at q
    have IH : ∀ j, hasB (rmQ tb l r) j → vl fs 0 (cm fs (oC fs k (if mv side l r = 1 then (rt ||| r) ||| 2 ^ j else rt ||| r) (rmQ tb l r ^^^ 2 ^ j) (1 - mv side l r) % 64)) = (bY fs tb lf rt side l r j).1 ∧ vl fs 1 (oC fs k (if mv side l r = 1 then (rt ||| r) ||| 2 ^ j else rt ||| r) (rmQ tb l r ^^^ 2 ^ j) (1 - mv side l r) % 64) = (bY fs tb lf rt side l r j).2 := by
      intro j hb
      have hj := hg6 j hb
      unfold bY
      rw [hk, Nat.add_sub_cancel]
      by_cases q : mv side l r = 0
      · rw [if_neg (by omega), if_pos q]
        obtain ⟨v1, v2, v3⟩ := VQ_l ht64 hl hr (by omega) hv hb
        obtain ⟨s1, s2⟩ := st_l (side := side) ht64 hl hr (by omega) hb
        have := oC_tT hok hs ht hrt H0 k (l + 2 ^ j) r v2 hr v1 (by omega)
        rw [s1, s2] at this
        exact ⟨this.1, this.2.1⟩
      · rw [if_pos (by omega), if_neg q]
        obtain ⟨v1, v2, v3⟩ := VQ_r ht64 hl hr (by omega) hv hb
        obtain ⟨s1, s2, s3⟩ := st_r (side := side) ht64 hl hr (by omega) hb
        have := oC_tT hok hs ht hrt H0 k l (r + 2 ^ j) hl v2 v1 (by omega)
        rw [s1, s2, s3, ← Nat.or_assoc] at this
        rw [s3]
        exact ⟨this.1, this.2.1⟩
    have hbp : ∀ j, (0 ≤ (bY fs tb lf rt side l r j).1) ∧ (0 ≤ (bY fs tb lf rt side l r j).2) := by
      intro j; unfold bY
      split
      · exact ⟨(tT_b hok _ _ _).2.1.1, (tT_b hok _ _ _).2.2.1⟩
      · exact ⟨(tT_b hok _ _ _).2.1.1, (tT_b hok _ _ _).2.2.1⟩
    have hne : rmQ tb l r ≠ 0 := fun q => by rw [q] at hk; simp [pct] at hk
    obtain ⟨j1, j2, j3⟩ := bt5 _ hrm hne
    have eT := tT_s (fs := fs) (tb := tb) (lf := lf) (rt := rt) (side := side) (l := l) (r := r) (by omega)
    rw [hk] at eT
    rw [eT]
    unfold oC
    generalize hE : (fun j => oC fs k (if mv side l r = 1 then (rt ||| r) ||| 2 ^ j else rt ||| r) (rmQ tb l r ^^^ 2 ^ j) (1 - mv side l r)) = e
    have IH2 : ∀ j, hasB (rmQ tb l r) j → vl fs 0 (cm fs (e j % 64)) = (bY fs tb lf rt side l r j).1 ∧ vl fs 1 (e j % 64) = (bY fs tb lf rt side l r j).2 := by rw [← hE]; exact IH
    rcases tf_c (by_ := bY fs tb lf rt side l r) (m := mv side l r) (rem := rmQ tb l r) (G := (fs 0).toNat) (fs 0).toNat (Nat.le_refl _) with ⟨q, -⟩ | ⟨j0, q0, q⟩
    · exact absurd j3 (q j1 (by omega) (hg6 _ j3))
    · rw [Nat.sub_self] at q0
      rcases oF_c (e := e) (fs := fs) (rest := rmQ tb l r) (right := rt ||| r) hm hbp (fs 0).toNat (fun j hj hb => by
        have := IH2 j hb
        rcases hm with hm | hm
        · rw [hm, if_pos rfl]; exact this.1
        · rw [hm, if_neg (by decide)]; exact this.2) with ⟨z, -⟩ | ⟨i0, z0, z⟩
      · exact absurd j3 (z j1 (hg6 _ j3))
      · have ei := isB_1 z0 q0
        subst ei
        rw [z, q]
        have := IH2 i0 z0.2.1
        show vl fs 0 (cm fs ((e i0 % 64 + 64 * (i0 + 1)) % 64)) = _ ∧ vl fs 1 ((e i0 % 64 + 64 * (i0 + 1)) % 64) = _ ∧ (k + 1 ≠ 0 → (((e i0 % 64 + 64 * (i0 + 1)) / 64 : Nat) : Int) = (i0 : Int) + 1 ∧ 64 ≤ e i0 % 64 + 64 * (i0 + 1))
        rw [show (e i0 % 64 + 64 * (i0 + 1)) % 64 = e i0 % 64 by omega]
        exact ⟨this.1, this.2, fun _ => ⟨by omega, by omega⟩⟩
theorem gO_part {fs fn : Int → Int} (hok : sOK fs) (hn : nOK fn) {l r : Nat} (hv : VQ (gO fn 2 (fs 0).toNat) l r) (h0 : rmQ (gO fn 2 (fs 0).toNat) l r = 0) : cm fs (gO fn 1 (fs 0).toNat ||| r) = gO fn 0 (fs 0).toNat ||| l := by
  have hg := hok.1
  apply Nat.eq_of_testBit_eq
  intro i
  have v1 := congrArg (fun z => z.testBit i) hv.1
  have v2 := congrArg (fun z => z.testBit i) hv.2
  have v3 := congrArg (fun z => z.testBit i) h0
  unfold cm al
  simp only [Nat.testBit_xor, Nat.testBit_and, Nat.testBit_or, Nat.testBit_two_pow_sub_one, gO_t, Nat.zero_testBit, rmQ] at *
  by_cases q : i < (fs 0).toNat
  · have hb := hn.1 (i : Int) (by omega) (by omega)
    have h3 : fn (i : Int) = 0 ∨ fn (i : Int) = 1 ∨ fn (i : Int) = 2 := by omega
    rcases h3 with h3 | h3 | h3 <;> simp only [h3, q] at * <;> revert v1 v2 v3 <;> cases l.testBit i <;> cases r.testBit i <;> simp
  · simp only [q] at *
    revert v1 v2 v3
    cases l.testBit i <;> cases r.testBit i <;> simp
theorem oC_tr {fs fn : Int → Int} (hok : sOK fs) (hn : nOK fn) {side : Int} (hs : side = 0 ∨ side = 1) : vl fs 0 (cm fs (oC fs (pct (gO fn 2 (fs 0).toNat)) (gO fn 1 (fs 0).toNat) (gO fn 2 (fs 0).toNat) side % 64)) = (trT fs fn side).2.1 ∧ vl fs 1 (oC fs (pct (gO fn 2 (fs 0).toNat)) (gO fn 1 (fs 0).toNat) (gO fn 2 (fs 0).toNat) side % 64) = (trT fs fn side).2.2 ∧ (trT fs fn side).1 = (if gO fn 2 (fs 0).toNat = 0 then -9 else ((oC fs (pct (gO fn 2 (fs 0).toNat)) (gO fn 1 (fs 0).toNat) (gO fn 2 (fs 0).toNat) side / 64 : Nat) : Int) - 1) ∧ (gO fn 2 (fs 0).toNat ≠ 0 → 64 ≤ oC fs (pct (gO fn 2 (fs 0).toNat)) (gO fn 1 (fs 0).toNat) (gO fn 2 (fs 0).toNat) side) := by
  have hal := al_b hok.1
  have e0 : rmQ (gO fn 2 (fs 0).toNat) 0 0 = gO fn 2 (fs 0).toNat := by unfold rmQ; simp
  have e1 : mv side 0 0 = side := by unfold mv; simp [pct]
  have hb : gO fn 2 (fs 0).toNat < al fs := gO_b _
  have := oC_tT hok hs (tb := gO fn 2 (fs 0).toNat) (lf := gO fn 0 (fs 0).toNat) (rt := gO fn 1 (fs 0).toNat) hb (gO_b _) (fun l r _ _ v z => gO_part hok hn v z) (pct (gO fn 2 (fs 0).toNat)) 0 0 (by omega) (by omega) ⟨by simp, by simp⟩ (by rw [e0])
  rw [e0, e1, Nat.or_zero] at this
  have h6 := bt6 (gO fn 2 (fs 0).toNat) (by omega)
  refine ⟨this.1, this.2.1, ?_, fun q => (this.2.2 (fun z => q (h6.mp z))).2⟩
  by_cases q : gO fn 2 (fs 0).toNat = 0
  · rw [if_pos q]; unfold trT; rw [h6.mpr q]; rfl
  · rw [if_neg q, (this.2.2 (fun z => q (h6.mp z))).1]; unfold trT; omega
