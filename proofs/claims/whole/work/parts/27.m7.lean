/-! the reference: what is written -/
def cp9 (f g : Int → Int) (i j : Int) : Int → Int := fun k => if j ≤ k ∧ k < j + 9 then f (i + (k - j)) else g k
set_option maxRecDepth 100000 in
theorem m_copies {G : aG} {d n : Nat} {h : AH} {a b N1 N2 : Nat} {f g : Int → Int} {i j : Int} (hab : a ≠ b) (hi : 0 ≤ i ∧ i + 9 ≤ (N1 : Int)) (hj : 0 ≤ j ∧ j + 9 ≤ (N2 : Int)) (hN1 : N1 < 2147483648) (hN2 : N2 < 2147483648) (h_from : h a = some (aIa G N1 f)) (h_to : h b = some (aIa G N2 g)) : aE G d kX11_copies [.ref a, aI i, .ref b, aI j] n h none (fun h' => h' b = some (aIa G N2 (cp9 f g i j)) ∧ ∀ q, q ≠ b → h' q = h q) := by
  refine aCt_of (lv := [some (.ref a), some (aI i), some (.ref b), some (aI j), none]) knX11_copies.1 rfl rfl (Nat.le_of_ble_eq_true rfl) (fun x hG hsc X => ?_)
  subst hG
  refine A_iconst X dX11_copies_0 ?_
  refine A_is4 X dX11_copies_1 ?_
  refine lp_0 (P := fun t => ∀ (hh : AH) (u : Int → Int), hh b = some (aIa x.1 N2 u) → (∀ k : Int, u k = if j ≤ k ∧ k < j + (t : Int) then f (i + (k - j)) else g k) → (∀ q, q ≠ b → hh q = h q) → AW x 0 0 n hh 3 [some (.ref a), some (aI i), some (.ref b), some (aI j), some (aI (t : Int))] []) 9 ?_ ?_ h g h_to (fun k => by rw [if_neg (by omega)]) (fun _ _ => rfl)
  · intro hh u hu hk hq
    refine A_il4 X dX11_copies_3 ?_
    refine A_bipush X dX11_copies_5 ?_
    refine A_icmp_ge (t := 28) X (by omega) (by omega) dX11_copies_7 (fun c7 => ?_) (fun c7 => by exfalso; omega)
    exact A_retv X dX11_copies_28 rfl ⟨rfl, rfl, by rw [hu]; congr 2; funext k; exact hk k, hq⟩
  · intro t ht ih hh u hu hk hq
    have h_from := (hq a hab).trans h_from
    have h_to := hu
    refine A_il4 X dX11_copies_3 ?_
    refine A_bipush X dX11_copies_5 ?_
    refine A_icmp_ge (t := 28) X (by omega) (by omega) dX11_copies_7 (fun c7 => by exfalso; omega) (fun c7 => ?_)
    refine A_al2 X dX11_copies_10 ?_
    refine A_il3 X dX11_copies_11 ?_
    refine A_il4 X dX11_copies_12 ?_
    refine A_iadd X dX11_copies_14 ?_
    refine A_al0 X dX11_copies_15 ?_
    refine A_il1 X dX11_copies_16 ?_
    refine A_il4 X dX11_copies_17 ?_
    refine A_iadd X dX11_copies_19 ?_
    refine A_iald X h_from (by omega) (hN := hN1) dX11_copies_20 ?_
    refine A_iast X h_to (by omega) (hN := hN2) dX11_copies_21 ?_
    refine A_gen (fun h21 e21 k21 q21 => ?_)
    refine A_ii4 X dX11_copies_22 ?_
    refine A_goto (t := 3) X dX11_copies_25 ?_
    refine ih h21 _ e21 (fun k => ?_) (fun q hqb => (k21 q hqb).trans (hq q hqb))
    unfold aiu
    by_cases hkt : k = j + (t : Int)
    · rw [if_pos hkt, if_pos (by omega), hkt, show j + (t : Int) - j = (t : Int) by omega]
    · rw [if_neg hkt, hk k]
      by_cases hin : j ≤ k ∧ k < j + (t : Int)
      · rw [if_pos hin, if_pos (by omega)]
      · rw [if_neg hin, if_neg (by omega)]
def clF : Int → Int := fun k => if k = 2 then 1 else if k = 3 then 6 else 0
set_option maxRecDepth 100000 in
theorem m_clean {G : aG} {d n : Nat} {h : AH} {a : Nat} {f : Int → Int} (h_t : h a = some (aIa G 32 f)) : aE G d kX11_clean [.ref a] n h none (fun h' => h' a = some (aIa G 32 clF) ∧ ∀ q, q ≠ a → h' q = h q) := by
  refine aCt_of (lv := [some (.ref a), none]) knX11_clean.1 rfl rfl (Nat.le_of_ble_eq_true rfl) (fun x hG hsc X => ?_)
  subst hG
  refine A_iconst X dX11_clean_0 ?_
  refine A_is1 X dX11_clean_1 ?_
  refine lp_0 (P := fun i => ∀ (hh : AH) (u : Int → Int), hh a = some (aIa x.1 32 u) → (∀ k : Int, 0 ≤ k → k < (i : Int) → u k = 0) → (∀ q, q ≠ a → hh q = h q) → AW x 0 0 n hh 2 [some (.ref a), some (aI (i : Int))] []) 32 ?_ ?_ h f h_t (fun k h1 h2 => by omega) (fun _ _ => rfl)
  · intro hh u h_t hk hq
    refine A_il1 X dX11_clean_2 ?_
    refine A_bipush X dX11_clean_3 ?_
    refine A_icmp_ge (t := 18) X (by omega) (by omega) dX11_clean_5 (fun c5 => ?_) (fun c5 => by exfalso; omega)
    refine A_al0 X dX11_clean_18 ?_
    refine A_iconst X dX11_clean_19 ?_
    refine A_iconst X dX11_clean_20 ?_
    refine A_iast X h_t (by omega) dX11_clean_21 ?_
    refine A_gen (fun h21 e21 k21 q21 => ?_)
    have h_t := e21
    refine A_al0 X dX11_clean_22 ?_
    refine A_iconst X dX11_clean_23 ?_
    refine A_bipush X dX11_clean_24 ?_
    refine A_iast X h_t (by omega) dX11_clean_26 ?_
    refine A_gen (fun h26 e26 k26 q26 => ?_)
    have h_t := e26
    refine A_norm clF h_t (fun k h1 h2 => ?_) ?_
    · unfold aiu clF
      by_cases h3 : k = 3
      · rw [if_pos h3, if_neg (by omega), if_pos h3]
      · rw [if_neg h3]
        by_cases h22 : k = 2
        · rw [if_pos h22, if_pos h22]
        · rw [if_neg h22, if_neg h22, if_neg h3]; exact hk k h1 (by omega)
    · exact A_retv X dX11_clean_27 rfl ⟨rfl, rfl, aup_s _ _ _, fun q hqa => by rw [aup_n hqa, k26 q hqa, k21 q hqa, hq q hqa]⟩
  · intro i hi ih hh u h_t hk hq
    refine A_il1 X dX11_clean_2 ?_
    refine A_bipush X dX11_clean_3 ?_
    refine A_icmp_ge (t := 18) X (by omega) (by omega) dX11_clean_5 (fun c5 => by exfalso; omega) (fun c5 => ?_)
    refine A_al0 X dX11_clean_8 ?_
    refine A_il1 X dX11_clean_9 ?_
    refine A_iconst X dX11_clean_10 ?_
    refine A_iast X h_t (by omega) dX11_clean_11 ?_
    refine A_gen (fun h11 e11 k11 q11 => ?_)
    have h_t := e11
    refine A_ii1 X dX11_clean_12 ?_
    refine A_goto (t := 2) X dX11_clean_15 ?_
    refine ih h11 _ e11 (fun k h1 h2 => ?_) (fun q hqb => (k11 q hqb).trans (hq q hqb))
    unfold aiu
    split
    · rfl
    · exact hk k h1 (by omega)
def bgF : Int → Int := fun k => if k < 6 then 2 else 0
set_option maxRecDepth 100000 in
theorem m_begins {G : aG} {d n : Nat} {h : AH} {tm : Nat} {un sz sm tr ak bg mt : Int} {fn fk : Int → Int} (h_this : h tm = some (aOb 11 (mO tm un sz sm tr ak bg mt))) (h_this_now : h (tm + 3) = some (aIa G 9 fn)) (h_this_kept : h (tm + 6) = some (aZa G 2 fk)) : aE G d kX11_begins [.ref tm] n h none (fun h' => h' tm = some (aOb 11 (mO tm 0 sz 0 tr ak bg mt)) ∧ h' (tm + 3) = some (aIa G 9 bgF) ∧ h' (tm + 6) = some (aZa G 2 (fun _ => 0)) ∧ ∀ q, q ≠ tm → q ≠ tm + 3 → q ≠ tm + 6 → h' q = h q) := by
  refine aCt_of (lv := [some (.ref tm), none]) knX11_begins.1 rfl rfl (Nat.le_of_ble_eq_true rfl) (fun x hG hsc X => ?_)
  subst hG
  refine A_iconst X dX11_begins_0 ?_
  refine A_is1 X dX11_begins_1 ?_
  refine lp_0 (P := fun i => ∀ (hh : AH) (u : Int → Int), hh (tm + 3) = some (aIa x.1 9 u) → (∀ k : Int, 0 ≤ k → k < (i : Int) → u k = bgF k) → (∀ q, q ≠ tm + 3 → hh q = h q) → AW x 0 0 n hh 2 [some (.ref tm), some (aI (i : Int))] []) 9 ?_ ?_ h fn h_this_now (fun k h1 h2 => by omega) (fun _ _ => rfl)
  · intro hh u hu hk hq
    have h_this := (hq tm (by omega)).trans h_this
    have h_this_kept := (hq (tm + 6) (by omega)).trans h_this_kept
    have h_this_now := hu
    refine A_il1 X dX11_begins_2 ?_
    refine A_bipush X dX11_begins_3 ?_
    refine A_icmp_ge (t := 31) X (by omega) (by omega) dX11_begins_5 (fun c5 => ?_) (fun c5 => by exfalso; omega)
    refine A_al0 X dX11_begins_31 ?_
    refine A_iconst X dX11_begins_32 ?_
    refine A_putf X flX11_61 h_this dX11_begins_33 ?_
    refine A_gen (fun h33 e33 k33 q33 => ?_)
    have h_this := e33
    have h_this_now := (k33 _ (by omega)).trans h_this_now
    have h_this_kept := (k33 _ (by omega)).trans h_this_kept
    refine A_al0 X dX11_begins_36 ?_
    refine A_iconst X dX11_begins_37 ?_
    refine A_putf X flX11_65 h_this dX11_begins_38 ?_
    refine A_gen (fun h38 e38 k38 q38 => ?_)
    have h_this := e38
    have h_this_now := (k38 _ (by omega)).trans h_this_now
    have h_this_kept := (k38 _ (by omega)).trans h_this_kept
    refine A_al0 X dX11_begins_41 ?_
    refine A_getf X flX11_25 h_this rfl dX11_begins_42 ?_
    refine A_iconst X dX11_begins_45 ?_
    refine A_iconst X dX11_begins_46 ?_
    refine A_zast X h_this_kept (by omega) (by omega) dX11_begins_47 ?_
    refine A_gen (fun h47 e47 k47 q47 => ?_)
    have h_this := (k47 _ (by omega)).trans h_this
    have h_this_now := (k47 _ (by omega)).trans h_this_now
    have h_this_kept := e47
    refine A_al0 X dX11_begins_48 ?_
    refine A_getf X flX11_25 h_this rfl dX11_begins_49 ?_
    refine A_iconst X dX11_begins_52 ?_
    refine A_iconst X dX11_begins_53 ?_
    refine A_zast X h_this_kept (by omega) (by omega) dX11_begins_54 ?_
    refine A_gen (fun h54 e54 k54 q54 => ?_)
    have h_this := (k54 _ (by omega)).trans h_this
    have h_this_now := (k54 _ (by omega)).trans h_this_now
    have h_this_kept := e54
    refine A_norm bgF h_this_now (fun k h1 h2 => hk k h1 h2) ?_
    refine A_gen (fun ha ea ka qa => ?_)
    have h_this_kept := (ka _ (by omega)).trans h_this_kept
    refine A_normz (fun _ => 0) h_this_kept (fun k h1 h2 => ?_) ?_
    · unfold aiu
      split
      · rfl
      · rw [if_pos (by omega)]
    · exact A_retv X dX11_begins_55 rfl ⟨rfl, rfl, by rw [aup_n (by omega), ka _ (by omega)]; exact h_this, by rw [aup_n (by omega)]; exact ea, aup_s _ _ _, fun q h1 h2 h3 => by rw [aup_n h3, ka q h2, k54 q h3, k47 q h3, k38 q h1, k33 q h1, hq q h2]⟩
  · intro i hi ih hh u hu hk hq
    have h_this := (hq tm (by omega)).trans h_this
    have h_this_now := hu
    refine A_il1 X dX11_begins_2 ?_
    refine A_bipush X dX11_begins_3 ?_
    refine A_icmp_ge (t := 31) X (by omega) (by omega) dX11_begins_5 (fun c5 => by exfalso; omega) (fun c5 => ?_)
    refine A_al0 X dX11_begins_8 ?_
    refine A_getf X flX11_16 h_this rfl dX11_begins_9 ?_
    refine A_il1 X dX11_begins_12 ?_
    refine A_il1 X dX11_begins_13 ?_
    refine A_bipush X dX11_begins_14 ?_
    refine A_icmp_ge (t := 23) X (by omega) (by omega) dX11_begins_16 (fun c16 => ?_) (fun c16 => ?_)
    · refine A_iconst X dX11_begins_23 ?_
      refine A_iast X h_this_now (by omega) dX11_begins_24 ?_
      refine A_gen (fun h24 e24 k24 q24 => ?_)
      refine A_ii1 X dX11_begins_25 ?_
      refine A_goto (t := 2) X dX11_begins_28 ?_
      refine ih h24 _ e24 (fun k h1 h2 => ?_) (fun q hqb => (k24 q hqb).trans (hq q hqb))
      unfold aiu
      split
      · next e => rw [e, bgF, if_neg (by omega)]
      · exact hk k h1 (by omega)
    · refine A_iconst X dX11_begins_19 ?_
      refine A_goto (t := 24) X dX11_begins_20 ?_
      refine A_iast X h_this_now (by omega) dX11_begins_24 ?_
      refine A_gen (fun h24 e24 k24 q24 => ?_)
      refine A_ii1 X dX11_begins_25 ?_
      refine A_goto (t := 2) X dX11_begins_28 ?_
      refine ih h24 _ e24 (fun k h1 h2 => ?_) (fun q hqb => (k24 q hqb).trans (hq q hqb))
      unfold aiu
      split
      · next e => rw [e, bgF, if_pos (by omega)]
      · exact hk k h1 (by omega)
