/-! the reference: suit(), whole -/
def psR (ft : Int → Int) (z : Nat) : Nat ⊕ ((Int → Int) × Int) := ps ft z 201 clF false false 0 0
def sA (r : Nat ⊕ ((Int → Int) × Int)) : Int := match r with
  | .inl f => -10 - (f : Int)
  | .inr (_, it) => it
def qSuit (ft : Int → Int) (z : Nat) : Int := sA (psR ft z)
def sF (r : Nat ⊕ ((Int → Int) × Int)) (fs : Int → Int) : Int → Int := match r with
  | .inl _ => fs
  | .inr (fr, _) => fr
theorem ps_ok {ft : Int → Int} {z : Nat} : ∀ (k : Nat) (fr : Int → Int) (ht ct : Bool) (p : Nat) (it : Int) (fr2 : Int → Int) (it2 : Int), sOK fr → p ≤ z → ps ft z k fr ht ct p it = .inr (fr2, it2) → sOK fr2
  | 0, fr, ht, ct, p, it, fr2, it2, hok, hp, h => by
    unfold ps at h
    cases h
    exact hok
  | k + 1, fr, ht, ct, p, it, fr2, it2, hok, hp, h => by
    unfold ps at h
    split at h
    · cases h; exact hok
    next hz => split at h
               · cases h
               next hi => exact ps_ok k _ _ _ _ _ _ _ (sOK_item (by omega) hok hi) (pItem_b (by omega) hi).2 h
theorem psR_ok {ft : Int → Int} {z : Nat} {fs : Int → Int} (hok : sOK fs) : sOK (sF (psR ft z) fs) := by
  unfold sF
  split
  · exact hok
  · next h => exact ps_ok 201 clF false false 0 0 _ _ sOK_clF (Nat.zero_le z) h
set_option maxRecDepth 100000 in
theorem m_suitL {x : aX} {d n : Nat} {h : AH} {tm : Nat} {un sm tr : Int} {ft : Int → Int} {z : Nat} {post : aPost} (X : aOk x (d + 4) cX11_suit RX11 "suit" (some .int) 0 0 post) (hz : z ≤ 200) (ht : tOK ft z) (h_text : h (tm + 7) = some (aIa x.1 200 ft)) (QP : Nat ⊕ ((Int → Int) × Int))
    (hbad : ∀ (f : Nat) (hh : AH), QP = .inl f → (∃ (ak2 bg2 mt2 : Int) (fr2 : Int → Int), hh tm = some (aOb 11 (mO tm un (z : Int) sm tr ak2 bg2 mt2)) ∧ hh (tm + 2) = some (aIa x.1 32 fr2)) → (∀ q, q ≠ tm → q ≠ tm + 2 → hh q = h q) → post (some (aI (-10 - (f : Int)))) n hh)
    (hgood : ∀ (fr : Int → Int) (it : Int) (hh : AH), QP = .inr (fr, it) → (∃ (ak2 bg2 mt2 : Int), hh tm = some (aOb 11 (mO tm un (z : Int) sm tr ak2 bg2 mt2))) → hh (tm + 2) = some (aIa x.1 32 fr) → (∀ q, q ≠ tm → q ≠ tm + 2 → hh q = h q) → AW x 0 0 n hh 55 [some (.ref tm), some (aI it), none, none] []) :
    ∀ (k p : Nat) (it : Int) (fr : Int → Int) (hb cb : Bool) (hh : AH), z - p ≤ k → p ≤ z → sOK fr → ps ft z k fr hb cb p it = QP → hh tm = some (aOb 11 (mO tm un (z : Int) sm tr (sk ft z p : Nat) (sk ft z p : Nat) (mtN hb cb : Nat))) → hh (tm + 2) = some (aIa x.1 32 fr) → (∀ q, q ≠ tm → q ≠ tm + 2 → hh q = h q) → AW x 0 0 n hh 24 [some (.ref tm), some (aI it), some (aI (ch ft z (sk ft z p))), none] [] := by
  intro k
  induction k with
  | zero =>
    intro p it fr hb cb hh hk hp hok hps h_this h_this_read hq
    have e : sk ft z p = p := skP_f (by omega)
    have ec : ch ft z (sk ft z p) = -1 := by rw [ch, if_neg (by omega)]
    rw [ec]
    refine A_il2 X dX11_suit_24 ?_
    refine A_if_lt (t := 55) X (by omega) dX11_suit_25 (fun c25 => ?_) (fun c25 => by exfalso; omega)
    exact A_fg2 (hgood fr it hh (by rw [← hps, ps]) ⟨_, _, _, h_this⟩ h_this_read hq)
  | succ k ih =>
    intro p it fr hb cb hh hk hp hok hps h_this h_this_read hq
    have h_this_text := (hq (tm + 7) (by omega) (by omega)).trans h_text
    have hbd := sk_b (ft := ft) hp
    unfold ps at hps
    by_cases hend : z ≤ sk ft z p
    · rw [if_pos hend] at hps
      have ec : ch ft z (sk ft z p) = -1 := by rw [ch, if_neg (by omega)]
      rw [ec]
      refine A_il2 X dX11_suit_24 ?_
      refine A_if_lt (t := 55) X (by omega) dX11_suit_25 (fun c25 => ?_) (fun c25 => by exfalso; omega)
      exact A_fg2 (hgood fr it hh hps.symm ⟨_, _, _, h_this⟩ h_this_read hq)
    · rw [if_neg hend] at hps
      generalize hs : sk ft z p = s at *
      have ec : ch ft z s = ft (s : Int) := by rw [ch, if_pos (by omega)]
      have hc := ht (s : Int) (by omega) (by omega)
      rw [ec]
      refine A_il2 X dX11_suit_24 ?_
      refine A_if_lt (t := 55) X (by omega) dX11_suit_25 (fun c25 => by exfalso; omega) (fun c25 => ?_)
      refine A_al0 X dX11_suit_28 ?_
      refine A_il2 X dX11_suit_29 ?_
      refine A_eVi1 X (m_takesItem (ht2 := hb) (ct2 := cb) (s := s) rfl rfl hok.1 hok.2.1 hz (by omega) ht h_this h_this_text h_this_read) h_this knX11_takesItem mlX11_110 dX11_suit_30 (fun h30 p30 => ?_)
      obtain ⟨mt2, q1, ⟨ak2, bg2, fr2, h_this, h_this_read, q2, q3⟩, hq2⟩ := p30
      have h_this_text := (hq2 _ (by omega) (by omega)).trans h_this_text
      cases hR : pItem ft z fr hb cb s with
      | inl f =>
        rw [hR] at hps
        have eb := q2 f hR
        subst eb
        have eB : isR (Sum.inl f : Nat ⊕ ((Int → Int) × Nat)) = false := rfl
        rw [bI_f (by rw [eB]; exact Bool.false_ne_true)]
        refine A_if_ne (t := 44) X (by omega) dX11_suit_33 (fun c33 => by exfalso; omega) (fun c33 => ?_)
        refine A_bipush X dX11_suit_36 ?_
        refine A_al0 X dX11_suit_38 ?_
        refine A_getf X flX11_76 h_this rfl dX11_suit_39 ?_
        refine A_isub X dX11_suit_42 ?_
        exact A_ret X dX11_suit_43 rfl (hbad f h30 hps.symm ⟨_, _, _, _, h_this, h_this_read⟩ (fun q h1 h2 => by rw [hq2 q h1 h2, hq q h1 h2]))
      | inr w =>
        obtain ⟨fr3, p3⟩ := w
        rw [hR] at hps
        obtain ⟨rfl, rfl⟩ := q3 fr3 p3 hR
        have em := q1 (by rw [hR]; rfl)
        subst em
        have hpb := pItem_b (by omega) hR
        have hok2 := sOK_item (by omega) hok hR
        rw [show bI (isR (Sum.inr (fr2, p3) : Nat ⊕ ((Int → Int) × Nat)) = true) = 1 from bI_t rfl]
        refine A_if_ne (t := 44) X (by omega) dX11_suit_33 (fun c33 => ?_) (fun c33 => by exact absurd c33 (by decide))
        refine A_ii1 X dX11_suit_44 ?_
        refine A_al0 X dX11_suit_47 ?_
        refine A_eVi0 X (m_first (p := p3) hz hpb.2 ht h_this h_this_text) h_this knX11_first mlX11_79 dX11_suit_48 (fun h48 p48 => ?_)
        obtain ⟨h_this, hq3⟩ := p48
        refine A_is2 X dX11_suit_51 ?_
        refine A_goto (t := 24) X dX11_suit_52 ?_
        exact ih p3 (it + 1) fr2 _ _ h48 (by omega) hpb.2 hok2 hps h_this ((hq3 _ (by omega)).trans h_this_read) (fun q h1 h2 => by rw [hq3 q h1, hq2 q h1 h2, hq q h1 h2])
set_option maxRecDepth 100000 in
theorem M_suit {G : aG} {d n : Nat} {h : AH} {tm : Nat} {fs fn fp fi fk ft fe : Int → Int} {un sz sm tr : Int} {z : Nat} (hsz : sz = (z : Int)) (hz : z ≤ 200) (ht : tOK ft z) (hok : sOK fs) (hW : mW G tm h fs fn fp fi fk ft fe un sz sm tr) : aE G (d + 4) kX11_suit [.ref tm] n h (some (aI (qSuit ft z))) (fun h' => mFr tm h h' ∧ mW G tm h' (sF (psR ft z) fs) (if isR (psR ft z) = true then bgF else fn) fp fi (if isR (psR ft z) = true then (fun _ => 0) else fk) ft fe (if isR (psR ft z) = true then 0 else un) (if isR (psR ft z) = true then 0 else sz) (if isR (psR ft z) = true then 0 else sm) tr) := by
  subst hsz
  obtain ⟨ak, bg, mt, fr, f9, f10, f11, f12, f13, h_this, h_this_suit, h_this_read, h_this_now, h_this_past, h_this_images, h_this_kept, h_this_text, h_this_seen, h_this_ends, h_this_endsRight, h_this_takes, h_this_can, h_this_then⟩ := hW
  refine aCt_of (lv := [some (.ref tm), none, none, none]) knX11_suit.1 rfl rfl (Nat.le_of_ble_eq_true rfl) (fun x hG hsc X => ?_)
  subst hG
  unfold qSuit at X
  generalize hQP : psR ft z = QP at X
  have good : ∀ (fr : Int → Int) (it : Int) (hh : AH), QP = .inr (fr, it) → (∃ (ak2 bg2 mt2 : Int), hh tm = some (aOb 11 (mO tm un (z : Int) sm tr ak2 bg2 mt2))) → hh (tm + 2) = some (aIa x.1 32 fr) → (∀ q, q ≠ tm → q ≠ tm + 2 → hh q = h q) → AW x 0 0 n hh 55 [some (.ref tm), some (aI it), none, none] [] := by
    intro fr it hh hqp ⟨ak2, bg2, mt2, h_this⟩ h_this_read hq
    subst hqp
    have h_this_suit := (hq _ (by omega) (by omega)).trans h_this_suit
    have h_this_now := (hq _ (by omega) (by omega)).trans h_this_now
    have h_this_past := (hq _ (by omega) (by omega)).trans h_this_past
    have h_this_images := (hq _ (by omega) (by omega)).trans h_this_images
    have h_this_kept := (hq _ (by omega) (by omega)).trans h_this_kept
    have h_this_text := (hq _ (by omega) (by omega)).trans h_this_text
    have h_this_seen := (hq _ (by omega) (by omega)).trans h_this_seen
    have h_this_ends := (hq _ (by omega) (by omega)).trans h_this_ends
    have h_this_endsRight := (hq _ (by omega) (by omega)).trans h_this_endsRight
    have h_this_takes := (hq _ (by omega) (by omega)).trans h_this_takes
    have h_this_can := (hq _ (by omega) (by omega)).trans h_this_can
    have h_this_then := (hq _ (by omega) (by omega)).trans h_this_then
    refine A_iconst X dX11_suit_55 ?_
    refine A_is3 X dX11_suit_56 ?_
    refine lp_0 (P := fun i => ∀ (hg : AH) (u : Int → Int), hg (tm + 1) = some (aIa x.1 32 u) → (∀ k : Int, 0 ≤ k → k < (i : Int) → u k = fr k) → (∀ q, q ≠ tm + 1 → hg q = hh q) → AW x 0 0 n hg 57 [some (.ref tm), some (aI it), none, some (aI (i : Int))] []) 32 ?_ ?_ hh fs h_this_suit (fun k h1 h2 => by omega) (fun _ _ => rfl)
    · intro hg u hu hk hq2
      have hu2 := hu
      have h_this := (hq2 _ (by omega)).trans h_this
      have h_this_read := (hq2 _ (by omega)).trans h_this_read
      have h_this_now := (hq2 _ (by omega)).trans h_this_now
      have h_this_past := (hq2 _ (by omega)).trans h_this_past
      have h_this_images := (hq2 _ (by omega)).trans h_this_images
      have h_this_kept := (hq2 _ (by omega)).trans h_this_kept
      have h_this_text := (hq2 _ (by omega)).trans h_this_text
      have h_this_seen := (hq2 _ (by omega)).trans h_this_seen
      have h_this_ends := (hq2 _ (by omega)).trans h_this_ends
      have h_this_endsRight := (hq2 _ (by omega)).trans h_this_endsRight
      have h_this_takes := (hq2 _ (by omega)).trans h_this_takes
      have h_this_can := (hq2 _ (by omega)).trans h_this_can
      have h_this_then := (hq2 _ (by omega)).trans h_this_then
      refine A_norm fr hu (fun k h1 h2 => hk k h1 h2) ?_
      refine A_gen (fun ha ea ka qa => ?_)
      have h_this_suit := ea
      have h_this := (ka _ (by omega)).trans h_this
      have h_this_read := (ka _ (by omega)).trans h_this_read
      have h_this_now := (ka _ (by omega)).trans h_this_now
      have h_this_past := (ka _ (by omega)).trans h_this_past
      have h_this_images := (ka _ (by omega)).trans h_this_images
      have h_this_kept := (ka _ (by omega)).trans h_this_kept
      have h_this_text := (ka _ (by omega)).trans h_this_text
      have h_this_seen := (ka _ (by omega)).trans h_this_seen
      have h_this_ends := (ka _ (by omega)).trans h_this_ends
      have h_this_endsRight := (ka _ (by omega)).trans h_this_endsRight
      have h_this_takes := (ka _ (by omega)).trans h_this_takes
      have h_this_can := (ka _ (by omega)).trans h_this_can
      have h_this_then := (ka _ (by omega)).trans h_this_then
      refine A_il3 X dX11_suit_57 ?_
      refine A_bipush X dX11_suit_58 ?_
      refine A_icmp_ge (t := 81) X (by omega) (by omega) dX11_suit_60 (fun c60 => ?_) (fun c60 => by exfalso; omega)
      refine A_al0 X dX11_suit_81 ?_
      refine A_iconst X dX11_suit_82 ?_
      refine A_putf X flX11_70 h_this dX11_suit_83 ?_
      refine A_gen (fun h83 e83 k83 q83 => ?_)
      have h_this := e83
      have h_this_suit := (k83 _ (by omega)).trans h_this_suit
      have h_this_read := (k83 _ (by omega)).trans h_this_read
      have h_this_now := (k83 _ (by omega)).trans h_this_now
      have h_this_past := (k83 _ (by omega)).trans h_this_past
      have h_this_images := (k83 _ (by omega)).trans h_this_images
      have h_this_kept := (k83 _ (by omega)).trans h_this_kept
      have h_this_text := (k83 _ (by omega)).trans h_this_text
      have h_this_seen := (k83 _ (by omega)).trans h_this_seen
      have h_this_ends := (k83 _ (by omega)).trans h_this_ends
      have h_this_endsRight := (k83 _ (by omega)).trans h_this_endsRight
      have h_this_takes := (k83 _ (by omega)).trans h_this_takes
      have h_this_can := (k83 _ (by omega)).trans h_this_can
      have h_this_then := (k83 _ (by omega)).trans h_this_then
      refine A_al0 X dX11_suit_86 ?_
      refine A_eVv0 X (m_begins h_this h_this_now h_this_kept) h_this knX11_begins mlX11_54 dX11_suit_87 (fun h87 p87 => ?_)
      obtain ⟨b1, b2, b3, b4⟩ := p87
      have h_this := b1
      have h_this_now := b2
      have h_this_kept := b3
      have h_this_suit := (b4 _ (by omega) (by omega) (by omega)).trans h_this_suit
      have h_this_read := (b4 _ (by omega) (by omega) (by omega)).trans h_this_read
      have h_this_past := (b4 _ (by omega) (by omega) (by omega)).trans h_this_past
      have h_this_images := (b4 _ (by omega) (by omega) (by omega)).trans h_this_images
      have h_this_text := (b4 _ (by omega) (by omega) (by omega)).trans h_this_text
      have h_this_seen := (b4 _ (by omega) (by omega) (by omega)).trans h_this_seen
      have h_this_ends := (b4 _ (by omega) (by omega) (by omega)).trans h_this_ends
      have h_this_endsRight := (b4 _ (by omega) (by omega) (by omega)).trans h_this_endsRight
      have h_this_takes := (b4 _ (by omega) (by omega) (by omega)).trans h_this_takes
      have h_this_can := (b4 _ (by omega) (by omega) (by omega)).trans h_this_can
      have h_this_then := (b4 _ (by omega) (by omega) (by omega)).trans h_this_then
      refine A_il1 X dX11_suit_90 ?_
      exact A_ret X dX11_suit_91 rfl ⟨rfl, rfl, fun q hq3 => by rw [b4 q (by omega) (by omega) (by omega), k83 q (by omega), ka q (by omega), hq2 q (by omega), hq q (by omega) (by omega)], ⟨_, _, _, _, _, _, _, _, _, h_this, h_this_suit, h_this_read, h_this_now, h_this_past, h_this_images, h_this_kept, h_this_text, h_this_seen, h_this_ends, h_this_endsRight, h_this_takes, h_this_can, h_this_then⟩⟩
    · intro i hi ih hg u hu hk hq2
      have h_this := (hq2 _ (by omega)).trans h_this
      have h_this_read := (hq2 _ (by omega)).trans h_this_read
      have h_this_suit := hu
      refine A_il3 X dX11_suit_57 ?_
      refine A_bipush X dX11_suit_58 ?_
      refine A_icmp_ge (t := 81) X (by omega) (by omega) dX11_suit_60 (fun c60 => by exfalso; omega) (fun c60 => ?_)
      refine A_al0 X dX11_suit_63 ?_
      refine A_getf X flX11_7 h_this rfl dX11_suit_64 ?_
      refine A_il3 X dX11_suit_67 ?_
      refine A_al0 X dX11_suit_68 ?_
      refine A_getf X flX11_13 h_this rfl dX11_suit_69 ?_
      refine A_il3 X dX11_suit_72 ?_
      refine A_iald X h_this_read (by omega) dX11_suit_73 ?_
      refine A_iast X h_this_suit (by omega) dX11_suit_74 ?_
      refine A_gen (fun h74 e74 k74 q74 => ?_)
      refine A_ii3 X dX11_suit_75 ?_
      refine A_goto (t := 57) X dX11_suit_78 ?_
      refine ih h74 _ e74 (fun k h1 h2 => ?_) (fun q hqb => (k74 q hqb).trans (hq2 q hqb))
      unfold aiu
      split
      · next e => rw [e]
      · exact hk k h1 (by omega)
  have bad : ∀ (f : Nat) (hh : AH), QP = .inl f → (∃ (ak2 bg2 mt2 : Int) (fr2 : Int → Int), hh tm = some (aOb 11 (mO tm un (z : Int) sm tr ak2 bg2 mt2)) ∧ hh (tm + 2) = some (aIa x.1 32 fr2)) → (∀ q, q ≠ tm → q ≠ tm + 2 → hh q = h q) → some (aI (-10 - (f : Int))) = some (aI (sA QP)) ∧ n = n ∧ mFr tm h hh ∧ mW x.1 tm hh (sF QP fs) (if isR QP = true then bgF else fn) fp fi (if isR QP = true then (fun _ => 0) else fk) ft fe (if isR QP = true then 0 else un) (if isR QP = true then 0 else (z : Int)) (if isR QP = true then 0 else sm) tr := by
    intro f hh hqp ⟨ak2, bg2, mt2, fr2, h_t, h_r⟩ hq
    subst hqp
    exact ⟨rfl, rfl, fun q hq2 => hq q (by omega) (by omega), ⟨_, _, _, _, _, _, _, _, _, h_t, (hq _ (by omega) (by omega)).trans h_this_suit, h_r, (hq _ (by omega) (by omega)).trans h_this_now, (hq _ (by omega) (by omega)).trans h_this_past, (hq _ (by omega) (by omega)).trans h_this_images, (hq _ (by omega) (by omega)).trans h_this_kept, (hq _ (by omega) (by omega)).trans h_this_text, (hq _ (by omega) (by omega)).trans h_this_seen, (hq _ (by omega) (by omega)).trans h_this_ends, (hq _ (by omega) (by omega)).trans h_this_endsRight, (hq _ (by omega) (by omega)).trans h_this_takes, (hq _ (by omega) (by omega)).trans h_this_can, (hq _ (by omega) (by omega)).trans h_this_then⟩⟩
  refine A_al0 X dX11_suit_0 ?_
  refine A_getf X flX11_13 h_this rfl dX11_suit_1 ?_
  refine A_eSv1 X (m_clean h_this_read) knX11_clean mlX11_50 dX11_suit_4 (fun h4 p4 => ?_)
  obtain ⟨h_this_read, hq4⟩ := p4
  have h_this := (hq4 _ (by omega)).trans h_this
  have h_this_suit := (hq4 _ (by omega)).trans h_this_suit
  have h_this_now := (hq4 _ (by omega)).trans h_this_now
  have h_this_past := (hq4 _ (by omega)).trans h_this_past
  have h_this_images := (hq4 _ (by omega)).trans h_this_images
  have h_this_kept := (hq4 _ (by omega)).trans h_this_kept
  have h_this_text := (hq4 _ (by omega)).trans h_this_text
  have h_this_seen := (hq4 _ (by omega)).trans h_this_seen
  have h_this_ends := (hq4 _ (by omega)).trans h_this_ends
  have h_this_endsRight := (hq4 _ (by omega)).trans h_this_endsRight
  have h_this_takes := (hq4 _ (by omega)).trans h_this_takes
  have h_this_can := (hq4 _ (by omega)).trans h_this_can
  have h_this_then := (hq4 _ (by omega)).trans h_this_then
  refine A_al0 X dX11_suit_7 ?_
  refine A_iconst X dX11_suit_8 ?_
  refine A_putf X flX11_73 h_this dX11_suit_9 ?_
  refine A_gen (fun h9 e9 k9 q9 => ?_)
  have h_this := e9
  have h_this_suit := (k9 _ (by omega)).trans h_this_suit
  have h_this_read := (k9 _ (by omega)).trans h_this_read
  have h_this_now := (k9 _ (by omega)).trans h_this_now
  have h_this_past := (k9 _ (by omega)).trans h_this_past
  have h_this_images := (k9 _ (by omega)).trans h_this_images
  have h_this_kept := (k9 _ (by omega)).trans h_this_kept
  have h_this_text := (k9 _ (by omega)).trans h_this_text
  have h_this_seen := (k9 _ (by omega)).trans h_this_seen
  have h_this_ends := (k9 _ (by omega)).trans h_this_ends
  have h_this_endsRight := (k9 _ (by omega)).trans h_this_endsRight
  have h_this_takes := (k9 _ (by omega)).trans h_this_takes
  have h_this_can := (k9 _ (by omega)).trans h_this_can
  have h_this_then := (k9 _ (by omega)).trans h_this_then
  refine A_al0 X dX11_suit_12 ?_
  refine A_iconst X dX11_suit_13 ?_
  refine A_putf X flX11_94 h_this dX11_suit_14 ?_
  refine A_gen (fun h14 e14 k14 q14 => ?_)
  have h_this := e14
  have h_this_suit := (k14 _ (by omega)).trans h_this_suit
  have h_this_read := (k14 _ (by omega)).trans h_this_read
  have h_this_now := (k14 _ (by omega)).trans h_this_now
  have h_this_past := (k14 _ (by omega)).trans h_this_past
  have h_this_images := (k14 _ (by omega)).trans h_this_images
  have h_this_kept := (k14 _ (by omega)).trans h_this_kept
  have h_this_text := (k14 _ (by omega)).trans h_this_text
  have h_this_seen := (k14 _ (by omega)).trans h_this_seen
  have h_this_ends := (k14 _ (by omega)).trans h_this_ends
  have h_this_endsRight := (k14 _ (by omega)).trans h_this_endsRight
  have h_this_takes := (k14 _ (by omega)).trans h_this_takes
  have h_this_can := (k14 _ (by omega)).trans h_this_can
  have h_this_then := (k14 _ (by omega)).trans h_this_then
  refine A_iconst X dX11_suit_17 ?_
  refine A_is1 X dX11_suit_18 ?_
  refine A_al0 X dX11_suit_19 ?_
  refine A_eVi0 X (m_first (p := 0) hz (by omega) ht h_this h_this_text) h_this knX11_first mlX11_79 dX11_suit_20 (fun h20 p20 => ?_)
  obtain ⟨h_this, hq20⟩ := p20
  refine A_is2 X dX11_suit_23 ?_
  exact m_suitL X hz ht h_this_text QP (fun f hh a b c => bad f hh a b (fun q h1 h2 => by rw [c q h1 h2, k14 q h1, k9 q h1, hq4 q h2])) (fun fr it hh a b c e => good fr it hh a b c (fun q h1 h2 => by rw [e q h1 h2, k14 q h1, k9 q h1, hq4 q h2])) 201 0 0 clF false false h20 (by omega) (by omega) sOK_clF hQP h_this ((hq20 _ (by omega)).trans h_this_read) (fun q h1 h2 => hq20 q h1)
