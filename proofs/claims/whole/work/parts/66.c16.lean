/-! the class: deeds -/
def eq9 (A B : Int → Int) : Prop := ∀ k : Int, 0 ≤ k → k < 9 → A k = B k
theorem mF_9 {A B : Int → Int} (h : eq9 A B) {i : Nat} (hi : i < 60) : mF A i = mF B i := mF_cg (h 7 (by omega) (by omega)) (h 8 (by omega) (by omega)) hi
theorem nK_9 {A B : Int → Int} (h : eq9 A B) (hA : nK A) : nK B := by
  obtain ⟨⟨h1, h2, h3, h4⟩, h5⟩ := hA
  have e6 := h 6 (by omega) (by omega)
  have e7 := h 7 (by omega) (by omega)
  have e8 := h 8 (by omega) (by omega)
  refine ⟨⟨fun k a b => by rw [← h k a (by omega)]; exact h1 k a b, by rw [← e6]; exact h2, by rw [← e7]; exact h3, by rw [← e8]; exact h4⟩, fun i a b => ?_⟩
  rw [← mF_9 h b]; exact h5 i (by omega) b
theorem dR_9 {dd : Int} {A B A' B' : Int → Int} (hA : eq9 A A') (hB : eq9 B B') (h6 : A 6 ≤ 60) (h : dR dd A B) : dR dd A' B' := by
  have a6 := hA 6 (by omega) (by omega)
  have b6 := hB 6 (by omega) (by omega)
  rcases h with ⟨h1, h2, h3, h4⟩ | ⟨g, w, h1, h2, h3, h4, h5, h7, h8⟩
  · refine Or.inl ⟨h1, by omega, fun k a b => by rw [← hA k a (by omega), ← hB k a (by omega)]; exact h3 k a b, fun i a => ?_⟩
    rw [← mF_9 hA (by omega), ← mF_9 hB (by omega)]; exact h4 i (by omega)
  · refine Or.inr ⟨g, w, h1, h2, h3, by rw [← hA g h2.1 (by omega)]; exact h4, by omega, fun k a b c => by rw [← hA k a (by omega), ← hB k a (by omega)]; exact h7 k a b c, fun i a => ?_⟩
    rw [← mF_9 hA (by omega), ← mF_9 hB (by omega)]; exact h8 i (by omega)
def rmD (fd : Int → Int) (un dd : Int) : Int → Int := if un = 10 then aiu (cpyI fd fd 1 0 9) 9 dd else aiu fd un dd
theorem eq9_r (A : Int → Int) : eq9 A A := fun _ _ _ => rfl
theorem sn_b {fd fp fn : Int → Int} {un : Int} (h : hs fd fp fn un) (hn : nK fn) {j : Int} (hj : 0 ≤ j) : nK (sn fp fn un j) := by
  by_cases q : j < un
  · exact (h j hj q).2
  · rw [sn, if_neg q]; exact hn
theorem hs_rm {fd fp fn fn2 : Int → Int} {un dd : Int} (hun : 0 ≤ un ∧ un ≤ 10) (hn : nK fn) (h : hs fd fp fn un) (hd : dR dd fn fn2) : hs (rmD fd un dd) (rmP fn fp un) fn2 (rmU un) := by
  have h60 : ∀ j, 0 ≤ j → sn fp fn un j 6 ≤ 60 := fun j hj => (sn_b h hn hj).1.2.1.2
  by_cases q : un = 10
  · have eU : rmU un = 10 := by rw [rmU, if_pos q]
    have eP : ∀ k, rmP fn fp un k = if k < 81 then fp (k + 9) else fn (k - 81) := fun k => by rw [rmP, if_pos q]
    have eD : rmD fd un dd = aiu (cpyI fd fd 1 0 9) 9 dd := by rw [rmD, if_pos q]
    have s1 : ∀ j, 0 ≤ j → j < 10 → eq9 (sn fp fn un (j + 1)) (sn (rmP fn fp un) fn2 (rmU un) j) := fun j a b k c e => by
      rw [sn, sn, eU, if_pos b]
      show (if j + 1 < un then (fun k => fp (9 * (j + 1) + k)) else fn) k = rmP fn fp un (9 * j + k)
      rw [eP]
      by_cases z : j + 1 < un
      · rw [if_pos z, if_pos (by omega)]; show fp (9 * (j + 1) + k) = fp (9 * j + k + 9); congr 1; omega
      · rw [if_neg z, if_neg (by omega)]; congr 1; omega
    have s2 : sn (rmP fn fp un) fn2 (rmU un) 10 = fn2 := by rw [sn, eU, if_neg (by omega)]
    intro j a b
    rw [eU] at b
    refine ⟨?_, nK_9 (s1 j a b) (sn_b h hn (by omega))⟩
    by_cases z : j = 9
    · subst z
      have e10 : sn fp fn un (9 + 1) = fn := by rw [sn, if_neg (by omega)]
      have := s1 9 (by omega) (by omega)
      rw [e10] at this
      rw [eD, aiu_s, show (9 : Int) + 1 = 10 from rfl, s2]
      exact dR_9 this (eq9_r _) hn.1.2.1.2 hd
    · have e : rmD fd un dd j = fd (j + 1) := by rw [eD, aiu_n z, cpyI, if_pos (by omega)]; congr 1; omega
      rw [e]
      exact dR_9 (s1 j a b) (s1 (j + 1) (by omega) (by omega)) (h60 _ (by omega)) (h (j + 1) (by omega) (by omega)).1
  · have eU : rmU un = un + 1 := by rw [rmU, if_neg q]
    have eP : ∀ k, rmP fn fp un k = if 9 * un ≤ k ∧ k < 9 * un + 9 then fn (k - 9 * un) else fp k := fun k => by rw [rmP, if_neg q]
    have eD : rmD fd un dd = aiu fd un dd := by rw [rmD, if_neg q]
    have s1 : ∀ j, 0 ≤ j → j < un + 1 → eq9 (sn fp fn un j) (sn (rmP fn fp un) fn2 (rmU un) j) := fun j a b k c e => by
      rw [sn, sn, eU, if_pos b]
      show (if j < un then (fun k => fp (9 * j + k)) else fn) k = rmP fn fp un (9 * j + k)
      rw [eP]
      by_cases z : j < un
      · rw [if_pos z, if_neg (by omega)]
      · rw [if_neg z, if_pos (by omega)]; congr 1; omega
    have s2 : sn (rmP fn fp un) fn2 (rmU un) (un + 1) = fn2 := by rw [sn, eU, if_neg (by omega)]
    intro j a b
    rw [eU] at b
    refine ⟨?_, nK_9 (s1 j a b) (sn_b h hn a)⟩
    by_cases z : j = un
    · subst z
      have e10 : sn fp fn j j = fn := by rw [sn, if_neg (by omega)]
      have := s1 j a b
      rw [e10] at this
      rw [eD, aiu_s, s2]
      exact dR_9 this (eq9_r _) hn.1.2.1.2 hd
    · rw [eD, aiu_n z]
      exact dR_9 (s1 j a b) (s1 (j + 1) (by omega) (by omega)) (h60 _ a) (h j a (by omega)).1
theorem hs_un {fd fp fn : Int → Int} {un : Int} (h1 : 1 ≤ un) (h : hs fd fp fn un) : hs fd fp (cpF fp fn (9 * (un - 1))) (un - 1) ∧ eq9 (sn fp fn un (un - 1)) (cpF fp fn (9 * (un - 1))) := by
  have s2 : eq9 (sn fp fn un (un - 1)) (cpF fp fn (9 * (un - 1))) := fun k a b => by
    rw [sn, if_pos (by omega), cpF, cp9, if_pos (by omega)]; congr 1; omega
  refine ⟨fun j a b => ?_, s2⟩
  have e1 : sn fp (cpF fp fn (9 * (un - 1))) (un - 1) j = sn fp fn un j := by rw [sn, sn, if_pos b, if_pos (by omega)]
  obtain ⟨g1, g2⟩ := h j a (by omega)
  rw [e1]
  refine ⟨?_, g2⟩
  by_cases z : j + 1 < un - 1
  · have e2 : sn fp (cpF fp fn (9 * (un - 1))) (un - 1) (j + 1) = sn fp fn un (j + 1) := by rw [sn, sn, if_pos z, if_pos (by omega)]
    rw [e2]; exact g1
  · have e2 : sn fp (cpF fp fn (9 * (un - 1))) (un - 1) (j + 1) = cpF fp fn (9 * (un - 1)) := by rw [sn, if_neg z]
    rw [e2]
    have : j + 1 = un - 1 := by omega
    rw [this] at g1
    exact dR_9 (eq9_r _) s2 g2.1.2.1.2 g1
theorem hs_0 {fd fp fn : Int → Int} : hs fd fp fn 0 := fun j a b => by omega
