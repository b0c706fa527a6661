/-! a row's content counts within its length alone -/
theorem arr_ext (c : ClassId) (N : Nat) (f g : Nat → Value) (h : ∀ j, j < N → f j = g j) : arrV c N f = arrV c N g := by
  unfold arrV
  congr 1
  first
    | (apply Array.ext'; simp; intro i hi; exact h i (by simpa using hi))
    | (congr 1; funext i; exact h _ i.2)
    | (apply Array.map_congr_left; intro i hi; exact h i (by simpa using hi))
section NR
variable {x : aX} {cs ss n pc : Nat} {h : AH} {lv : List (Option Value)} {st : List Value}
theorem aRep.norm {G : aG} {n : Nat} {h : AH} {H : Heap} (hR : aRep G n h H) {a : Nat} {e e' : va_E} (ha : h a = some e) (he : va_at G.2.1 vwCl (a, e) H → va_at G.2.1 vwCl (a, e') H) : aRep G n (aup h a e') H := by
  refine ⟨hR.1, hR.2.1, fun q e1 hq => ?_⟩
  by_cases hqa : q = a
  · subst hqa
    rw [aup_s] at hq
    cases hq
    exact ⟨(hR.2.2 q e ha).1, he (hR.2.2 q e ha).2⟩
  · rw [aup_n hqa] at hq
    exact hR.2.2 q e1 hq
theorem A_norm {a N : Nat} {f : Int → Int} (g : Int → Int) (hh : h a = some (aIa x.1 N f)) (hfg : ∀ k : Int, 0 ≤ k → k < (N : Int) → f k = g k) (k : AW x cs ss n (aup h a (aIa x.1 N g)) pc lv st) : AW x cs ss n h pc lv st := by
  intro H locs ls hR hS hL
  refine k H locs ls (hR.norm hh ?_) hS hL
  intro h1
  show H[a]? = some (vp_cell _ _)
  rw [show H[a]? = some (vp_cell _ _) from h1, vp_cell_i, vp_cell_i]
  congr 1
  exact arr_ext _ _ _ _ (fun j hj => by rw [hfg (j : Int) (by omega) (by omega)])
theorem A_normz {a N : Nat} {f : Int → Int} (g : Int → Int) (hh : h a = some (aZa x.1 N f)) (hfg : ∀ k : Int, 0 ≤ k → k < (N : Int) → f k = g k) (k : AW x cs ss n (aup h a (aZa x.1 N g)) pc lv st) : AW x cs ss n h pc lv st := by
  intro H locs ls hR hS hL
  refine k H locs ls (hR.norm hh ?_) hS hL
  intro h1
  show H[a]? = some (vp_cell _ _)
  rw [show H[a]? = some (vp_cell _ _) from h1, vp_cell_i, vp_cell_i]
  congr 1
  exact arr_ext _ _ _ _ (fun j hj => by rw [hfg (j : Int) (by omega) (by omega)])
end NR
