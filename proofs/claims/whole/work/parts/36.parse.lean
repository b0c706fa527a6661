/-! how a text is read: one picture for both -/
def skw (P : Int → Bool) (ft : Int → Int) (z : Nat) : Nat → Nat → Nat
  | 0, p => p
  | k + 1, p => if p < z ∧ P (ft (p : Int)) = true then skw P ft z k (p + 1) else p
def skP (P : Int → Bool) (ft : Int → Int) (z p : Nat) : Nat := skw P ft z (z - p) p
theorem skP_t {P : Int → Bool} {ft : Int → Int} {z p : Nat} (h : p < z) (hP : P (ft (p : Int)) = true) : skP P ft z p = skP P ft z (p + 1) := by
  unfold skP
  obtain ⟨k, hk⟩ : ∃ k, z - p = k + 1 := ⟨z - p - 1, by omega⟩
  rw [hk, skw, if_pos ⟨h, hP⟩, show z - (p + 1) = k by omega]
theorem skP_f {P : Int → Bool} {ft : Int → Int} {z p : Nat} (h : ¬ (p < z ∧ P (ft (p : Int)) = true)) : skP P ft z p = p := by
  unfold skP
  generalize z - p = k
  cases k with
  | zero => rfl
  | succ k => rw [skw, if_neg h]
theorem skP_b {P : Int → Bool} {ft : Int → Int} {z : Nat} : ∀ (k p : Nat), z - p ≤ k → p ≤ z → p ≤ skP P ft z p ∧ skP P ft z p ≤ z ∧ ¬ (skP P ft z p < z ∧ P (ft (skP P ft z p : Int)) = true)
  | 0, p, hk, hp => by
    rw [skP_f (by omega)]
    omega
  | k + 1, p, hk, hp => by
    by_cases h : p < z ∧ P (ft (p : Int)) = true
    · have ih := skP_b (P := P) (ft := ft) (z := z) k (p + 1) (by omega) (by omega)
      rw [skP_t h.1 h.2]
      exact ⟨by omega, ih.2⟩
    · rw [skP_f h]
      exact ⟨Nat.le_refl p, hp, h⟩
abbrev isBl (c : Int) : Bool := decide (c = 32)
abbrev isDg (c : Int) : Bool := decide (48 ≤ c ∧ c ≤ 57)
def sk (ft : Int → Int) (z p : Nat) : Nat := skP isBl ft z p
def dg (ft : Int → Int) (z p : Nat) : Nat := skP isDg ft z p
theorem sk_b {ft : Int → Int} {z p : Nat} (hp : p ≤ z) : p ≤ sk ft z p ∧ sk ft z p ≤ z := ⟨(skP_b (P := isBl) (ft := ft) (z - p) p (Nat.le_refl _) hp).1, (skP_b (P := isBl) (ft := ft) (z - p) p (Nat.le_refl _) hp).2.1⟩
theorem dg_b {ft : Int → Int} {z p : Nat} (hp : p ≤ z) : p ≤ dg ft z p ∧ dg ft z p ≤ z := ⟨(skP_b (P := isDg) (ft := ft) (z - p) p (Nat.le_refl _) hp).1, (skP_b (P := isDg) (ft := ft) (z - p) p (Nat.le_refl _) hp).2.1⟩
/-- the letter at a place; -1: the end -/
def ch (ft : Int → Int) (z p : Nat) : Int := if p < z then ft (p : Int) else -1
/-- the number that a row of digits tells, held low -/
def nvl (ft : Int → Int) (p : Nat) : Nat → Int
  | 0 => 0
  | k + 1 => if 99 < nvl ft p k then nvl ft p k else 10 * nvl ft p k + ft ((p : Int) + (k : Int)) - 48
def tOK (ft : Int → Int) (z : Nat) : Prop := ∀ k : Int, 0 ≤ k → k < (z : Int) → 0 ≤ ft k ∧ ft k ≤ 255
theorem nvl_b {ft : Int → Int} {z p : Nat} : ∀ k : Nat, (∀ j : Nat, j < k → 48 ≤ ft ((p : Int) + (j : Int)) ∧ ft ((p : Int) + (j : Int)) ≤ 57) → 0 ≤ nvl ft p k ∧ nvl ft p k ≤ 999
  | 0, _ => by simp [nvl]
  | k + 1, h => by
    have ih := nvl_b (z := z) k (fun j hj => h j (by omega))
    have := h k (by omega)
    unfold nvl
    split <;> omega
/-- a number within bounds, and the place behind it -/
def nm (ft : Int → Int) (z p : Nat) (lo hi : Int) : Option (Int × Nat) := if (sk ft z p < z ∧ isDg (ft (sk ft z p : Int)) = true) ∧ ¬ (ft (sk ft z p : Int) = 48 ∧ 1 < dg ft z (sk ft z p) - sk ft z p) ∧ lo ≤ nvl ft (sk ft z p) (dg ft z (sk ft z p) - sk ft z p) ∧ nvl ft (sk ft z p) (dg ft z (sk ft z p) - sk ft z p) ≤ hi then some (nvl ft (sk ft z p) (dg ft z (sk ft z p) - sk ft z p), dg ft z (sk ft z p)) else none
def en (ft : Int → Int) (z p : Nat) : Option Nat := if ch ft z (sk ft z p) = 59 then some (sk ft z p + 1) else none
theorem nm_b {ft : Int → Int} {z p : Nat} {lo hi v : Int} {p2 : Nat} (hp : p ≤ z) (h : nm ft z p lo hi = some (v, p2)) : p < p2 ∧ p2 ≤ z ∧ lo ≤ v ∧ v ≤ hi := by
  unfold nm at h
  split at h
  · next q =>
    cases h
    have a := sk_b (ft := ft) hp
    have b := dg_b (ft := ft) (z := z) (p := sk ft z p + 1) (by omega)
    have e : dg ft z (sk ft z p) = dg ft z (sk ft z p + 1) := skP_t q.1.1 q.1.2
    exact ⟨by omega, by omega, q.2.2.1, q.2.2.2⟩
  · cases h
theorem en_b {ft : Int → Int} {z p p2 : Nat} (hp : p ≤ z) (h : en ft z p = some p2) : p < p2 ∧ p2 ≤ z := by
  unfold en at h
  split at h
  · next q =>
    cases h
    have a := sk_b (ft := ft) hp
    unfold ch at q
    split at q <;> omega
  · cases h
def pGood (ft : Int → Int) (z : Nat) (fr : Int → Int) (s : Nat) : Nat ⊕ ((Int → Int) × Nat) := if fr 0 = 6 then .inl s else match nm ft z (s + 1) 0 20 with
  | none => .inl (sk ft z (s + 1))
  | some (v1, p2) => match nm ft z p2 0 20 with
    | none => .inl (sk ft z p2)
    | some (v2, p3) => match en ft z p3 with
      | none => .inl (sk ft z p3)
      | some p4 => .inr (aiu (aiu (aiu fr (4 + fr 0) v1) (10 + fr 0) v2) 0 (fr 0 + 1), p4)
def pPair (ft : Int → Int) (z : Nat) (fr : Int → Int) (s : Nat) : Nat ⊕ ((Int → Int) × Nat) := if fr 1 = 4 then .inl s else match nm ft z (s + 1) 0 (fr 0 - 1) with
  | none => .inl (sk ft z (s + 1))
  | some (v1, p2) => match nm ft z p2 0 (fr 0 - 1) with
    | none => .inl (sk ft z p2)
    | some (v2, p3) => if v2 = v1 then .inl (sk ft z p2) else match nm ft z p3 0 20 with
      | none => .inl (sk ft z p3)
      | some (v3, p4) => match nm ft z p4 0 20 with
        | none => .inl (sk ft z p4)
        | some (v4, p5) => match en ft z p5 with
          | none => .inl (sk ft z p5)
          | some p6 => .inr (aiu (aiu (aiu (aiu (aiu fr (16 + fr 1) v1) (20 + fr 1) v2) (24 + fr 1) v3) (28 + fr 1) v4) 1 (fr 1 + 1), p6)
def pOne (ft : Int → Int) (z : Nat) (fr : Int → Int) (s : Nat) (place lo hi : Int) (told : Bool) : Nat ⊕ ((Int → Int) × Nat) := if told = true then .inl s else match nm ft z (s + 1) lo hi with
  | none => .inl (sk ft z (s + 1))
  | some (v, p2) => match en ft z p2 with
    | none => .inl (sk ft z p2)
    | some p3 => .inr (aiu fr place v, p3)
/-- an item: what is told so far, whether hops and cells are told, the place behind it; or the fault -/
def pItem (ft : Int → Int) (z : Nat) (fr : Int → Int) (ht ct : Bool) (s : Nat) : Nat ⊕ ((Int → Int) × Nat) := if ft (s : Int) = 103 then pGood ft z fr s else if ft (s : Int) = 112 then pPair ft z fr s else if ft (s : Int) = 104 then pOne ft z fr s 2 0 3 ht else if ft (s : Int) = 99 then pOne ft z fr s 3 1 6 ct else .inl s
def ps (ft : Int → Int) (z : Nat) : Nat → (Int → Int) → Bool → Bool → Nat → Int → Nat ⊕ ((Int → Int) × Int)
  | 0, fr, _, _, _, it => .inr (fr, it)
  | k + 1, fr, ht, ct, p, it => if z ≤ sk ft z p then .inr (fr, it) else match pItem ft z fr ht ct (sk ft z p) with
    | .inl f => .inl f
    | .inr (fr2, p2) => ps ft z k fr2 (ht || decide (ft (sk ft z p : Int) = 104)) (ct || decide (ft (sk ft z p : Int) = 99)) p2 (it + 1)
theorem pItem_b {ft : Int → Int} {z : Nat} {fr : Int → Int} {ht ct : Bool} {s p2 : Nat} {fr2 : Int → Int} (hs : s < z) (h : pItem ft z fr ht ct s = .inr (fr2, p2)) : s + 1 < p2 ∧ p2 ≤ z := by
  unfold pItem at h
  split at h
  · unfold pGood at h
    split at h
    · cases h
    split at h
    · cases h
    next h1 => split at h
               · cases h
               next h2 => split at h
                          · cases h
                          next h3 => cases h; have a := nm_b (by omega) h1; have b := nm_b (by omega) h2; have c := en_b (by omega) h3; omega
  split at h
  · unfold pPair at h
    split at h
    · cases h
    split at h
    · cases h
    next h1 => split at h
               · cases h
               next h2 => split at h
                          · cases h
                          split at h
                          · cases h
                          next h3 => split at h
                                     · cases h
                                     next h4 => split at h
                                                · cases h
                                                next h5 => cases h; have a := nm_b (by omega) h1; have b := nm_b (by omega) h2; have c := nm_b (by omega) h3; have d := nm_b (by omega) h4; have e := en_b (by omega) h5; omega
  split at h
  · unfold pOne at h
    split at h
    · cases h
    split at h
    · cases h
    next h1 => split at h
               · cases h
               next h2 => cases h; have a := nm_b (by omega) h1; have b := en_b (by omega) h2; omega
  split at h
  · unfold pOne at h
    split at h
    · cases h
    split at h
    · cases h
    next h1 => split at h
               · cases h
               next h2 => cases h; have a := nm_b (by omega) h1; have b := en_b (by omega) h2; omega
  · cases h
