/-! the class: its world -/
def nowC (G : aG) (h : AH) (r : Nat) (fn : Int → Int) (fl : Int) : Prop := ∃ fo ff : Int → Int, (h r = some (aOb 3 (nO r (fn 6) fl)) ∧ h (r + 1) = some (aIa G 6 fo) ∧ h (r + 2) = some (aIa G 60 ff)) ∧ (∀ k : Int, 0 ≤ k → k < 6 → fo k = fn k) ∧ (∀ i : Nat, (i : Int) < fn 6 → ff (i : Int) = mF fn i)
/-- a row of nine, whatever its object tells -/
def nowX (G : aG) (h : AH) (r : Nat) (fl : Int) : Prop := ∃ (st : Int) (fo ff : Int → Int), h r = some (aOb 3 (nO r st fl)) ∧ h (r + 1) = some (aIa G 6 fo) ∧ h (r + 2) = some (aIa G 60 ff)
theorem nowC_x {G : aG} {h : AH} {r : Nat} {fn : Int → Int} {fl : Int} (hN : nowC G h r fn fl) : nowX G h r fl := by
  obtain ⟨fo, ff, ⟨a1, a2, a3⟩, -, -⟩ := hN
  exact ⟨_, fo, ff, a1, a2, a3⟩
theorem nowC_fr {G : aG} {h h' : AH} {r : Nat} {fn : Int → Int} {fl : Int} (hN : nowC G h r fn fl) (hq : ∀ q, r ≤ q → q < r + 3 → h' q = h q) : nowC G h' r fn fl := by
  obtain ⟨fo, ff, ⟨a1, a2, a3⟩, b, c⟩ := hN
  exact ⟨fo, ff, ⟨(hq _ (by omega) (by omega)).trans a1, (hq _ (by omega) (by omega)).trans a2, (hq _ (by omega) (by omega)).trans a3⟩, b, c⟩
theorem nowX_fr {G : aG} {h h' : AH} {r : Nat} {fl : Int} (hN : nowX G h r fl) (hq : ∀ q, r ≤ q → q < r + 3 → h' q = h q) : nowX G h' r fl := by
  obtain ⟨st, fo, ff, a1, a2, a3⟩ := hN
  exact ⟨st, fo, ff, (hq _ (by omega) (by omega)).trans a1, (hq _ (by omega) (by omega)).trans a2, (hq _ (by omega) (by omega)).trans a3⟩
theorem mF_cg {f g : Int → Int} (h7 : f 7 = g 7) (h8 : f 8 = g 8) {i : Nat} (hi : i < 60) : mF f i = mF g i := by
  unfold mF
  have : (7 + (i : Int) / 30 = 7) ∨ (7 + (i : Int) / 30 = 8) := by omega
  rcases this with e | e
  · rw [e, h7]
  · rw [e, h8]
theorem gO_cg {f g : Int → Int} {w : Int} : ∀ k : Nat, (∀ j : Int, 0 ≤ j → j < (k : Int) → f j = g j) → gO f w k = gO g w k
  | 0, _ => rfl
  | k + 1, h => by rw [gO, gO, gO_cg k (fun j h1 h2 => h j h1 (by omega)), h (k : Int) (by omega) (by omega)]
theorem cnt_cg {f g : Nat → Int} {w : Int} : ∀ k : Nat, (∀ j : Nat, j < k → f j = g j) → cnt f w k = cnt g w k
  | 0, _ => rfl
  | k + 1, h => by rw [cnt, cnt, cnt_cg k (fun j h1 => h j (by omega)), h k (by omega)]
/-- the nows: within their bounds, no foot behind the last step -/
def nK (fn : Int → Int) : Prop := nOK fn ∧ ∀ i : Nat, fn 6 ≤ (i : Int) → i < 60 → mF fn i = 0
/-- a deed between two nows -/
def dR (dd : Int) (A B : Int → Int) : Prop := (dd = -1 ∧ B 6 = A 6 + 1 ∧ (∀ k : Int, 0 ≤ k → k < 6 → B k = A k) ∧ (∀ i : Nat, (i : Int) < A 6 → mF B i = mF A i)) ∨ (∃ g w : Int, dd = 3 * g + w ∧ (0 ≤ g ∧ g < 6) ∧ (0 ≤ w ∧ w ≤ 2) ∧ A g = w ∧ B 6 = A 6 ∧ (∀ k : Int, 0 ≤ k → k < 6 → k ≠ g → B k = A k) ∧ (∀ i : Nat, (i : Int) < A 6 → mF B i = mF A i))
/-- the now before the j-th deed -/
def sn (fp fn : Int → Int) (un j : Int) : Int → Int := if j < un then (fun k => fp (9 * j + k)) else fn
def hs (fd fp fn : Int → Int) (un : Int) : Prop := ∀ j : Int, 0 ≤ j → j < un → dR (fd j) (sn fp fn un j) (sn fp fn un (j + 1)) ∧ nK (sn fp fn un j)
def xO (xa su dr : Nat) (dc sc tr : Int) : List Value := [.ref (xa + 1), .ref su, .ref dr, .ref (xa + 13), .ref (xa + 16), .ref (xa + 19), .ref (xa + 22), .ref (xa + 26), .ref (xa + 27), aI dc, .ref (xa + 28), .ref (xa + 29), .ref (xa + 30), aI sc, aL tr]
def imC (G : aG) (h : AH) (r : Nat) (fi fk : Int → Int) (i : Int) : Prop := (fk i = 1 ∧ nowC G h r (fun k => fi (9 * i + k)) 1 ∧ nK (fun k => fi (9 * i + k))) ∨ (fk i = 0 ∧ nowX G h r 0)
def jdC (h : AH) (xa : Nat) : Prop := h (xa + 31) = some (aOb 1 []) ∧ h (xa + 32) = some (aOb 0 []) ∧ h (xa + 33) = some (aOb 9 []) ∧ h (xa + 34) = some (aOb 2 []) ∧ h (xa + 35) = some (aOb 8 []) ∧ h (xa + 36) = some (aOb 7 [])
def seC (fe e1 e2 e3 : Int → Int) (sm : Int) : Prop := ∀ k : Int, 0 ≤ k → k < sm → e1 k = fe (3 * k) ∧ e2 k = fe (3 * k + 1) ∧ e3 k = fe (3 * k + 2)
def xW (G : aG) (xa : Nat) (h : AH) (fs fn fp fi fk ft fe : Int → Int) (un sz sm tr : Int) : Prop := ∃ (su dr : Nat) (pl ts tk nu hT cT fo ga li : Int) (fd e1 e2 e3 g1 g2 g3 : Int → Int), ((su = xa + 3 ∧ dr = xa + 8) ∨ (su = xa + 8 ∧ dr = xa + 3)) ∧ h xa = some (aOb 10 (xO xa su dr un sm tr)) ∧ inR nu ∧ h (xa + 1) = some (aOb 5 (rO (xa + 1) sz pl ts tk nu hT cT)) ∧ h (xa + 2) = some (aIa G 200 ft) ∧ suC G h su fs ∧ suX G h dr ∧ nowC G h (xa + 13) fn 0 ∧ imC G h (xa + 16) fi fk 0 ∧ imC G h (xa + 19) fi fk 1 ∧ h (xa + 22) = some (aOb 4 (pO (xa + 22) fo ga li)) ∧ h (xa + 23) = some (aIa G 64 g1) ∧ h (xa + 24) = some (aIa G 64 g2) ∧ h (xa + 25) = some (aIa G 64 g3) ∧ h (xa + 26) = some (aJa G 6 (fun j => some (xa + 31 + j))) ∧ h (xa + 27) = some (aIa G 10 fd) ∧ hs fd fp fn un ∧ h (xa + 28) = some (aIa G 6 e1) ∧ h (xa + 29) = some (aIa G 6 e2) ∧ h (xa + 30) = some (aIa G 6 e3) ∧ seC fe e1 e2 e3 sm ∧ jdC h xa
/-- what stands between the two worlds, besides the cells -/
def xI (fs fn fe : Int → Int) (ft : Int → Int) (un sz sm : Int) : Prop := sOK fs ∧ nK fn ∧ eOK fe ∧ (0 ≤ un ∧ un ≤ 10) ∧ (∃ z : Nat, sz = (z : Int) ∧ z ≤ 200 ∧ tOK ft z) ∧ (0 ≤ sm ∧ sm ≤ 6) ∧ (∀ k : Int, 0 ≤ k → k < sm → (fe (3 * k) = 0 ∨ fe (3 * k) = 1) ∧ fe (3 * k + 1) < fs 3)
def xFr (xa : Nat) (h h' : AH) : Prop := ∀ q : Nat, (q < xa ∨ xa + 37 ≤ q) → h' q = h q
set_option maxRecDepth 100000 in
theorem n_begin {G : aG} {d n : Nat} {h : AH} {r : Nat} {fl : Int} (hN : nowX G h r fl) : aE G d kX3_begin [.ref r] n h none (fun h' => nowC G h' r bgF fl ∧ ∀ q, (q < r ∨ r + 3 ≤ q) → h' q = h q) := by
  obtain ⟨st, fo, ff, h_this, h_this_owner, h_this_feet⟩ := hN
  refine aCt_of (lv := [some (.ref r), none]) knX3_begin.1 rfl rfl (Nat.le_of_ble_eq_true rfl) (fun x hG hsc X => ?_)
  subst hG
  refine A_iconst X dX3_begin_0 ?_
  refine A_is1 X dX3_begin_1 ?_
  refine lp_0 (P := fun i => ∀ (hh : AH) (u : Int → Int), hh (r + 1) = some (aIa x.1 6 u) → (∀ k : Int, 0 ≤ k → k < (i : Int) → u k = 2) → (∀ q, q ≠ r + 1 → hh q = h q) → AW x 0 0 n hh 2 [some (.ref r), some (aI (i : Int))] []) 6 ?_ ?_ h fo h_this_owner (fun k h1 h2 => by omega) (fun _ _ => rfl)
  · intro hh u h_this_owner hu hq
    have h_this := (hq _ (by omega)).trans h_this
    have h_this_feet := (hq _ (by omega)).trans h_this_feet
    refine A_il1 X dX3_begin_2 ?_
    refine A_bipush X dX3_begin_3 ?_
    refine A_icmp_ge (t := 21) X (by omega) (by omega) dX3_begin_5 (fun c5 => ?_) (fun c5 => by exfalso; omega)
    refine A_al0 X dX3_begin_21 ?_
    refine A_iconst X dX3_begin_22 ?_
    refine A_putf X flX3_18 h_this dX3_begin_23 ?_
    refine A_gen (fun h23 e23 k23 q23 => ?_)
    have h_this := e23
    have h_this_owner := (k23 _ (by omega)).trans h_this_owner
    have h_this_feet := (k23 _ (by omega)).trans h_this_feet
    refine A_retv X dX3_begin_26 rfl ⟨rfl, rfl, ⟨u, ff, ⟨h_this, h_this_owner, h_this_feet⟩, fun k h1 h2 => ?_, fun i hi => ?_⟩, fun q h1 => by rw [k23 q (by omega), hq q (by omega)]⟩
    · rw [hu k h1 h2, bgF, if_pos h2]
    · exfalso; simp [bgF] at hi; omega
  · intro i hi ih hh u h_this_owner hu hq
    have h_this := (hq _ (by omega)).trans h_this
    refine A_il1 X dX3_begin_2 ?_
    refine A_bipush X dX3_begin_3 ?_
    refine A_icmp_ge (t := 21) X (by omega) (by omega) dX3_begin_5 (fun c5 => by exfalso; omega) (fun c5 => ?_)
    refine A_al0 X dX3_begin_8 ?_
    refine A_getf X flX3_9 h_this rfl dX3_begin_9 ?_
    refine A_il1 X dX3_begin_12 ?_
    refine A_iconst X dX3_begin_13 ?_
    refine A_iast X h_this_owner (by omega) dX3_begin_14 ?_
    refine A_gen (fun h14 e14 k14 q14 => ?_)
    have h_this := (k14 _ (by omega)).trans h_this
    have h_this_owner := e14
    refine A_ii1 X dX3_begin_15 ?_
    refine A_goto (t := 2) X dX3_begin_18 ?_
    refine ih h14 _ h_this_owner (fun k h1 h2 => ?_) (fun q h1 => (k14 q h1).trans (hq q h1))
    unfold aiu
    split
    · rfl
    · exact hu k h1 (by omega)
set_option maxRecDepth 100000 in
theorem n_become {G : aG} {d n : Nat} {h : AH} {r s : Nat} {fl fl2 : Int} {fn : Int → Int} (hrs : r + 3 ≤ s ∨ s + 3 ≤ r) (h6 : fn 6 ≤ 60) (hN : nowX G h r fl) (hS : nowC G h s fn fl2) : aE G (d + 1) kX3_become [.ref r, .ref s] n h none (fun h' => nowC G h' r fn fl ∧ ∀ q, (q < r ∨ r + 3 ≤ q) → h' q = h q) := by
  obtain ⟨st, fo, ff, h_this, h_this_owner, h_this_feet⟩ := hN
  obtain ⟨go, gf, ⟨h_other, h_other_owner, h_other_feet⟩, b1, b2⟩ := hS
  refine aCt_of (lv := [some (.ref r), some (.ref s)]) knX3_become.1 rfl rfl (Nat.le_of_ble_eq_true rfl) (fun x hG hsc X => ?_)
  subst hG
  refine A_al1 X dX3_become_0 ?_
  refine A_getf X flX3_9 h_other rfl dX3_become_1 ?_
  refine A_iconst X dX3_become_4 ?_
  refine A_al0 X dX3_become_5 ?_
  refine A_getf X flX3_9 h_this rfl dX3_become_6 ?_
  refine A_iconst X dX3_become_9 ?_
  refine A_bipush X dX3_become_10 ?_
  refine A_copy X h_other_owner h_this_owner (by omega) mlX3_22 dX3_become_12 ?_
  refine A_gen (fun h12 e12 k12 q12 => ?_)
  have h_this := (k12 _ (by omega)).trans h_this
  have h_this_owner := e12
  have h_this_feet := (k12 _ (by omega)).trans h_this_feet
  have h_other := (k12 _ (by omega)).trans h_other
  have h_other_owner := (k12 _ (by omega)).trans h_other_owner
  have h_other_feet := (k12 _ (by omega)).trans h_other_feet
  refine A_al1 X dX3_become_15 ?_
  refine A_getf X flX3_15 h_other rfl dX3_become_16 ?_
  refine A_iconst X dX3_become_19 ?_
  refine A_al0 X dX3_become_20 ?_
  refine A_getf X flX3_15 h_this rfl dX3_become_21 ?_
  refine A_iconst X dX3_become_24 ?_
  refine A_bipush X dX3_become_25 ?_
  refine A_copy X h_other_feet h_this_feet (by omega) mlX3_22 dX3_become_27 ?_
  refine A_gen (fun h27 e27 k27 q27 => ?_)
  have h_this := (k27 _ (by omega)).trans h_this
  have h_this_owner := (k27 _ (by omega)).trans h_this_owner
  have h_this_feet := e27
  have h_other := (k27 _ (by omega)).trans h_other
  have h_other_owner := (k27 _ (by omega)).trans h_other_owner
  have h_other_feet := (k27 _ (by omega)).trans h_other_feet
  refine A_al0 X dX3_become_30 ?_
  refine A_al1 X dX3_become_31 ?_
  refine A_getf X flX3_18 h_other rfl dX3_become_32 ?_
  refine A_putf X flX3_18 h_this dX3_become_35 ?_
  refine A_gen (fun h35 e35 k35 q35 => ?_)
  have h_this := e35
  have h_this_owner := (k35 _ (by omega)).trans h_this_owner
  have h_this_feet := (k35 _ (by omega)).trans h_this_feet
  have h_other := (k35 _ (by omega)).trans h_other
  have h_other_owner := (k35 _ (by omega)).trans h_other_owner
  have h_other_feet := (k35 _ (by omega)).trans h_other_feet
  refine A_retv X dX3_become_38 rfl ⟨rfl, rfl, ⟨_, _, ⟨h_this, h_this_owner, h_this_feet⟩, fun k h1 h2 => ?_, fun i hi => ?_⟩, fun q h1 => by rw [k35 q (by omega), k27 q (by omega), k12 q (by omega)]⟩
  · rw [← b1 k h1 h2, cpyI, if_pos (by omega), Int.sub_zero, Int.zero_add]
  · rw [← b2 i hi, cpyI, if_pos (by omega), Int.sub_zero, Int.zero_add]
