/-! rows: arrays of judges, equal answers, sizes -/
section AJ
variable {x : aX} {d : Nat} {cc : ByteArray} {own nm : String} {ret : Option FieldType} {mc ms : Nat} {post : aPost} {cs ss n pc : Nat} {h : AH} {lv : List (Option Value)} {st : List Value}
theorem A_nn {n2 : Nat} (e : n = n2) (k : AW x cs ss n2 h pc lv st) : AW x cs ss n h pc lv st := e ▸ k
theorem A_icmpE (X : aOk x d cc own nm ret mc ms post) {a : Int32} {off : Int} {t : Nat} (hd : decode cc pc = .ok (.if_icmp .eq off, 3)) (kt : AW x cs ss n h t lv st) (ht : (pc : Int) + off = (t : Int) := by decide) : AW x cs ss n h pc lv (.int a :: .int a :: st) := by
  obtain ⟨p, e, R, s, args, below, meth, c, Q, hw, hx, hb, hml, hown, hts, hK, hH0, hscr, hnm, hroom, hret⟩ := X
  intro H locs ls hR hS hL
  exact (hw H locs cs ss _).mpr (lv_icmp_eq hx hb hd ht (fun q => (hw H locs cs ss _).mp (kt H locs ls hR hS hL)) (fun q => absurd rfl q))
theorem A_newaj (X : aOk x d cc own nm ret mc ms post) {z : Int} {idx : Nat} (N : Nat) (hz : z = (N : Int)) (hl : Cond.classLink own idx RX1 ∈ lw_tbl) (ho : Cond.arrayOver (.object RX1) ∈ lw_tbl) (hd : decode cc pc = .ok (.anewarray idx, 3)) (kk : AW x (cs + 1) (ss + N) (n + 1) (aup h n (aJa x.1 N (fun _ => none))) (pc + 3) lv (.ref n :: st)) (hN : N < 100000 := by decide) (hcs : cs + 1 ≤ mc ∧ ss + N ≤ ms := by decide) : AW x cs ss n h pc lv (aI z :: st) := by
  obtain ⟨p, e, R, s, args, below, meth, c, Q, hw, hx, hb, hml, hown, hts, hK, hH0, hscr, hnm, hroom, hret⟩ := X
  intro H locs ls hR hS hL
  have hcl := aI_cl hz (show N < 2147483648 by omega)
  have h0 : ¬ Int32.ofInt z < 0 := by rw [aI_0, aI_lt (by omega) in0]; omega
  refine (hw H locs cs ss _).mpr (W.anew hx hb hown (hts _ (gn_of hl rfl)) (hts _ (gn_of ho rfl)) rfl hd rfl h0 (by rw [hcl]; omega) (by omega) (by rw [hcl]; omega) fun cA kA comp f1 f2 f3 f4 => ?_)
  obtain ⟨kA', comp', -, -, -, f5⟩ := (hK.2 2 _ rfl).2
  have e2 : cA = x.1.2.2.1.2.2 := Option.some.inj (f1.symm.trans f5)
  subst e2
  rw [hcl]
  generalize hH1 : H.push ({ cls := x.1.2.2.1.2.2, slots := Array.replicate N .null, vm := .none } : Cell) = H1
  have z1 : H1.size = n + 1 := by rw [← hH1, Array.size_push, hR.1]
  have e1 : H1[n]? = some (arrV x.1.2.2.1.2.2 N (fun _ => .null)) := by rw [← hH1, ← hR.1, Array.getElem?_push_size, ← arrV_new]
  have o1 : ∀ q : Nat, q < n → H1[q]? = H[q]? := fun q hq => by rw [← hH1, Array.getElem?_push, if_neg (by have := hR.1; omega)]
  have k1 := kk H1 locs ls (hR.new z1 e1 o1) ⟨Nat.le_trans hS.1 (by have := hR.1; omega), fun q h1 h2 => (o1 q (by have := hR.1; have := hS.1; omega)).trans (hS.2.1 q h1 h2), hS.2.2⟩ hL
  have k2 := (hw H1 locs _ _ _).mp k1
  have hz3 := hR.1
  rw [← hz3] at k2
  exact k2
theorem A_aast (X : aOk x d cc own nm ret mc ms post) {a N v ci : Nat} {f : Nat → Option Nat} {z : Int} {vs : List Value} {q : vw_C} (hh : h a = some (aJa x.1 N f)) (j : Nat) (hj : z = (j : Int)) (h0 : j < N) (hv : h v = some (aOb ci vs)) (hc : vwCl[ci]? = some q) (hca : q.1 = RX1 ∨ Cond.castable q.1 RX1 ∈ lw_tbl) (hd : decode cc pc = .ok (.aastore, 1)) (kk : AW x cs ss n (aup h a (aJa x.1 N (va_up f j (some v)))) (pc + 1) lv st) (hN : N < 2147483648 := by decide) : AW x cs ss n h pc lv (.ref v :: aI z :: .ref a :: st) := by
  obtain ⟨p, e, R, s, args, below, meth, c, Q, hw, hx, hb, hml, hown, hts, hK, hH0, hscr, hnm, hroom, hret⟩ := X
  intro H locs ls hR hS hL
  have hin := aI_in hj h0 hN
  have hcl : (Int32.ofInt z).toNatClampNeg = j := aI_cl hj (by omega)
  obtain ⟨r', hr', cellV, g1, g2, g3, -⟩ := (hR.2.2 v _ hv).2
  have hcls := (hK.1 ci q hc).2
  obtain ⟨kA, comp, k1, k2, k3, -⟩ := (hK.2 2 _ rfl).2
  obtain ⟨kE, hkE, -⟩ := Vm.findClass_spec k3
  obtain ⟨kC, hkC, -⟩ := hcls.2
  have hasg : s.vm.assignable (x.1.2.1.1 ci) comp = true := by
    rcases hca with e1 | e1
    · have e2 : comp = x.1.2.1.1 ci := Option.some.inj (k3.symm.trans (e1 ▸ hcls.1))
      rw [e2]
      exact va_assign hcls
    · obtain ⟨c0, t1, f1, f2, f3⟩ := Cond.castable_spec (hts _ (gn_of e1 rfl))
      cases hcls.1.symm.trans f1
      cases k3.symm.trans f2
      exact f3
  refine (hw H locs cs ss _).mpr (W.aast hx hb ((hR.2.2 a _ hh).2) (fun q h => by cases h) (fun h => by cases h) k1 k2 rfl hkE ⟨fun q => hin (Or.inl q), by show _ < (arrV _ _ _).slots.size; rw [arrV_size, hcl]; exact h0⟩ g1 (fun q h => by rw [g3] at h; cases h) (by rw [g2]; exact hkC) (by rw [g2]; exact hasg) rfl rfl hd fun H1 e z oq => (hw H1 _ cs ss _).mp ?_)
  refine kk H1 _ ls (hR.up hh z ?_ oq) (hS.put z oq (hR.2.2 a _ hh).1) hL
  show H1[a]? = some (vp_cell _ _)
  rw [e]
  rw [hcl, vp_cell_q, vp_cell_q, arrV_store]
  congr 2
  funext q
  by_cases hq : q = j
  · subst hq
    simp [updV, va_up, va_rf]
  · simp [updV, va_up, hq]
theorem A_jcg {a N : Nat} {f g : Nat → Option Nat} (hh : h a = some (aJa x.1 N f)) (hfg : ∀ j, j < N → f j = g j) (kk : AW x cs ss n (aup h a (aJa x.1 N g)) pc lv st) : AW x cs ss n h pc lv st := by
  intro H locs ls hR hS hL
  refine kk H locs ls (hR.up hh rfl ?_ (fun _ _ => rfl)) hS hL
  have h1 : H[a]? = some (vp_cell x.1.2.2.1.2.2 (N, .inr (.inr (.inr (.inr f))))) := (hR.2.2 a _ hh).2
  show H[a]? = some (vp_cell x.1.2.2.1.2.2 (N, .inr (.inr (.inr (.inr g)))))
  rw [h1, vp_cell_q, vp_cell_q]
  unfold arrV
  congr 2
  congr 1
  funext j
  exact congrArg va_rf (hfg j.val j.isLt)
end AJ
