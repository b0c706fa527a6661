def aiu (f : Int → Int) (z v : Int) : Int → Int := fun k => if k = z then v else f k
theorem aiu_s (f : Int → Int) (z v : Int) : aiu f z v z = v := by simp [aiu]
theorem aiu_n {f : Int → Int} {z v k : Int} (h : k ≠ z) : aiu f z v k = f k := by simp [aiu, h]
theorem aN_of {args : Array Value} {s : State} (hts : ∀ u ∈ lw_gn, u.before args s = true) : aN s := by
  intro w hw hk
  have h1 := hts w (gn_of hw (by unfold aGW; rw [hk]; simp))
  cases w <;> first | (exfalso; revert hk; simp [aNk]; done) | exact va_Nw.of rfl h1 | (rename_i ty; cases ty <;> first | (exfalso; revert hk; simp [aNk]; done) | exact va_AO.of h1)
theorem aB_in {v : Int} (hv : v = 0 ∨ v = 1) : narrow .boolean (.int (Int32.ofInt v)) = .int (Int32.ofInt v) := by
  rcases hv with rfl | rfl <;> decide
section AR
variable {x : aX} {d : Nat} {cc : ByteArray} {own nm : String} {ret : Option FieldType} {mc ms : Nat} {post : aPost} {cs ss n pc : Nat} {h : AH} {lv : List (Option Value)} {st : List Value}

theorem A_gen {a : Nat} {e : va_E} (k : ∀ h2 : AH, h2 a = some e → (∀ q, q ≠ a → h2 q = h q) → h2 = aup h a e → AW x cs ss n h2 pc lv st) : AW x cs ss n (aup h a e) pc lv st := k _ (aup_s h a e) (fun _ hq => aup_n hq) rfl
theorem A_eq {h2 : AH} (e : h = h2) (k : AW x cs ss n h2 pc lv st) : AW x cs ss n h pc lv st := e ▸ k
theorem A_widen (X : aOk x d cc own nm ret mc ms post) {cs2 ss2 : Nat} (h1 : cs ≤ cs2) (h2 : ss ≤ ss2) (k : AW x cs2 ss2 n h pc lv st) : AW x cs ss n h pc lv st := by
  obtain ⟨p, e, R, s, args, below, meth, c, Q, hw, hx, hb, hml, hown, hts, hK, hH0, hscr, hnm, hroom, hret⟩ := X
  intro H locs ls hR hS hL
  exact (hw H locs cs ss _).mpr (W.widen h1 h2 ((hw H locs cs2 ss2 _).mp (k H locs ls hR hS hL)))
theorem A_getf (X : aOk x d cc own nm ret mc ms post) {idx ci k a : Nat} {fin : Bool} {ty : FieldType} {fs : List Value} {v : Value} (hf : aFl own idx ci k fin ty) (hh : h a = some (aOb ci fs)) (hv : fs[k]? = some v) (hd : decode cc pc = .ok (.getfield idx, 3)) (kk : AW x cs ss n h (pc + 3) lv (v :: st)) : AW x cs ss n h pc lv (.ref a :: st) := by
  obtain ⟨p, e, R, s, args, below, meth, c, Q, hw, hx, hb, hml, hown, hts, hK, hH0, hscr, hnm, hroom, hret⟩ := X
  intro H locs ls hR hS hL
  obtain ⟨C, T, N, tys, hc, hk, hin, hty, hnm2, hfin, hpt, hl⟩ := hf
  rcases hl with hl | ⟨host, hl⟩
  · exact (hw H locs cs ss _).mpr (va_get hx hb hts hin hown hK (hR.at hh) 0 rfl hc k hk (hts _ (gn_of hl rfl)) (fun x hx => hx) hv hd ((hw H locs cs ss _).mp (kk H locs ls hR hS hL)))
  · exact (hw H locs cs ss _).mpr (va_getN (host := host) hx hb hts hin hown hK (hR.at hh) 0 rfl hc k hk (hts _ (gn_of hl rfl)) (fun x hx => hx) hv hd ((hw H locs cs ss _).mp (kk H locs ls hR hS hL)))
theorem A_putf (X : aOk x d cc own nm ret mc ms post) {idx ci k a : Nat} {ty : FieldType} {fs : List Value} {v : Value} (hf : aFl own idx ci k false ty) (hh : h a = some (aOb ci fs)) (hd : decode cc pc = .ok (.putfield idx, 3)) (kk : AW x cs ss n (aup h a (aOb ci (fs.set k v))) (pc + 3) lv st) (hlen : k < fs.length := by exact Nat.le_of_ble_eq_true rfl) (hn : narrow ty v = v := by rfl) (hfit : fits ty v = true := by rfl) : AW x cs ss n h pc lv (v :: .ref a :: st) := by
  obtain ⟨p, e, R, s, args, below, meth, c, Q, hw, hx, hb, hml, hown, hts, hK, hH0, hscr, hnm, hroom, hret⟩ := X
  intro H locs ls hR hS hL
  obtain ⟨C, T, N, tys, hc, hk, hin, hty, hnm2, hfin, hpt, hl⟩ := hf
  have hap := va_apart (own := own) hts hin tys hty hnm2 hK hc
  obtain ⟨r, h1, cell, q1, q2, q3, q4⟩ := (hR.2.2 a _ hh).2
  have hr : r = (C, T, N) := Option.some.inj (h1.symm.trans hc)
  subst hr
  obtain ⟨hSl, hfc, kC, hkC, hkind⟩ := hK.1 ci _ hc
  obtain ⟨cf, kf, fi, f, hi, hsl⟩ := hSl k hk
  have hlay := hts _ (hin _ (u_in_lay hk))
  unfold u_lay at hlay
  rw [if_neg (by rw [hfin]; decide)] at hlay
  have hst := (u_facts hfc hkC (u_lays hts hin hk) hi).1
  have h6 := u_store hfc hkC hkind hlay hi hpt hn hfit
  rcases hl with hl | ⟨host, hl⟩
  · refine (hw H locs cs ss _).mpr (W.putK hx hb (f := f) ⟨hown, hts _ (gn_of hl rfl), ⟨_, _, _, hi⟩, hst⟩ (by rw [q2]; exact h6) q1 q3 (by rw [hsl]; exact k2_hasslot (q4 k hk)) rfl rfl hd fun H' e1 e2 e3 => (hw H' _ cs ss _).mp ?_)
    rw [hsl] at e1 ⊢
    exact kk H' _ ls (hR.up hh e2 ⟨_, hc, t_OB.to (V := updV (vp_V fs) k v) ⟨_, e1, q2, q3, t_set q4 hap hk v⟩ (fun j _ => vp_updV_set hlen v j)⟩ e3) (hS.put e2 e3 ((hR.2.2 a _ hh).1)) hL
  · refine (hw H locs cs ss _).mpr (va_WputK (host := host) hx hb (f := f) hown (hts _ (gn_of hl rfl)) hi hst (by rw [q2]; exact h6) q1 q3 (by rw [hsl]; exact k2_hasslot (q4 k hk)) rfl rfl hd fun H' e1 e2 e3 => (hw H' _ cs ss _).mp ?_)
    rw [hsl] at e1 ⊢
    exact kk H' _ ls (hR.up hh e2 ⟨_, hc, t_OB.to (V := updV (vp_V fs) k v) ⟨_, e1, q2, q3, t_set q4 hap hk v⟩ (fun j _ => vp_updV_set hlen v j)⟩ e3) (hS.put e2 e3 ((hR.2.2 a _ hh).1)) hL

theorem A_putF (X : aOk x d cc own nm ret mc ms post) {idx ci k a : Nat} {ty : FieldType} {fs : List Value} {v : Value} (hf : aFl own idx ci k true ty) (hh : h a = some (aOb ci fs)) (hd : decode cc pc = .ok (.putfield idx, 3)) (kk : AW x cs ss n (aup h a (aOb ci (fs.set k v))) (pc + 3) lv st) (hno : ∀ a b c host, ¬ Cond.fieldLinkNest own idx a b c host ∈ lw_tbl) (hini : nm = "<init>" := by rfl) (hdecl : ∀ q, vwCl[ci]? = some q → (q.2.1 k).1 = own := by intro q hq; cases hq; rfl) (hlen : k < fs.length := by exact Nat.le_of_ble_eq_true rfl) (hn : narrow ty v = v := by rfl) (hfit : fits ty v = true := by rfl) : AW x cs ss n h pc lv (v :: .ref a :: st) := by
  obtain ⟨p, e, R, s, args, below, meth, c, Q, hw, hx, hb, hml, hown, hts, hK, hH0, hscr, hnm, hroom, hret⟩ := X
  intro H locs ls hR hS hL
  obtain ⟨C, T, N, tys, hc, hk, hin, hty, hnm2, hfin, hpt, hl⟩ := hf
  have hap := va_apart (own := own) hts hin tys hty hnm2 hK hc
  obtain ⟨r, h1, cell, q1, q2, q3, q4⟩ := (hR.2.2 a _ hh).2
  have hr : r = (C, T, N) := Option.some.inj (h1.symm.trans hc)
  subst hr
  obtain ⟨hSl, hfc, kC, hkC, hkind⟩ := hK.1 ci _ hc
  obtain ⟨cf, kf, fi, f, hi, hsl⟩ := hSl k hk
  have hlay := hts _ (hin _ (u_in_lay hk))
  unfold u_lay at hlay
  rw [if_pos hfin] at hlay
  have hst := (u_facts hfc hkC (u_lays hts hin hk) hi).1
  have hcf : x.2.2.1.cls = cf := by
    obtain ⟨_, _, c', _, _, _, -, -, hf', -, -, -, hown2, -⟩ := Cond.laysFinal_spec hlay
    have e1 : c' = cf := by have := hi.symm.trans hf'; simp at this; exact this.1.symm
    rw [show (T k).1 = own from hdecl _ hc] at hown2
    rw [← e1]; exact Option.some.inj (hown.symm.trans hown2)
  have h6 := u_fits hfc hkC hkind (Or.inr hlay) hi hpt hn hfit
  rcases hl with hl | ⟨host, hl⟩
  · refine (hw H locs cs ss _).mpr (W.putFinK hx hb hown (hts _ (gn_of hl rfl)) hi hst hcf (hnm.trans hini) (by rw [q2]; exact h6) q1 q3 (by rw [hsl]; exact k2_hasslot (q4 k hk)) rfl rfl hd fun H' e1 e2 e3 => (hw H' _ cs ss _).mp ?_)
    rw [hsl] at e1 ⊢
    exact kk H' _ ls (hR.up hh e2 ⟨_, hc, t_OB.to (V := updV (vp_V fs) k v) ⟨_, e1, q2, q3, t_set q4 hap hk v⟩ (fun j _ => vp_updV_set hlen v j)⟩ e3) (hS.put e2 e3 ((hR.2.2 a _ hh).1)) hL
  · exact absurd hl (hno _ _ _ _)

theorem A_iald (X : aOk x d cc own nm ret mc ms post) {a N : Nat} {f : Int → Int} {z : Int} (hh : h a = some (aIa x.1 N f)) (h0 : 0 ≤ z ∧ z < (N : Int)) (hd : decode cc pc = .ok (.iaload, 1)) (kk : AW x cs ss n h (pc + 1) lv (aI (f z) :: st)) (hN : N < 2147483648 := by decide) : AW x cs ss n h pc lv (aI z :: .ref a :: st) := by
  obtain ⟨p, e, R, s, args, below, meth, c, Q, hw, hx, hb, hml, hown, hts, hK, hH0, hscr, hnm, hroom, hret⟩ := X
  intro H locs ls hR hS hL
  obtain ⟨j, rfl⟩ := Int.eq_ofNat_of_zero_le h0.1
  refine (hw H locs cs ss _).mpr (va_iald hx hb hK (hR.at hh) 0 0 rfl rfl (aI_in rfl (by omega) hN) hd ((hw H locs cs ss _).mp ?_))
  show x.2.1 H locs cs ss (F0 _ _ ls (.int (Int32.ofInt (f (((Int32.ofInt (j : Int)).toNatClampNeg : Nat) : Int))) :: st))
  rw [aI_cl rfl (by omega)]
  exact kk H locs ls hR hS hL
theorem A_zald (X : aOk x d cc own nm ret mc ms post) {a N : Nat} {f : Int → Int} {z : Int} (hh : h a = some (aZa x.1 N f)) (h0 : 0 ≤ z ∧ z < (N : Int)) (hd : decode cc pc = .ok (.baload, 1)) (kk : AW x cs ss n h (pc + 1) lv (aI (f z) :: st)) (hN : N < 2147483648 := by decide) : AW x cs ss n h pc lv (aI z :: .ref a :: st) := by
  obtain ⟨p, e, R, s, args, below, meth, c, Q, hw, hx, hb, hml, hown, hts, hK, hH0, hscr, hnm, hroom, hret⟩ := X
  intro H locs ls hR hS hL
  obtain ⟨j, rfl⟩ := Int.eq_ofNat_of_zero_le h0.1
  refine (hw H locs cs ss _).mpr (va_zald hx hb hK (hR.at hh) 0 1 rfl rfl (aI_in rfl (by omega) hN) hd ((hw H locs cs ss _).mp ?_))
  show x.2.1 H locs cs ss (F0 _ _ ls (.int (Int32.ofInt (f (((Int32.ofInt (j : Int)).toNatClampNeg : Nat) : Int))) :: st))
  rw [aI_cl rfl (by omega)]
  exact kk H locs ls hR hS hL
theorem A_iast (X : aOk x d cc own nm ret mc ms post) {a N : Nat} {f : Int → Int} {z v : Int} (hh : h a = some (aIa x.1 N f)) (h0 : 0 ≤ z ∧ z < (N : Int)) (hd : decode cc pc = .ok (.iastore, 1)) (kk : AW x cs ss n (aup h a (aIa x.1 N (aiu f z v))) (pc + 1) lv st) (hN : N < 2147483648 := by decide) : AW x cs ss n h pc lv (aI v :: aI z :: .ref a :: st) := by
  obtain ⟨p, e, R, s, args, below, meth, c, Q, hw, hx, hb, hml, hown, hts, hK, hH0, hscr, hnm, hroom, hret⟩ := X
  intro H locs ls hR hS hL
  obtain ⟨j, rfl⟩ := Int.eq_ofNat_of_zero_le h0.1
  have hin := aI_in (z := (j : Int)) rfl (show j < N by omega) hN
  have hcl : (Int32.ofInt (j : Int)).toNatClampNeg = j := aI_cl rfl (by omega)
  refine (hw H locs cs ss _).mpr (W.iast hx hb ((hR.2.2 a _ hh).2) ((hK.2 0 _ rfl).1 N (fun j => .int (Int32.ofInt (f (j : Int))))) (fun q => by cases q) (by show ¬ (_ < 0 ∨ (arrV _ _ _).slots.size ≤ _); rw [arrV_size]; exact hin) rfl rfl hd fun H1 e z oq => (hw H1 _ cs ss _).mp ?_)
  refine kk H1 _ ls (hR.up hh z ?_ oq) (hS.put z oq (hR.2.2 a _ hh).1) hL
  show H1[a]? = some (vp_cell _ _)
  rw [e]
  rw [hcl, vp_cell_i, vp_cell_i, arrV_store]
  congr 2
  funext q
  by_cases hq : q = j
  · subst hq
    simp [updV, aiu]
  · have hq2 : (q : Int) ≠ (j : Int) := by omega
    simp [updV, aiu, hq, hq2]
theorem A_zast (X : aOk x d cc own nm ret mc ms post) {a N : Nat} {f : Int → Int} {z v : Int} (hh : h a = some (aZa x.1 N f)) (h0 : 0 ≤ z ∧ z < (N : Int)) (hv : v = 0 ∨ v = 1) (hd : decode cc pc = .ok (.bastore, 1)) (kk : AW x cs ss n (aup h a (aZa x.1 N (aiu f z v))) (pc + 1) lv st) (hN : N < 2147483648 := by decide) : AW x cs ss n h pc lv (aI v :: aI z :: .ref a :: st) := by
  obtain ⟨p, e, R, s, args, below, meth, c, Q, hw, hx, hb, hml, hown, hts, hK, hH0, hscr, hnm, hroom, hret⟩ := X
  intro H locs ls hR hS hL
  obtain ⟨j, rfl⟩ := Int.eq_ofNat_of_zero_le h0.1
  have hin := aI_in (z := (j : Int)) rfl (show j < N by omega) hN
  have hcl : (Int32.ofInt (j : Int)).toNatClampNeg = j := aI_cl rfl (by omega)
  refine (hw H locs cs ss _).mpr (W.zast hx hb ((hR.2.2 a _ hh).2) ((hK.2 1 _ rfl).1 N (fun j => .int (Int32.ofInt (f (j : Int))))) (fun q => by cases q) (by show ¬ (_ < 0 ∨ (arrV _ _ _).slots.size ≤ _); rw [arrV_size]; exact hin) rfl rfl hd fun H1 e z oq => (hw H1 _ cs ss _).mp ?_)
  refine kk H1 _ ls (hR.up hh z ?_ oq) (hS.put z oq (hR.2.2 a _ hh).1) hL
  show H1[a]? = some (vp_cell _ _)
  rw [e, aB_in hv]
  rw [hcl, vp_cell_i, vp_cell_i, arrV_store]
  congr 2
  funext q
  by_cases hq : q = j
  · subst hq
    simp [updV, aiu]
  · have hq2 : (q : Int) ≠ (j : Int) := by omega
    simp [updV, aiu, hq, hq2]
theorem A_aald (X : aOk x d cc own nm ret mc ms post) {a N r : Nat} {f : Nat → Option Nat} {z : Int} (hh : h a = some (aJa x.1 N f)) (j : Nat) (hj : z = (j : Int)) (h0 : j < N) (hr : f j = some r) (hd : decode cc pc = .ok (.aaload, 1)) (kk : AW x cs ss n h (pc + 1) lv (.ref r :: st)) (hN : N < 2147483648 := by decide) : AW x cs ss n h pc lv (aI z :: .ref a :: st) := by
  obtain ⟨p, e, R, s, args, below, meth, c, Q, hw, hx, hb, hml, hown, hts, hK, hH0, hscr, hnm, hroom, hret⟩ := X
  intro H locs ls hR hS hL
  refine (hw H locs cs ss _).mpr (va_aldq (C := RX1) hx hb hK (hR.at hh) 0 2 rfl rfl (aI_in hj h0 hN) hd ((hw H locs cs ss _).mp ?_))
  rw [aI_cl hj (by omega), hr]
  exact kk H locs ls hR hS hL
theorem A_slen (X : aOk x d cc own nm ret mc ms post) {b L : Nat} {xs : Nat → Int32} (hs : x.2.2.2.2.2 = some (b, L, xs)) (hd : decode cc pc = .ok (.arraylength, 1)) (kk : AW x cs ss n h (pc + 1) lv (aI (L : Int) :: st)) : AW x cs ss n h pc lv (.ref b :: st) := by
  obtain ⟨p, e, R, s, args, below, meth, c, Q, hw, hx, hb, hml, hown, hts, hK, hH0, hscr, hnm, hroom, hret⟩ := X
  intro H locs ls hR hS hL
  obtain ⟨h1, h2, h3, h4⟩ := hscr b L xs hs
  rw [hH0] at h1 h2
  refine (hw H locs cs ss _).mpr (va_slen hx hb h1 h2 h3 hS hd ((hw H locs cs ss _).mp ?_))
  have k1 := kk H locs ls hR hS hL
  rw [show aI (L : Int) = .int (Int32.ofNat L) from congrArg Value.int (aI_nat L)] at k1
  exact k1
theorem A_sld (X : aOk x d cc own nm ret mc ms post) {b L : Nat} {xs : Nat → Int32} {z : Int} (hs : x.2.2.2.2.2 = some (b, L, xs)) (j : Nat) (hj : z = (j : Int)) (h0 : j < L) (hd : decode cc pc = .ok (.iaload, 1)) (kk : AW x cs ss n h (pc + 1) lv (aI (xs j).toInt :: st)) : AW x cs ss n h pc lv (aI z :: .ref b :: st) := by
  obtain ⟨p, e, R, s, args, below, meth, c, Q, hw, hx, hb, hml, hown, hts, hK, hH0, hscr, hnm, hroom, hret⟩ := X
  intro H locs ls hR hS hL
  obtain ⟨h1, h2, h3, h4⟩ := hscr b L xs hs
  rw [hH0] at h1 h2
  refine (hw H locs cs ss _).mpr (va_sld hx hb h1 h2 h3 hS (aI_in hj h0 h4) hd ((hw H locs cs ss _).mp ?_))
  have k1 := kk H locs ls hR hS hL
  rw [show aI (xs j).toInt = .int (xs j) from congrArg Value.int (Int32.ofInt_toInt _)] at k1
  rw [aI_cl hj (by omega)]
  exact k1
theorem A_new (X : aOk x d cc own nm ret mc ms post) {idx ci N : Nat} {C : String} {T : u_T} {ty : Nat → FieldType} {fs : List Value} (hc : vwCl[ci]? = some (C, T, N)) (hin : ∀ w ∈ u_ws C T N, w ∈ lw_gn) (hty : ∀ k, k < N → parseFieldDescriptor (T k).2.2.1 = some (ty k)) (hcl : Cond.classLink own idx C ∈ lw_tbl) (hin1 : Cond.instantiable C N ∈ lw_tbl) (hin2 : Cond.initialized C ∈ lw_tbl) (hfs : ∀ j, j < N → defaultValue (ty j) = vp_V fs j) (hd : decode cc pc = .ok (.new idx, 3)) (kk : AW x (cs + 1) (ss + N) (n + 1) (aup h n (aOb ci fs)) (pc + 3) lv (.ref n :: st)) (hcs : cs + 1 ≤ mc ∧ ss + N ≤ ms := by decide) : AW x cs ss n h pc lv st := by
  obtain ⟨p, e, R, s, args, below, meth, c, Q, hw, hx, hb, hml, hown, hts, hK, hH0, hscr, hnm, hroom, hret⟩ := X
  intro H locs ls hR hS hL
  have hKn := hK.1 ci _ hc
  refine (hw H locs cs ss _).mpr (W.newcK hx hb hown (hts _ (gn_of hcl rfl)) (hts _ (gn_of hin1 rfl)) (hts _ (gn_of hin2 rfl)) rfl hd (by omega) (by omega) hKn.2.1 hR.1 fun H1 kC hkC e1 z1 o1 => (hw H1 _ _ _ _).mp ?_)
  exact kk H1 _ ls (hR.new z1 ⟨_, hc, (u_born ty hts hin hKn hkC e1 hty).to hfs⟩ o1) ⟨Nat.le_trans hS.1 (by have := hR.1; omega), fun q h1 h2 => (o1 q (by have := hR.1; have := hS.1; omega)).trans (hS.2.1 q h1 h2), hS.2.2⟩ hL
theorem A_newai (X : aOk x d cc own nm ret mc ms post) {z : Int} (N : Nat) (hz : z = (N : Int)) (hd : decode cc pc = .ok (.newarray .int, 2)) (kk : AW x (cs + 1) (ss + N) (n + 1) (aup h n (aIa x.1 N (fun _ => 0))) (pc + 2) lv (.ref n :: st)) (hm : Cond.arrayClass .int ∈ lw_tbl) (hN : N < 100000 := by decide) (hcs : cs + 1 ≤ mc ∧ ss + N ≤ ms := by decide) : AW x cs ss n h pc lv (aI z :: st) := by
  obtain ⟨p, e, R, s, args, below, meth, c, Q, hw, hx, hb, hml, hown, hts, hK, hH0, hscr, hnm, hroom, hret⟩ := X
  intro H locs ls hR hS hL
  have hcl := aI_cl hz (show N < 2147483648 by omega)
  have h0 : ¬ Int32.ofInt z < 0 := by rw [aI_0, aI_lt (by omega) in0]; omega
  have hc8 : componentBytes .int ≤ 8 := by decide
  have hby : N * componentBytes (newarray.typeOf .int) ≤ 536870912 := Nat.le_trans (Nat.mul_le_mul_left N hc8) (by omega)
  refine (hw H locs cs ss _).mpr (va_newaK (atype := .int) hx hb (hts _ (gn_of hm rfl)) rfl hd rfl h0 hcl hby (by omega) (by omega) hR.1 fun H1 cA e1 z1 o1 hAr hNm => (hw H1 _ _ _ _).mp ?_)
  have e2 : cA = x.1.2.2.1.1 := Option.some.inj (hNm.symm.trans (hK.2 0 _ rfl).2)
  subst e2
  exact kk H1 _ ls (hR.new z1 e1 o1) ⟨Nat.le_trans hS.1 (by have := hR.1; omega), fun q h1 h2 => (o1 q (by have := hR.1; have := hS.1; omega)).trans (hS.2.1 q h1 h2), hS.2.2⟩ hL
theorem A_newaz (X : aOk x d cc own nm ret mc ms post) {z : Int} (N : Nat) (hz : z = (N : Int)) (hd : decode cc pc = .ok (.newarray .boolean, 2)) (kk : AW x (cs + 1) (ss + N) (n + 1) (aup h n (aZa x.1 N (fun _ => 0))) (pc + 2) lv (.ref n :: st)) (hm : Cond.arrayClass .boolean ∈ lw_tbl) (hN : N < 100000 := by decide) (hcs : cs + 1 ≤ mc ∧ ss + N ≤ ms := by decide) : AW x cs ss n h pc lv (aI z :: st) := by
  obtain ⟨p, e, R, s, args, below, meth, c, Q, hw, hx, hb, hml, hown, hts, hK, hH0, hscr, hnm, hroom, hret⟩ := X
  intro H locs ls hR hS hL
  have hcl := aI_cl hz (show N < 2147483648 by omega)
  have h0 : ¬ Int32.ofInt z < 0 := by rw [aI_0, aI_lt (by omega) in0]; omega
  have hc8 : componentBytes .boolean ≤ 8 := by decide
  have hby : N * componentBytes (newarray.typeOf .boolean) ≤ 536870912 := Nat.le_trans (Nat.mul_le_mul_left N hc8) (by omega)
  refine (hw H locs cs ss _).mpr (va_newaK (atype := .boolean) hx hb (hts _ (gn_of hm rfl)) rfl hd rfl h0 hcl hby (by omega) (by omega) hR.1 fun H1 cA e1 z1 o1 hAr hNm => (hw H1 _ _ _ _).mp ?_)
  have e2 : cA = x.1.2.2.1.2.1 := Option.some.inj (hNm.symm.trans (hK.2 1 _ rfl).2)
  subst e2
  exact kk H1 _ ls (hR.new z1 e1 o1) ⟨Nat.le_trans hS.1 (by have := hR.1; omega), fun q h1 h2 => (o1 q (by have := hR.1; have := hS.1; omega)).trans (hS.2.1 q h1 h2), hS.2.2⟩ hL
theorem A_objInit (X : aOk x d cc own nm ret mc ms post) {idx a : Nat} (hl : Cond.methodLink own idx Lib.objectInit ∈ lw_tbl) (hi : Cond.instanceMethod Lib.objectInit ∈ lw_tbl) (hc : Cond.code Lib.objectInit ⟨#[0xb1]⟩ 1 none ∈ lw_tbl) (hd : decode cc pc = .ok (.invokespecial idx, 3)) (kk : AW x cs ss n h (pc + 3) lv []) (hdd : 1 ≤ d := by omega) : AW x cs ss n h pc lv [.ref a] := by
  obtain ⟨p, e, R, s, args, below, meth, c, Q, hw, hx, hb, hml, hown, hts, hK, hH0, hscr, hnm, hroom, hret⟩ := X
  intro H locs ls hR hS hL
  exact (hw H locs cs ss _).mpr (W.objInit hx hb hown (hts _ (gn_of hl rfl)) (hts _ (gn_of hi rfl)) (hts _ (gn_of hc rfl)) rfl (hL.2.1.trans hml.symm) rfl hd (by omega) (by show 2 * 0 + 0 + 12 ≤ _; omega) ((hw H locs cs ss _).mp (kk H locs ls hR hS hL)))
theorem A_ret (X : aOk x d cc own nm ret mc ms post) {z : Int} (hd : decode cc pc = .ok (.ireturn, 1)) (hr : ret = some .int) (hp : post (some (aI z)) n h) : AW x mc ms n h pc lv [aI z] := by
  obtain ⟨p, e, R, s, args, below, meth, c, Q, hw, hx, hb, hml, hown, hts, hK, hH0, hscr, hnm, hroom, hret⟩ := X
  intro H locs ls hR hS hL
  subst hr
  exact hret H locs h n (some (aI z)) pc ls hp hR hS hd
theorem A_retz (X : aOk x d cc own nm ret mc ms post) {z : Int} (hd : decode cc pc = .ok (.ireturn, 1)) (hr : ret = some .boolean) (hz : z = 0 ∨ z = 1) (hp : post (some (aI z)) n h) : AW x mc ms n h pc lv [aI z] := by
  obtain ⟨p, e, R, s, args, below, meth, c, Q, hw, hx, hb, hml, hown, hts, hK, hH0, hscr, hnm, hroom, hret⟩ := X
  intro H locs ls hR hS hL
  subst hr
  exact hret H locs h n (some (aI z)) pc ls hp hR hS ⟨hd, aB_in hz⟩
theorem A_retl (X : aOk x d cc own nm ret mc ms post) {z : Int} (hd : decode cc pc = .ok (.lreturn, 1)) (hr : ret = some .long) (hp : post (some (aL z)) n h) : AW x mc ms n h pc lv [aL z] := by
  obtain ⟨p, e, R, s, args, below, meth, c, Q, hw, hx, hb, hml, hown, hts, hK, hH0, hscr, hnm, hroom, hret⟩ := X
  intro H locs ls hR hS hL
  subst hr
  exact hret H locs h n (some (aL z)) pc ls hp hR hS hd
theorem A_reta (X : aOk x d cc own nm ret mc ms post) {z : Nat} {C : String} (hd : decode cc pc = .ok (.areturn, 1)) (hr : ret = some (.object C)) (hp : post (some (.ref z)) n h) : AW x mc ms n h pc lv [.ref z] := by
  obtain ⟨p, e, R, s, args, below, meth, c, Q, hw, hx, hb, hml, hown, hts, hK, hH0, hscr, hnm, hroom, hret⟩ := X
  intro H locs ls hR hS hL
  subst hr
  exact hret H locs h n (some (.ref z)) pc ls hp hR hS hd
theorem A_retv (X : aOk x d cc own nm ret mc ms post) (hd : decode cc pc = .ok (.return_, 1)) (hr : ret = none) (hp : post none n h) : AW x mc ms n h pc lv [] := by
  obtain ⟨p, e, R, s, args, below, meth, c, Q, hw, hx, hb, hml, hown, hts, hK, hH0, hscr, hnm, hroom, hret⟩ := X
  intro H locs ls hR hS hL
  subst hr
  exact hret H locs h n none pc ls hp hR hS hd
theorem aCall_end {p : Program} {e : Env} {R : Room} {s : State} {args : Array Value} {below : List Frame} {meth : Method} {c : Code} {Q : State → Prop} {mc2 ms2 : Nat} {post2 : aPost} {st0 rest : List Value} {H : Heap} {locs : List Loc} {ls : Array Slot}
    (hw : ∀ (H : Heap) (locs : List Loc) (cs ss : Nat) (g : JFrame), x.2.1 H locs cs ss g ↔ W p x.1.1 e R s x.2.2.1 args below meth c H locs cs ss Q g)
    (hS : va_S (aA x.1) x.2.2.2.2.1 H locs) (hL : lo_has ls x.2.2.2.1 lv)
    (hr : va_Run p x.1.1 e R s x.2.2.1 args below meth c H locs cs ss mc2 ms2 (F0 x.2.2.1 pc ls st0) rest (fun st oc t => (∃ (v : Option Value) (n' : Nat) (h' : AH), oc = .returned v ∧ post2 v n' h' ∧ aRep x.1 n' h' t.heap) ∧ va_F (aA x.1) st t) (aA x.1))
    (kk : ∀ (v : Option Value) (n' : Nat) (h' : AH), post2 v n' h' → AW x (cs + mc2) (ss + ms2) n' h' (pc + 3) lv (v.toList ++ rest)) : x.2.1 H locs cs ss (F0 x.2.2.1 pc ls st0) := by
  refine (hw H locs cs ss _).mpr ?_
  intro T hT XT
  obtain ⟨v, st₀, t, T', L, h0, X', hLl, e1, e2, ⟨⟨v', n', h', hv, hp, hR'⟩, hz, hk⟩, stp⟩ := hr T hT XT
  cases hv
  rw [h0] at hz hk
  have k1 := (hw T'.heap (locs ++ L) (cs + mc2) (ss + ms2) _).mp (kk v n' h' hp T'.heap (locs ++ L) ls (by rw [e1]; exact hR')
    ⟨Nat.le_trans hS.1 (by rw [e1]; exact hz), fun q h1 h2 => by rw [e1, hk q (Nat.lt_of_lt_of_le h1 hS.1) h2]; exact hS.2.1 q h1 h2, fun q hq => by
      rcases List.mem_append.mp hq with h | h
      · exact hS.2.2 q h
      · exact hLl q h⟩ hL)
  obtain ⟨t2, a1, b1⟩ := k1 T' rfl X'
  exact ⟨t2, stp t2 a1, b1⟩
theorem aBlind {G : aG} {av : List Value} {n : Nat} {h : AH} : FrameBlind (va_Pc av (fun U => aRep G n h U.heap ∧ va_K G.2.1 vwCl (aTys G) U ∧ aN U)) := fun a U g mk q => ⟨q.1, q.2.1, va_K.moved (u := U) (U := U.calling g mk a) (Vm.Alike.refl U.vm) q.2.2.1, aN.same (s := U) (U := U.calling g mk a) rfl q.2.2.2⟩
theorem aGood {kM : aM} {na : Nat} (kc : aKc kM na) : GoodIn lw_gn (Cond.code kM.1 kM.2.1 kM.2.2.1 kM.2.2.2 :: lw_gt) := by
  intro w hw
  rcases List.mem_cons.mp hw with rfl | h
  · exact ⟨gn_of kc.1 rfl, Or.inl rfl⟩
  · obtain ⟨h1, h2⟩ := List.mem_filter.mp h
    exact ⟨gn_of h1 (by unfold aGW; rw [h2]; rfl), good_of_word h2⟩
theorem A_callV (X : aOk x d cc own nm ret mc ms post) {mc2 ms2 d2 idx : Nat} {kM : aM} {post2 : aPost} {na : Nat} {As : List Value} {r ci : Nat} {fs : List Value} (hc : aCt x.1 d2 kM mc2 ms2 (.ref r :: As) n h post2) (hh : h r = some (aOb ci fs)) (hci : (vwCl[ci]?).map (fun q => q.1) = some kM.1.cls) (kc : aKV kM na) (hna : As.length = na) (hl : Cond.methodLink own idx kM.1 ∈ lw_tbl) (hd : decode cc pc = .ok (.invokevirtual idx, 3)) (kk : ∀ (v : Option Value) (n' : Nat) (h' : AH), post2 v n' h' → AW x (cs + mc2) (ss + ms2) n' h' (pc + 3) lv (v.toList ++ st)) (hdd : d2 + 1 ≤ d := by omega) (hcs : cs + mc2 ≤ mc ∧ ss + ms2 ≤ ms := by decide) (hsum : (st.map fun v => v.category).sum ≤ 8 := by exact Nat.le_of_ble_eq_true rfl) : AW x cs ss n h pc lv (As.reverse ++ .ref r :: st) := by
  obtain ⟨p, e, R, s, args, below, meth, c, Q, hw, hx, hb, hml, hown, hts, hK, hH0, hscr, hnm, hroom, hret⟩ := X
  intro H locs ls hR hS hL
  obtain ⟨hcs1, hcs2⟩ := hcs
  have hN := aN_of hts
  have hG := aGood kc.1
  have hPu : ∀ U : State, U.heap = H → s.WarmedH U.vm → va_Pc (.ref r :: As) (fun U => aRep x.1 n h U.heap ∧ va_K x.1.2.1 vwCl (aTys x.1) U ∧ aN U) ((.ref r :: As)).toArray U := fun U hU hW => ⟨rfl, by rw [hU]; exact hR, va_K.moved hW.alike hK, hN.warm hW⟩
  have hna : As.length = na := hna
  refine aCall_end (mc2 := mc2) (ms2 := ms2) (rest := st) hw hS hL (va_runV (As := As) (rest := st) ⟨hx, hb, hml, hown, hts⟩ hc ⟨callB_of na hts hG rfl rfl rfl (hts _ (gn_of kc.1.2.1 rfl)) (hts _ (gn_of hl rfl)) kc.1.2.2.1 ⟨by show d2 + 1 ≤ R.frames; omega, by show 8 + (kM.2.2.1 + 11) + 40 * d2 ≤ R.locals; have := kc.1.2.2.2.1; omega⟩, hts _ (gn_of kc.2.1 rfl), hts _ (gn_of kc.2.2 rfl)⟩ ⟨aBlind, by obtain ⟨q, hq, hq2⟩ := Option.map_eq_some_iff.mp hci; rw [← hq2]; exact va_recv (q0 := 0) hK (hR.at hh) hq rfl, hPu⟩ rfl hna (hL.2.1) rfl (lv_room hsum) hd ⟨by omega, by omega⟩) kk
theorem A_callVN (X : aOk x d cc own nm ret mc ms post) {mc2 ms2 d2 idx : Nat} {kM : aM} {post2 : aPost} {na : Nat} {As : List Value} {r ci : Nat} {fs : List Value} {host : String} (hc : aCt x.1 d2 kM mc2 ms2 (.ref r :: As) n h post2) (hh : h r = some (aOb ci fs)) (hci : (vwCl[ci]?).map (fun q => q.1) = some kM.1.cls) (kc : aKV kM na) (hna : As.length = na) (hl : Cond.methodLinkNest own idx kM.1 host ∈ lw_tbl) (hd : decode cc pc = .ok (.invokevirtual idx, 3)) (kk : ∀ (v : Option Value) (n' : Nat) (h' : AH), post2 v n' h' → AW x (cs + mc2) (ss + ms2) n' h' (pc + 3) lv (v.toList ++ st)) (hdd : d2 + 1 ≤ d := by omega) (hcs : cs + mc2 ≤ mc ∧ ss + ms2 ≤ ms := by decide) (hsum : (st.map fun v => v.category).sum ≤ 8 := by exact Nat.le_of_ble_eq_true rfl) : AW x cs ss n h pc lv (As.reverse ++ .ref r :: st) := by
  obtain ⟨p, e, R, s, args, below, meth, c, Q, hw, hx, hb, hml, hown, hts, hK, hH0, hscr, hnm, hroom, hret⟩ := X
  intro H locs ls hR hS hL
  obtain ⟨hcs1, hcs2⟩ := hcs
  have hN := aN_of hts
  have hG := aGood kc.1
  have hPu : ∀ U : State, U.heap = H → s.WarmedH U.vm → va_Pc (.ref r :: As) (fun U => aRep x.1 n h U.heap ∧ va_K x.1.2.1 vwCl (aTys x.1) U ∧ aN U) ((.ref r :: As)).toArray U := fun U hU hW => ⟨rfl, by rw [hU]; exact hR, va_K.moved hW.alike hK, hN.warm hW⟩
  have hna : As.length = na := hna
  refine aCall_end (mc2 := mc2) (ms2 := ms2) (rest := st) hw hS hL (va_runVN (As := As) (rest := st) ⟨hx, hb, hml, hown, hts⟩ hc ⟨va_cnB na hts hG rfl rfl rfl (hN _ hl rfl) (hts _ (gn_of kc.1.2.1 rfl)) kc.1.2.2.1 ⟨by show d2 + 1 ≤ R.frames; omega, by show 8 + (kM.2.2.1 + 11) + 40 * d2 ≤ R.locals; have := kc.1.2.2.2.1; omega⟩, hts _ (gn_of kc.2.1 rfl), hts _ (gn_of kc.2.2 rfl)⟩ ⟨aBlind, by obtain ⟨q, hq, hq2⟩ := Option.map_eq_some_iff.mp hci; rw [← hq2]; exact va_recv (q0 := 0) hK (hR.at hh) hq rfl, hPu⟩ rfl hna (hL.2.1) rfl (lv_room hsum) hd ⟨by omega, by omega⟩) kk
theorem A_callS (X : aOk x d cc own nm ret mc ms post) {mc2 ms2 d2 idx : Nat} {kM : aM} {post2 : aPost} {na : Nat} {As : List Value} (hc : aCt x.1 d2 kM mc2 ms2 As n h post2) (kc : aKS kM na) (hna : As.length = na) (hl : Cond.methodLink own idx kM.1 ∈ lw_tbl) (hd : decode cc pc = .ok (.invokestatic idx, 3)) (kk : ∀ (v : Option Value) (n' : Nat) (h' : AH), post2 v n' h' → AW x (cs + mc2) (ss + ms2) n' h' (pc + 3) lv (v.toList ++ st)) (hdd : d2 + 1 ≤ d := by omega) (hcs : cs + mc2 ≤ mc ∧ ss + ms2 ≤ ms := by decide) (hsum : (st.map fun v => v.category).sum ≤ 8 := by exact Nat.le_of_ble_eq_true rfl) : AW x cs ss n h pc lv (As.reverse ++ st) := by
  obtain ⟨p, e, R, s, args, below, meth, c, Q, hw, hx, hb, hml, hown, hts, hK, hH0, hscr, hnm, hroom, hret⟩ := X
  intro H locs ls hR hS hL
  obtain ⟨hcs1, hcs2⟩ := hcs
  have hN := aN_of hts
  have hG := aGood kc.1
  have hPu : ∀ U : State, U.heap = H → s.WarmedH U.vm → va_Pc As (fun U => aRep x.1 n h U.heap ∧ va_K x.1.2.1 vwCl (aTys x.1) U ∧ aN U) (As).toArray U := fun U hU hW => ⟨rfl, by rw [hU]; exact hR, va_K.moved hW.alike hK, hN.warm hW⟩
  have hna : As.length = na := hna
  refine aCall_end (mc2 := mc2) (ms2 := ms2) (rest := st) hw hS hL (va_runS (As := As) (rest := st) ⟨hx, hb, hml, hown, hts⟩ hc ⟨callB_of na hts hG rfl rfl rfl (hts _ (gn_of kc.1.2.1 rfl)) (hts _ (gn_of hl rfl)) kc.1.2.2.1 ⟨by show d2 + 1 ≤ R.frames; omega, by show 8 + (kM.2.2.1 + 11) + 40 * d2 ≤ R.locals; have := kc.1.2.2.2.1; omega⟩, hts _ (gn_of kc.2 rfl)⟩ ⟨aBlind, hPu⟩ rfl hna (hL.2.1) rfl (lv_room hsum) hd ⟨by omega, by omega⟩) kk
theorem A_callSN (X : aOk x d cc own nm ret mc ms post) {mc2 ms2 d2 idx : Nat} {kM : aM} {post2 : aPost} {na : Nat} {As : List Value} {host : String} (hc : aCt x.1 d2 kM mc2 ms2 As n h post2) (kc : aKS kM na) (hna : As.length = na) (hl : Cond.methodLinkNest own idx kM.1 host ∈ lw_tbl) (hd : decode cc pc = .ok (.invokestatic idx, 3)) (kk : ∀ (v : Option Value) (n' : Nat) (h' : AH), post2 v n' h' → AW x (cs + mc2) (ss + ms2) n' h' (pc + 3) lv (v.toList ++ st)) (hdd : d2 + 1 ≤ d := by omega) (hcs : cs + mc2 ≤ mc ∧ ss + ms2 ≤ ms := by decide) (hsum : (st.map fun v => v.category).sum ≤ 8 := by exact Nat.le_of_ble_eq_true rfl) : AW x cs ss n h pc lv (As.reverse ++ st) := by
  obtain ⟨p, e, R, s, args, below, meth, c, Q, hw, hx, hb, hml, hown, hts, hK, hH0, hscr, hnm, hroom, hret⟩ := X
  intro H locs ls hR hS hL
  obtain ⟨hcs1, hcs2⟩ := hcs
  have hN := aN_of hts
  have hG := aGood kc.1
  have hPu : ∀ U : State, U.heap = H → s.WarmedH U.vm → va_Pc As (fun U => aRep x.1 n h U.heap ∧ va_K x.1.2.1 vwCl (aTys x.1) U ∧ aN U) (As).toArray U := fun U hU hW => ⟨rfl, by rw [hU]; exact hR, va_K.moved hW.alike hK, hN.warm hW⟩
  have hna : As.length = na := hna
  refine aCall_end (mc2 := mc2) (ms2 := ms2) (rest := st) hw hS hL (va_runSN (As := As) (rest := st) ⟨hx, hb, hml, hown, hts⟩ hc ⟨va_cnB na hts hG rfl rfl rfl (hN _ hl rfl) (hts _ (gn_of kc.1.2.1 rfl)) kc.1.2.2.1 ⟨by show d2 + 1 ≤ R.frames; omega, by show 8 + (kM.2.2.1 + 11) + 40 * d2 ≤ R.locals; have := kc.1.2.2.2.1; omega⟩, hts _ (gn_of kc.2 rfl), trivial⟩ ⟨aBlind, hPu⟩ rfl hna (hL.2.1) rfl (lv_room hsum) hd ⟨by omega, by omega⟩) kk
theorem A_callI (X : aOk x d cc own nm ret mc ms post) {mc2 ms2 d2 idx : Nat} {kM : aM} {post2 : aPost} {na : Nat} {As : List Value} {r : Nat} (hc : aCt x.1 d2 kM mc2 ms2 (.ref r :: As) n h post2) (kc : aKI kM na) (hret0 : kM.2.2.2 = none) (hna : As.length = na) (hl : Cond.methodLink own idx kM.1 ∈ lw_tbl) (hd : decode cc pc = .ok (.invokespecial idx, 3)) (kk : ∀ (v : Option Value) (n' : Nat) (h' : AH), post2 v n' h' → AW x (cs + mc2) (ss + ms2) n' h' (pc + 3) lv (v.toList ++ st)) (hdd : d2 + 1 ≤ d := by omega) (hcs : cs + mc2 ≤ mc ∧ ss + ms2 ≤ ms := by decide) (hsum : (st.map fun v => v.category).sum ≤ 8 := by exact Nat.le_of_ble_eq_true rfl) : AW x cs ss n h pc lv (As.reverse ++ .ref r :: st) := by
  obtain ⟨p, e, R, s, args, below, meth, c, Q, hw, hx, hb, hml, hown, hts, hK, hH0, hscr, hnm, hroom, hret⟩ := X
  intro H locs ls hR hS hL
  obtain ⟨hcs1, hcs2⟩ := hcs
  have hN := aN_of hts
  have hG := aGood kc.1
  have hPu : ∀ U : State, U.heap = H → s.WarmedH U.vm → va_Pc (.ref r :: As) (fun U => aRep x.1 n h U.heap ∧ va_K x.1.2.1 vwCl (aTys x.1) U ∧ aN U) ((.ref r :: As)).toArray U := fun U hU hW => ⟨rfl, by rw [hU]; exact hR, va_K.moved hW.alike hK, hN.warm hW⟩
  have hna : As.length = na := hna
  refine aCall_end (mc2 := mc2) (ms2 := ms2) (rest := st) hw hS hL (va_runI (As := As) (rest := st) ⟨hx, hb, hml, hown, hts⟩ hc ⟨by rw [← hret0]; exact callB_of na hts hG rfl rfl rfl (hts _ (gn_of kc.1.2.1 rfl)) (hts _ (gn_of hl rfl)) kc.1.2.2.1 ⟨by show d2 + 1 ≤ R.frames; omega, by show 8 + (kM.2.2.1 + 11) + 40 * d2 ≤ R.locals; have := kc.1.2.2.2.1; omega⟩, kc.2.2, hts _ (gn_of kc.2.1 rfl)⟩ ⟨aBlind, hPu⟩ rfl hna (hL.2.1) rfl (lv_room hsum) hd ⟨by omega, by omega⟩) kk
theorem A_callIN (X : aOk x d cc own nm ret mc ms post) {mc2 ms2 d2 idx : Nat} {kM : aM} {post2 : aPost} {na : Nat} {As : List Value} {r : Nat} {host : String} (hc : aCt x.1 d2 kM mc2 ms2 (.ref r :: As) n h post2) (kc : aKI kM na) (hret0 : kM.2.2.2 = none) (hna : As.length = na) (hl : Cond.methodLinkNest own idx kM.1 host ∈ lw_tbl) (hd : decode cc pc = .ok (.invokespecial idx, 3)) (kk : ∀ (v : Option Value) (n' : Nat) (h' : AH), post2 v n' h' → AW x (cs + mc2) (ss + ms2) n' h' (pc + 3) lv (v.toList ++ st)) (hdd : d2 + 1 ≤ d := by omega) (hcs : cs + mc2 ≤ mc ∧ ss + ms2 ≤ ms := by decide) (hsum : (st.map fun v => v.category).sum ≤ 8 := by exact Nat.le_of_ble_eq_true rfl) : AW x cs ss n h pc lv (As.reverse ++ .ref r :: st) := by
  obtain ⟨p, e, R, s, args, below, meth, c, Q, hw, hx, hb, hml, hown, hts, hK, hH0, hscr, hnm, hroom, hret⟩ := X
  intro H locs ls hR hS hL
  obtain ⟨hcs1, hcs2⟩ := hcs
  have hN := aN_of hts
  have hG := aGood kc.1
  have hPu : ∀ U : State, U.heap = H → s.WarmedH U.vm → va_Pc (.ref r :: As) (fun U => aRep x.1 n h U.heap ∧ va_K x.1.2.1 vwCl (aTys x.1) U ∧ aN U) ((.ref r :: As)).toArray U := fun U hU hW => ⟨rfl, by rw [hU]; exact hR, va_K.moved hW.alike hK, hN.warm hW⟩
  have hna : As.length = na := hna
  refine aCall_end (mc2 := mc2) (ms2 := ms2) (rest := st) hw hS hL (va_runIN (As := As) (rest := st) ⟨hx, hb, hml, hown, hts⟩ hc ⟨by rw [← hret0]; exact va_cnB na hts hG rfl rfl rfl (hN _ hl rfl) (hts _ (gn_of kc.1.2.1 rfl)) kc.1.2.2.1 ⟨by show d2 + 1 ≤ R.frames; omega, by show 8 + (kM.2.2.1 + 11) + 40 * d2 ≤ R.locals; have := kc.1.2.2.2.1; omega⟩, kc.2.2, hts _ (gn_of kc.2.1 rfl)⟩ ⟨aBlind, hPu⟩ rfl hna (hL.2.1) rfl (lv_room hsum) hd ⟨by omega, by omega⟩) kk
end AR
/-- a contract out of the walk of its body -/
theorem aCt_of {G : aG} {d : Nat} {kM : aM} {mc ms : Nat} {av : List Value} {n na : Nat} {h : AH} {post : aPost} {lv : List (Option Value)} (kc : aKc kM na) (hlv : lo_args av ++ List.replicate (kM.2.2.1 - (lo_args av).length) none = lv) (hlen : lv.length = kM.2.2.1) (hsl : (lg_sl av).length ≤ kM.2.2.1)
    (body : ∀ x : aX, x.1 = G → x.2.2.2.2.2 = none → aOk x d kM.2.1 kM.1.cls kM.1.name kM.2.2.2 mc ms post → AW x 0 0 n h 0 lv []) : aCt G d kM mc ms av n h post := by
  refine Met.ofW (cc := kM.2.1) (maxL := kM.2.2.1) (ret := kM.2.2.2) kc.2.2.2.2 rfl ?_
  intro p e s m args below meth c s₁ B hml hv
  obtain ⟨rfl, hR, hK, hN⟩ := hv
  have hx := B.exec
  have hb := B.bytes
  have hr := B.returns
  have hts0 := atoms_spec (ws := Cond.code kM.1 kM.2.1 kM.2.2.1 kM.2.2.2 :: lw_gt) B.pre
  have hown : s.vm.findClass kM.1.cls = some m.cls := findClass_of_methodNamed B.named
  have hlocks := B.notSynchronized
  have hin : meth.name = kM.1.name := (name_of_methodNamed B.named B.method).1
  have hts : ∀ u ∈ lw_gn, u.before av.toArray s = true := by
    intro u hu
    obtain ⟨h1, h2⟩ := List.mem_filter.mp hu
    unfold aGW at h2
    rcases Bool.or_eq_true _ _ ▸ h2 with h3 | h3
    · exact hts0 u (List.mem_cons_of_mem _ (List.mem_filter.mpr ⟨h1, h3⟩))
    · have h4 := hN u h1 h3
      cases u <;> first | (exfalso; revert h3; simp [aNk]; done) | exact va_Nw.use rfl h4 | (rename_i ty; cases ty <;> first | (exfalso; revert h3; simp [aNk]; done) | exact va_AO.use h4)
  have hl := lv_entry av (n := kM.2.2.1) hsl
  rw [lg_entry_eq]
  refine body (G, fun H locs cs ss g => W p G.1 e _ s m av.toArray below meth c H locs cs ss (MQ below _ av.toArray s mc ms (aA G)) g, m, kM.2.2.1, s.heap, none) rfl rfl ?_ s.heap [] _ hR va_S.rf (lo_entry hl hlv hlen)
  refine ⟨p, e, _, s, av.toArray, below, meth, c, _, fun H locs cs ss g => Iff.rfl, hx, hb, hml, hown, hts, hK, rfl, (fun b L xs h => by cases h), hin, ⟨Nat.le_refl _, Nat.le_refl _, Nat.le_refl _, Nat.le_refl _⟩, ?_⟩
  intro H locs h' n' v pc ls hp hR' hS' hd
  have hQ : ∀ t : State, t.heap = H → ((∃ (v' : Option Value) (n' : Nat) (h' : AH), Outcome.returned v = .returned v' ∧ post v' n' h' ∧ aRep G n' h' t.heap) ∧ va_F (aA G) s t) := fun t ht => ⟨⟨v, n', h', rfl, hp, by rw [ht]; exact hR'⟩, hS'.F ht⟩
  generalize hrt : kM.2.2.2 = rt at hd hr
  unfold aRet at hd
  split at hd
  · exact W.vret hx hb hr (fun t ht _ => hQ t ht) hS'.2.2 hd hlocks
  · exact W.iret hx hb hr (fun t ht _ => hQ t ht) hS'.2.2 hd hlocks
  · exact W.zret hx hb hr hd.2 (fun t ht _ => hQ t ht) hS'.2.2 hd.1 hlocks
  · exact W.lret hx hb hr (fun t ht _ => hQ t ht) hS'.2.2 hd hlocks
  · exact W.aret hx hb hr (Or.inl ⟨_, rfl⟩) (Or.inr ⟨_, rfl⟩) (fun t ht _ => hQ t ht) hS'.2.2 hd hlocks
  · exact hd.elim
