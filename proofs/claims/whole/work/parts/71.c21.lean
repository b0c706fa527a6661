/-! judges: calls by super, and by the object's own class -/
def aKU (k x : aM) (C : String) (n : Nat) : Prop := aKc k n ∧ Cond.instanceMethod k.1 ∈ lw_tbl ∧ Cond.selects C x.1 k.1 ∈ lw_tbl
theorem vdX0 : aKU kX0_verdict kX1_verdict RX0 2 := ⟨⟨by decide +kernel, by decide +kernel, by decide +kernel, by decide, by decide +kernel⟩, by decide +kernel, by decide +kernel⟩
theorem vdX2 : aKU kX2_verdict kX1_verdict RX2 2 := ⟨⟨by decide +kernel, by decide +kernel, by decide +kernel, by decide, by decide +kernel⟩, by decide +kernel, by decide +kernel⟩
theorem vdX7 : aKU kX7_verdict kX1_verdict RX7 2 := ⟨⟨by decide +kernel, by decide +kernel, by decide +kernel, by decide, by decide +kernel⟩, by decide +kernel, by decide +kernel⟩
theorem vdX8 : aKU kX8_verdict kX1_verdict RX8 2 := ⟨⟨by decide +kernel, by decide +kernel, by decide +kernel, by decide, by decide +kernel⟩, by decide +kernel, by decide +kernel⟩
theorem vdX9 : aKU kX9_verdict kX1_verdict RX9 2 := ⟨⟨by decide +kernel, by decide +kernel, by decide +kernel, by decide, by decide +kernel⟩, by decide +kernel, by decide +kernel⟩
section AU
variable {x : aX} {d : Nat} {cc : ByteArray} {own nm : String} {ret : Option FieldType} {mc ms : Nat} {post : aPost} {cs ss n pc : Nat} {h : AH} {lv : List (Option Value)} {st : List Value}
theorem A_callSU (X : aOk x d cc own nm ret mc ms post) {mc2 ms2 d2 idx : Nat} {kM : aM} {post2 : aPost} {na : Nat} {As : List Value} {r ci : Nat} {fs : List Value} {q : vw_C} (hc : aCt x.1 d2 kM mc2 ms2 (.ref r :: As) n h post2) (hh : h r = some (aOb ci fs)) (hci : vwCl[ci]? = some q) (kc : aKc kM na) (hin : Cond.instanceMethod kM.1 ∈ lw_tbl) (hsm : Cond.sameMethod kM.1.cls kM.1.cls kM.1.name kM.1.desc ∈ lw_tbl) (hsu : Cond.superclass own kM.1.cls ∈ lw_tbl) (hni : kM.1.name ≠ "<init>") (hna : As.length = na) (hl : Cond.methodLink own idx kM.1 ∈ lw_tbl) (hd : decode cc pc = .ok (.invokespecial idx, 3)) (kk : ∀ (v : Option Value) (n' : Nat) (h' : AH), post2 v n' h' → AW x (cs + mc2) (ss + ms2) n' h' (pc + 3) lv (v.toList ++ st)) (hdd : d2 + 1 ≤ d := by omega) (hcs : cs + mc2 ≤ mc ∧ ss + ms2 ≤ ms := by decide) (hsum : (st.map fun v => v.category).sum ≤ 8 := by exact Nat.le_of_ble_eq_true rfl) : AW x cs ss n h pc lv (As.reverse ++ .ref r :: st) := by
  obtain ⟨p, e, R, s, args, below, meth, c, Q, hw, hx, hb, hml, hown, hts, hK, hH0, hscr, hnm, hroom, hret⟩ := X
  intro H locs ls hR hS hL
  obtain ⟨hcs1, hcs2⟩ := hcs
  have hN := aN_of hts
  have hG := aGood kc
  have hPu : ∀ U : State, U.heap = H → s.WarmedH U.vm → va_Pc (.ref r :: As) (fun U => aRep x.1 n h U.heap ∧ va_K x.1.2.1 vwCl (aTys x.1) U ∧ aN U) ((.ref r :: As)).toArray U := fun U hU hW => ⟨rfl, by rw [hU]; exact hR, va_K.moved hW.alike hK, hN.warm hW⟩
  have hna : As.length = na := hna
  refine aCall_end (mc2 := mc2) (ms2 := ms2) (rest := st) hw hS hL (va_runSU (n := na) (As := As) (rest := st) (hK.1 ci q hci).2 ⟨hx, hb, hml, hown, hts⟩ hc ⟨⟨rfl, rfl, by show d2 + 1 ≤ R.frames; omega, by show 8 + (kM.2.2.1 + 11) + 40 * d2 ≤ R.locals; have := kc.2.2.2.1; omega, pay_in hts hG, List.mem_cons_self⟩, hts _ (gn_of hl rfl), hts _ (gn_of hsm rfl), hts _ (gn_of hsu rfl), hts _ (gn_of hin rfl), hts _ (gn_of kc.2.1 rfl), hts _ (hG _ List.mem_cons_self).1, hni, fun sig h => by have h2 := kc.2.2.1.2.2; rw [h] at h2; exact (Option.some.inj h2).symm⟩ ⟨aBlind, va_recv (q0 := 0) hK (hR.at hh) hci rfl, hPu⟩ rfl hna (hL.2.1) rfl (lv_room hsum) hd ⟨by omega, by omega⟩) kk
theorem A_callU (X : aOk x d cc own nm ret mc ms post) {mc2 ms2 d2 idx : Nat} {kM kX : aM} {post2 : aPost} {na : Nat} {As : List Value} {r ci : Nat} {fs : List Value} {q : vw_C} (hc : aCt x.1 d2 kM mc2 ms2 (.ref r :: As) n h post2) (hh : h r = some (aOb ci fs)) (hci : vwCl[ci]? = some q) (kc : aKU kM kX q.1 na) (kx : aKc kX na) (hdesc : kX.1.desc = kM.1.desc) (hix : Cond.instanceMethod kX.1 ∈ lw_tbl) (hsm : Cond.sameMethod kX.1.cls kX.1.cls kX.1.name kX.1.desc ∈ lw_tbl) (hna : As.length = na) (hl : Cond.methodLink own idx kX.1 ∈ lw_tbl) (hd : decode cc pc = .ok (.invokevirtual idx, 3)) (kk : ∀ (v : Option Value) (n' : Nat) (h' : AH), post2 v n' h' → AW x (cs + mc2) (ss + ms2) n' h' (pc + 3) lv (v.toList ++ st)) (hdd : d2 + 1 ≤ d := by omega) (hcs : cs + mc2 ≤ mc ∧ ss + ms2 ≤ ms := by decide) (hsum : (st.map fun v => v.category).sum ≤ 8 := by exact Nat.le_of_ble_eq_true rfl) : AW x cs ss n h pc lv (As.reverse ++ .ref r :: st) := by
  obtain ⟨p, e, R, s, args, below, meth, c, Q, hw, hx, hb, hml, hown, hts, hK, hH0, hscr, hnm, hroom, hret⟩ := X
  intro H locs ls hR hS hL
  obtain ⟨hcs1, hcs2⟩ := hcs
  have hN := aN_of hts
  have hG := aGood kc.1
  have hPu : ∀ U : State, U.heap = H → s.WarmedH U.vm → va_Pc (.ref r :: As) (fun U => aRep x.1 n h U.heap ∧ va_K x.1.2.1 vwCl (aTys x.1) U ∧ aN U) ((.ref r :: As)).toArray U := fun U hU hW => ⟨rfl, by rw [hU]; exact hR, va_K.moved hW.alike hK, hN.warm hW⟩
  have hna : As.length = na := hna
  have hcx := hts _ ((aGood kx) _ List.mem_cons_self).1
  refine aCall_end (mc2 := mc2) (ms2 := ms2) (rest := st) hw hS hL (va_runU (n := na) (owner := kX.1.cls) (As := As) (rest := st) ⟨hx, hb, hml, hown, hts⟩ hc ⟨⟨rfl, rfl, by show d2 + 1 ≤ R.frames; omega, by show 8 + (kM.2.2.1 + 11) + 40 * d2 ≤ R.locals; have := kc.1.2.2.2.1; omega, pay_in hts hG, List.mem_cons_self⟩, hts _ (hG _ List.mem_cons_self).1, hts _ (gn_of kc.1.2.1 rfl), ⟨kx.2.2.1.1, kx.2.2.1.2.1⟩, fun sig h => by have h2 := kx.2.2.1.2.2; rw [h] at h2; exact (Option.some.inj h2).symm, hts _ (gn_of hl rfl), hts _ (gn_of hsm rfl), va_Decl.of (hts _ (gn_of hix rfl)) hcx, hts _ (gn_of kc.2.2 rfl), hts _ (gn_of kc.2.1 rfl)⟩ ⟨aBlind, va_recv (q0 := 0) hK (hR.at hh) hci rfl, hPu⟩ rfl hna (hL.2.1) rfl (lv_room hsum) hd ⟨by omega, by omega⟩) kk
end AU
