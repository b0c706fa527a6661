/-! the JDK's own: max, min, arraycopy, bitCount -/
def cpyI (f g : Int → Int) (sp dp m : Int) : Int → Int := fun k => if dp ≤ k ∧ k < dp + m then f (sp + (k - dp)) else g k
theorem mxW : Cond.static Lib.Math.max.name ∈ lw_tbl ∧ Cond.initialized "java/lang/Math" ∈ lw_tbl ∧ Cond.code Lib.Math.max.name Lib.Math.max.code 2 (some .int) ∈ lw_tbl := by decide +kernel
theorem mnW : Cond.static Lib.Math.min.name ∈ lw_tbl ∧ Cond.code Lib.Math.min.name Lib.Math.min.code 2 (some .int) ∈ lw_tbl := by decide +kernel
theorem cpW : Cond.native arraycopyName ∈ lw_tbl ∧ Cond.static arraycopyName ∈ lw_tbl ∧ Cond.initialized "java/lang/System" ∈ lw_tbl := by decide +kernel
section JD
variable {x : aX} {d : Nat} {cc : ByteArray} {own nm : String} {ret : Option FieldType} {mc ms : Nat} {post : aPost} {cs ss n pc : Nat} {h : AH} {lv : List (Option Value)} {st : List Value}
theorem A_mmax (X : aOk x (d + 1) cc own nm ret mc ms post) {a b : Int} {idx : Nat} (ha : inR a) (hb0 : inR b) (hl : Cond.methodLink own idx Lib.Math.max.name ∈ lw_tbl) (hd : decode cc pc = .ok (.invokestatic idx, 3)) (k : AW x cs ss n h (pc + 3) lv (aI (max a b) :: st)) (hcs : cs ≤ mc ∧ ss ≤ ms := by decide) (hsum : (st.map fun v => v.category).sum ≤ 8 := by exact Nat.le_of_ble_eq_true rfl) : AW x cs ss n h pc lv (aI b :: aI a :: st) := by
  obtain ⟨p, e, R, s, args, below, meth, c, Q, hw, hx, hb, hml, hown, hts, hK, hH0, hscr, hnm, hroom, hret⟩ := X
  intro H locs ls hR hS hL
  refine (hw H locs cs ss _).mpr (va_mmax hx hb (hml.trans hL.2.1.symm) hown (hts _ (gn_of hl rfl)) (hts _ (gn_of mxW.1 rfl)) (hts _ (gn_of mxW.2.1 rfl)) (hts _ (gn_of mxW.2.2 rfl)) (by omega) (by omega) (by omega) (by omega) hd ((hw H locs cs ss _).mp ?_))
  have e1 : (if Int32.ofInt a < Int32.ofInt b then Int32.ofInt b else Int32.ofInt a) = Int32.ofInt (max a b) := by
    by_cases q : a < b
    · rw [if_pos ((aI_lt ha hb0).mpr q)]; congr 1; omega
    · rw [if_neg (fun z => q ((aI_lt ha hb0).mp z))]; congr 1; omega
  rw [e1]
  exact k H locs ls hR hS hL
theorem A_mmin (X : aOk x (d + 1) cc own nm ret mc ms post) {a b : Int} {idx : Nat} (ha : inR a) (hb0 : inR b) (hl : Cond.methodLink own idx Lib.Math.min.name ∈ lw_tbl) (hd : decode cc pc = .ok (.invokestatic idx, 3)) (k : AW x cs ss n h (pc + 3) lv (aI (min a b) :: st)) (hcs : cs ≤ mc ∧ ss ≤ ms := by decide) (hsum : (st.map fun v => v.category).sum ≤ 8 := by exact Nat.le_of_ble_eq_true rfl) : AW x cs ss n h pc lv (aI b :: aI a :: st) := by
  obtain ⟨p, e, R, s, args, below, meth, c, Q, hw, hx, hb, hml, hown, hts, hK, hH0, hscr, hnm, hroom, hret⟩ := X
  intro H locs ls hR hS hL
  refine (hw H locs cs ss _).mpr (va_mmin hx hb (hml.trans hL.2.1.symm) hown (hts _ (gn_of hl rfl)) (hts _ (gn_of mnW.1 rfl)) (hts _ (gn_of mxW.2.1 rfl)) (hts _ (gn_of mnW.2 rfl)) (by omega) (by omega) (by omega) (by omega) hd ((hw H locs cs ss _).mp ?_))
  have e1 : (if Int32.ofInt b < Int32.ofInt a then Int32.ofInt b else Int32.ofInt a) = Int32.ofInt (min a b) := by
    by_cases q : b < a
    · rw [if_pos ((aI_lt hb0 ha).mpr q)]; congr 1; omega
    · rw [if_neg (fun z => q ((aI_lt hb0 ha).mp z))]; congr 1; omega
  rw [e1]
  exact k H locs ls hR hS hL
theorem A_copy (X : aOk x (d + 1) cc own nm ret mc ms post) {a0 a N0 N1 idx : Nat} {f g : Int → Int} {sp dp m : Int} (h0 : h a0 = some (aIa x.1 N0 f)) (h1 : h a = some (aIa x.1 N1 g)) (hbd : 0 ≤ sp ∧ 0 ≤ dp ∧ 0 ≤ m ∧ sp + m ≤ (N0 : Int) ∧ dp + m ≤ (N1 : Int) ∧ (N0 : Int) < 2147483648 ∧ (N1 : Int) < 2147483648) (hl : Cond.methodLink own idx arraycopyName ∈ lw_tbl) (hd : decode cc pc = .ok (.invokestatic idx, 3)) (k : AW x cs ss n (aup h a (aIa x.1 N1 (cpyI f g sp dp m))) (pc + 3) lv st) (hsum : (st.map fun v => v.category).sum ≤ 8 := by exact Nat.le_of_ble_eq_true rfl) : AW x cs ss n h pc lv (aI m :: aI dp :: .ref a :: aI sp :: .ref a0 :: st) := by
  obtain ⟨p, e, R, s, args, below, meth, c, Q, hw, hx, hb, hml, hown, hts, hK, hH0, hscr, hnm, hroom, hret⟩ := X
  intro H locs ls hR hS hL
  refine (hw H locs cs ss _).mpr ?_
  intro T hT XT
  obtain ⟨i, rfl⟩ := Int.eq_ofNat_of_zero_le hbd.1
  obtain ⟨j, rfl⟩ := Int.eq_ofNat_of_zero_le hbd.2.1
  obtain ⟨w, rfl⟩ := Int.eq_ofNat_of_zero_le hbd.2.2.1
  have ni : ∀ q : Nat, q < 2147483648 → ¬ Int32.ofInt (q : Int) < 0 := fun q hq => by rw [aI_0, aI_lt ⟨by omega, by omega⟩ in0]; omega
  have c0 : H[a0]? = some (vp_cell x.1.2.2.1.1 (N0, .inl (fun k => Int32.ofInt (f (k : Int))))) := (hR.2.2 a0 _ h0).2
  have c1 : H[a]? = some (vp_cell x.1.2.2.1.1 (N1, .inl (fun k => Int32.ofInt (g (k : Int))))) := (hR.2.2 a _ h1).2
  obtain ⟨-, k0, hk0, cm0, hkk0⟩ := (hK.2 0 _ rfl).1 N0 (fun j => .int (Int32.ofInt (f (j : Int))))
  obtain ⟨-, k1, hk1, cm1, hkk1⟩ := (hK.2 0 _ rfl).1 N1 (fun j => .int (Int32.ofInt (g (j : Int))))
  have hnf : nativeFrameWords "java/lang/System" "arraycopy" 5 + 11 ≤ 32 := by decide +kernel
  obtain ⟨vm', X', step⟩ := XT.arraycopy hx hown (hts _ (gn_of hl rfl)) (hts _ (gn_of cpW.1 rfl)) (hts _ (gn_of cpW.2.1 rfl)) (hts _ (gn_of cpW.2.2 rfl)) (src := a0) (dst := a) (cs := vp_cell x.1.2.2.1.1 (N0, .inl (fun k => Int32.ofInt (f (k : Int))))) (cd := vp_cell x.1.2.2.1.1 (N1, .inl (fun k => Int32.ofInt (g (k : Int))))) (srcPos := Int32.ofInt (i : Int)) (destPos := Int32.ofInt (j : Int)) (n := Int32.ofInt (w : Int)) (by rw [hT]; exact c0) (by rw [hT]; exact c1)
    (fun _ h => by cases h) (fun _ h => by cases h) (fun h => by cases h) (fun h => by cases h) hk0 hk1 hkk0 hkk1 (by rfl) (ni i (by omega)) (ni j (by omega)) (ni w (by omega))
    (by rw [aT ⟨by omega, by omega⟩, aT ⟨by omega, by omega⟩]; show ¬ _ > ((arrV _ N0 _).slots.size : Int); rw [arrV_size]; omega)
    (by rw [aT ⟨by omega, by omega⟩, aT ⟨by omega, by omega⟩]; show ¬ _ > ((arrV _ N1 _).slots.size : Int); rw [arrV_size]; omega)
    (fun vm₁ _ q hq => by
      rw [aI_cl rfl (by omega)] at hq
      have e2 : (vp_cell x.1.2.2.1.1 (N0, .inl (fun k => Int32.ofInt (f (k : Int))))).slots.getD ((Int32.ofInt (i : Int)).toNatClampNeg + q) .null = .int (Int32.ofInt (f ((i + q : Nat) : Int))) := by
        rw [aI_cl rfl (by omega)]
        show (arrV _ N0 _).slots.getD _ _ = _
        rw [Array.getD_eq_getD_getElem?, arrV_read _ _ (by omega)]
        rfl
      rw [e2]
      exact ⟨rfl, trivial⟩)
    (g := F0 x.2.2.1 pc ls (aI (w : Int) :: aI (j : Int) :: .ref a :: aI (i : Int) :: .ref a0 :: st)) rfl (hL.2.1.trans hml.symm) (rest := st) rfl (by rw [hb]; exact hd) (by omega) (by show 2 * 0 + _ + _ ≤ _; omega)
  have e1 : copied (vp_cell x.1.2.2.1.1 (N0, .inl (fun k => Int32.ofInt (f (k : Int))))) (vp_cell x.1.2.2.1.1 (N1, .inl (fun k => Int32.ofInt (g (k : Int))))) (Int32.ofInt (i : Int)) (Int32.ofInt (j : Int)) (Int32.ofInt (w : Int)) = vp_cell x.1.2.2.1.1 (N1, .inl (fun k => Int32.ofInt (cpyI f g (i : Int) (j : Int) (w : Int) (k : Int)))) := by
    have e3 := va_copied (fun z => .int z) x.1.2.2.1.1 x.1.2.2.1.1 (n0 := N0) (n1 := N1) (sp := i) (dp := j) (n := w) (fun k => Int32.ofInt (f (k : Int))) (fun k => Int32.ofInt (g (k : Int))) (by omega)
    unfold copied
    rw [aI_cl rfl (by omega), aI_cl rfl (by omega), aI_cl rfl (by omega)]
    refine Eq.trans e3 ?_
    rw [vp_cell_i]
    congr 1
    funext q
    unfold va_cpy cpyI
    by_cases hq : j ≤ q ∧ q < j + w
    · rw [if_pos hq, if_pos (by omega)]
      show Value.int (Int32.ofInt (f ((i + (q - j) : Nat) : Int))) = _
      rw [show ((i + (q - j) : Nat) : Int) = (i : Int) + ((q : Int) - (j : Int)) by omega]
    · rw [if_neg hq, if_neg (by omega)]
  rw [e1] at X' step
  have hlt : a < H.size := (Array.getElem?_eq_some_iff.mp c1).1
  have hheap : ((T.setVm vm').setCell a (vp_cell x.1.2.2.1.1 (N1, .inl (fun k => Int32.ofInt (cpyI f g (i : Int) (j : Int) (w : Int) (k : Int)))))).heap = H.setIfInBounds a (vp_cell x.1.2.2.1.1 (N1, .inl (fun k => Int32.ofInt (cpyI f g (i : Int) (j : Int) (w : Int) (k : Int))))) := by rw [← hT]; rfl
  have oq : ∀ q : Nat, q ≠ a → (H.setIfInBounds a (vp_cell x.1.2.2.1.1 (N1, .inl (fun k => Int32.ofInt (cpyI f g (i : Int) (j : Int) (w : Int) (k : Int))))))[q]? = H[q]? := fun q hq => by simp [Array.getElem?_setIfInBounds, Ne.symm hq]
  have hab := (hR.2.2 a _ h1).1
  have kw := (hw _ _ cs ss _).mp (k _ (locs ++ (((vp_cell x.1.2.2.1.1 (N0, .inl (fun k => Int32.ofInt (f (k : Int))))).stretch (Int32.ofInt (i : Int)).toNatClampNeg (Int32.ofInt (w : Int)).toNatClampNeg).zipIdx.map fun q => ⟨a, (Int32.ofInt (j : Int)).toNatClampNeg + q.2⟩)) ls (hR.up h1 (by simp) (show (H.setIfInBounds a _)[a]? = some _ by simp [Array.getElem?_setIfInBounds, hlt]) oq) ⟨by simp; exact hS.1, fun q g1 g2 => by
      rw [oq q (fun e => g2 (by rw [e]; exact hab))]
      exact hS.2.1 q g1 g2, fun q hq => by
      rcases List.mem_append.mp hq with h | h
      · exact hS.2.2 q h
      · obtain ⟨z, -, hz⟩ := List.mem_map.mp h
        rw [← hz]
        exact hab⟩ hL)
  obtain ⟨t, a1, b1⟩ := kw _ hheap X'
  exact ⟨t, step t a1, b1⟩
end JD
theorem bcF : ∀ s : Nat, s < 64 → (fun (z : Int32) =>
    let a := z - ((z.toUInt32 >>> ((Int32.ofInt 1).toUInt32 &&& Int32.toUInt32 31)).toInt32 &&& (1431655765 : Int32))
    let b := (a &&& (858993459 : Int32)) + ((a.toUInt32 >>> ((Int32.ofInt 2).toUInt32 &&& Int32.toUInt32 31)).toInt32 &&& (858993459 : Int32))
    let c := (b + (b.toUInt32 >>> ((Int32.ofInt 4).toUInt32 &&& Int32.toUInt32 31)).toInt32) &&& (252645135 : Int32)
    let e := c + (c.toUInt32 >>> ((Int32.ofInt 8).toUInt32 &&& Int32.toUInt32 31)).toInt32
    let g := e + (e.toUInt32 >>> ((Int32.ofInt 16).toUInt32 &&& Int32.toUInt32 31)).toInt32
    g &&& Int32.ofInt 63) (Int32.ofInt (s : Int)) = Int32.ofInt (pct s : Nat) := by decide +kernel
set_option maxRecDepth 100000 in
theorem j_bitCount {G : aG} {d n : Nat} {h : AH} {z : Int} (s : Nat) (hz : z = (s : Int)) (h6 : s < 64) : aD G d kJ6_bitCount_0f7a4 [aI z] n h (some (aI (pct s : Nat))) := by
  refine aCt_of (lv := [some (aI z)]) knJ6_bitCount_0f7a4.1 rfl rfl (Nat.le_of_ble_eq_true rfl) (fun x hG hsc X => ?_)
  subst hG
  subst hz
  have e := bcF s h6
  dsimp only at e
  refine A_iload_nr X dJ6_bitCount_0f7a4_0 rfl rfl ?_
  refine A_iload_nr X dJ6_bitCount_0f7a4_1 rfl rfl ?_
  refine A_iconst X dJ6_bitCount_0f7a4_2 ?_
  refine A_iushrr X dJ6_bitCount_0f7a4_3 ?_
  refine A_ldcw X kcJ_265 dJ6_bitCount_0f7a4_4 ?_
  refine A_iandr X dJ6_bitCount_0f7a4_7 ?_
  refine A_isubr X dJ6_bitCount_0f7a4_8 ?_
  refine A_is0 X dJ6_bitCount_0f7a4_9 ?_
  refine A_iload_nr X dJ6_bitCount_0f7a4_10 rfl rfl ?_
  refine A_ldcw X kcJ_266 dJ6_bitCount_0f7a4_11 ?_
  refine A_iandr X dJ6_bitCount_0f7a4_14 ?_
  refine A_iload_nr X dJ6_bitCount_0f7a4_15 rfl rfl ?_
  refine A_iconst X dJ6_bitCount_0f7a4_16 ?_
  refine A_iushrr X dJ6_bitCount_0f7a4_17 ?_
  refine A_ldcw X kcJ_266 dJ6_bitCount_0f7a4_18 ?_
  refine A_iandr X dJ6_bitCount_0f7a4_21 ?_
  refine A_iaddr X dJ6_bitCount_0f7a4_22 ?_
  refine A_is0 X dJ6_bitCount_0f7a4_23 ?_
  refine A_iload_nr X dJ6_bitCount_0f7a4_24 rfl rfl ?_
  refine A_iload_nr X dJ6_bitCount_0f7a4_25 rfl rfl ?_
  refine A_iconst X dJ6_bitCount_0f7a4_26 ?_
  refine A_iushrr X dJ6_bitCount_0f7a4_27 ?_
  refine A_iaddr X dJ6_bitCount_0f7a4_28 ?_
  refine A_ldcw X kcJ_267 dJ6_bitCount_0f7a4_29 ?_
  refine A_iandr X dJ6_bitCount_0f7a4_32 ?_
  refine A_is0 X dJ6_bitCount_0f7a4_33 ?_
  refine A_iload_nr X dJ6_bitCount_0f7a4_34 rfl rfl ?_
  refine A_iload_nr X dJ6_bitCount_0f7a4_35 rfl rfl ?_
  refine A_bipush X dJ6_bitCount_0f7a4_36 ?_
  refine A_iushrr X dJ6_bitCount_0f7a4_38 ?_
  refine A_iaddr X dJ6_bitCount_0f7a4_39 ?_
  refine A_is0 X dJ6_bitCount_0f7a4_40 ?_
  refine A_iload_nr X dJ6_bitCount_0f7a4_41 rfl rfl ?_
  refine A_iload_nr X dJ6_bitCount_0f7a4_42 rfl rfl ?_
  refine A_bipush X dJ6_bitCount_0f7a4_43 ?_
  refine A_iushrr X dJ6_bitCount_0f7a4_45 ?_
  refine A_iaddr X dJ6_bitCount_0f7a4_46 ?_
  refine A_is0 X dJ6_bitCount_0f7a4_47 ?_
  refine A_iload_nr X dJ6_bitCount_0f7a4_48 rfl rfl ?_
  refine A_bipush X dJ6_bitCount_0f7a4_49 ?_
  refine A_iandr X dJ6_bitCount_0f7a4_51 ?_
  rw [e]
  exact A_ret X dJ6_bitCount_0f7a4_52 rfl ⟨rfl, rfl, rfl⟩
