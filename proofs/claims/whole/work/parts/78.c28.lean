/-! words of makings; the constructor of the class -/
theorem clwX10_9 : Cond.classLink RX10 9 RX5 ∈ lw_tbl := List.mem_of_getElem? (i := 75) (by decide +kernel)
theorem clwX10_16 : Cond.classLink RX10 16 RX6 ∈ lw_tbl := List.mem_of_getElem? (i := 108) (by decide +kernel)
theorem clwX10_26 : Cond.classLink RX10 26 RX3 ∈ lw_tbl := List.mem_of_getElem? (i := 153) (by decide +kernel)
theorem clwX10_39 : Cond.classLink RX10 39 RX4 ∈ lw_tbl := List.mem_of_getElem? (i := 173) (by decide +kernel)
theorem clwX10_46 : Cond.classLink RX10 46 RX1 ∈ lw_tbl := List.mem_of_getElem? (i := 200) (by decide +kernel)
theorem clwX10_66 : Cond.classLink RX10 66 RX0 ∈ lw_tbl := List.mem_of_getElem? (i := 208) (by decide +kernel)
theorem clwX10_69 : Cond.classLink RX10 69 RX9 ∈ lw_tbl := List.mem_of_getElem? (i := 215) (by decide +kernel)
theorem clwX10_72 : Cond.classLink RX10 72 RX2 ∈ lw_tbl := List.mem_of_getElem? (i := 222) (by decide +kernel)
theorem clwX10_75 : Cond.classLink RX10 75 RX8 ∈ lw_tbl := List.mem_of_getElem? (i := 229) (by decide +kernel)
theorem clwX10_78 : Cond.classLink RX10 78 RX7 ∈ lw_tbl := List.mem_of_getElem? (i := 236) (by decide +kernel)
theorem clwL_7 : Cond.classLink RL 7 RX10 ∈ lw_tbl := List.mem_of_getElem? (i := 67) (by decide +kernel)
theorem clwL_10 : Cond.classLink RL 10 RX11 ∈ lw_tbl := List.mem_of_getElem? (i := 734) (by decide +kernel)
theorem inw0 : Cond.instantiable RX0 0 ∈ lw_tbl := List.mem_of_getElem? (i := 209) (by decide +kernel)
theorem itw0 : Cond.initialized RX0 ∈ lw_tbl := List.mem_of_getElem? (i := 58) (by decide +kernel)
theorem inw1 : Cond.instantiable RX1 0 ∈ lw_tbl := List.mem_of_getElem? (i := 202) (by decide +kernel)
theorem itw1 : Cond.initialized RX1 ∈ lw_tbl := List.mem_of_getElem? (i := 57) (by decide +kernel)
theorem inw2 : Cond.instantiable RX2 0 ∈ lw_tbl := List.mem_of_getElem? (i := 223) (by decide +kernel)
theorem itw2 : Cond.initialized RX2 ∈ lw_tbl := List.mem_of_getElem? (i := 60) (by decide +kernel)
theorem inw3 : Cond.instantiable RX3 4 ∈ lw_tbl := List.mem_of_getElem? (i := 154) (by decide +kernel)
theorem itw3 : Cond.initialized RX3 ∈ lw_tbl := List.mem_of_getElem? (i := 55) (by decide +kernel)
theorem inw4 : Cond.instantiable RX4 6 ∈ lw_tbl := List.mem_of_getElem? (i := 174) (by decide +kernel)
theorem itw4 : Cond.initialized RX4 ∈ lw_tbl := List.mem_of_getElem? (i := 56) (by decide +kernel)
theorem inw5 : Cond.instantiable RX5 8 ∈ lw_tbl := List.mem_of_getElem? (i := 76) (by decide +kernel)
theorem itw5 : Cond.initialized RX5 ∈ lw_tbl := List.mem_of_getElem? (i := 53) (by decide +kernel)
theorem inw6 : Cond.instantiable RX6 8 ∈ lw_tbl := List.mem_of_getElem? (i := 109) (by decide +kernel)
theorem itw6 : Cond.initialized RX6 ∈ lw_tbl := List.mem_of_getElem? (i := 54) (by decide +kernel)
theorem inw7 : Cond.instantiable RX7 0 ∈ lw_tbl := List.mem_of_getElem? (i := 237) (by decide +kernel)
theorem itw7 : Cond.initialized RX7 ∈ lw_tbl := List.mem_of_getElem? (i := 62) (by decide +kernel)
theorem inw8 : Cond.instantiable RX8 0 ∈ lw_tbl := List.mem_of_getElem? (i := 230) (by decide +kernel)
theorem itw8 : Cond.initialized RX8 ∈ lw_tbl := List.mem_of_getElem? (i := 61) (by decide +kernel)
theorem inw9 : Cond.instantiable RX9 0 ∈ lw_tbl := List.mem_of_getElem? (i := 216) (by decide +kernel)
theorem itw9 : Cond.initialized RX9 ∈ lw_tbl := List.mem_of_getElem? (i := 59) (by decide +kernel)
theorem inw10 : Cond.instantiable RX10 15 ∈ lw_tbl := List.mem_of_getElem? (i := 68) (by decide +kernel)
theorem itw10 : Cond.initialized RX10 ∈ lw_tbl := List.mem_of_getElem? (i := 52) (by decide +kernel)
theorem inw11 : Cond.instantiable RX11 20 ∈ lw_tbl := List.mem_of_getElem? (i := 735) (by decide +kernel)
theorem itw11 : Cond.initialized RX11 ∈ lw_tbl := List.mem_of_getElem? (i := 63) (by decide +kernel)
theorem aow : Cond.arrayOver (.object RX1) ∈ lw_tbl := List.mem_of_getElem? (i := 201) (by decide +kernel)
theorem azw : Cond.arrayClass .boolean ∈ lw_tbl := List.mem_of_getElem? (i := 808) (by decide +kernel)
theorem caw0 : Cond.castable RX0 RX1 ∈ lw_tbl := List.mem_of_getElem? (i := 1069) (by decide +kernel)
theorem caw9 : Cond.castable RX9 RX1 ∈ lw_tbl := List.mem_of_getElem? (i := 1070) (by decide +kernel)
theorem caw2 : Cond.castable RX2 RX1 ∈ lw_tbl := List.mem_of_getElem? (i := 1071) (by decide +kernel)
theorem caw8 : Cond.castable RX8 RX1 ∈ lw_tbl := List.mem_of_getElem? (i := 1072) (by decide +kernel)
theorem caw7 : Cond.castable RX7 RX1 ∈ lw_tbl := List.mem_of_getElem? (i := 1073) (by decide +kernel)
theorem dfw0 : ∀ j, j < 0 → defaultValue (tyX0 j) = vp_V ([] : List Value) j := (fun j hj => absurd hj (Nat.not_lt_zero j))
theorem dfw1 : ∀ j, j < 0 → defaultValue (tyX1 j) = vp_V ([] : List Value) j := (fun j hj => absurd hj (Nat.not_lt_zero j))
theorem dfw2 : ∀ j, j < 0 → defaultValue (tyX2 j) = vp_V ([] : List Value) j := (fun j hj => absurd hj (Nat.not_lt_zero j))
theorem dfw3 : ∀ j, j < 4 → defaultValue (tyX3 j) = vp_V ([.null, .null, aI 0, aI 0] : List Value) j := (fun j hj => by rcases (show j = 0 ∨ j = 1 ∨ j = 2 ∨ j = 3 by omega) with rfl | rfl | rfl | rfl <;> rfl)
theorem dfw4 : ∀ j, j < 6 → defaultValue (tyX4 j) = vp_V ([.null, .null, .null, aI 0, aI 0, aI 0] : List Value) j := (fun j hj => by rcases (show j = 0 ∨ j = 1 ∨ j = 2 ∨ j = 3 ∨ j = 4 ∨ j = 5 by omega) with rfl | rfl | rfl | rfl | rfl | rfl <;> rfl)
theorem dfw5 : ∀ j, j < 8 → defaultValue (tyX5 j) = vp_V ([.null, aI 0, aI 0, aI 0, aI 0, aI 0, aI 0, aI 0] : List Value) j := (fun j hj => by rcases (show j = 0 ∨ j = 1 ∨ j = 2 ∨ j = 3 ∨ j = 4 ∨ j = 5 ∨ j = 6 ∨ j = 7 by omega) with rfl | rfl | rfl | rfl | rfl | rfl | rfl | rfl <;> rfl)
theorem dfw6 : ∀ j, j < 8 → defaultValue (tyX6 j) = vp_V ([aI 0, aI 0, aI 0, aI 0, .null, .null, .null, .null] : List Value) j := (fun j hj => by rcases (show j = 0 ∨ j = 1 ∨ j = 2 ∨ j = 3 ∨ j = 4 ∨ j = 5 ∨ j = 6 ∨ j = 7 by omega) with rfl | rfl | rfl | rfl | rfl | rfl | rfl | rfl <;> rfl)
theorem dfw7 : ∀ j, j < 0 → defaultValue (tyX7 j) = vp_V ([] : List Value) j := (fun j hj => absurd hj (Nat.not_lt_zero j))
theorem dfw8 : ∀ j, j < 0 → defaultValue (tyX8 j) = vp_V ([] : List Value) j := (fun j hj => absurd hj (Nat.not_lt_zero j))
theorem dfw9 : ∀ j, j < 0 → defaultValue (tyX9 j) = vp_V ([] : List Value) j := (fun j hj => absurd hj (Nat.not_lt_zero j))
theorem dfw10 : ∀ j, j < 15 → defaultValue (tyX10 j) = vp_V ([.null, .null, .null, .null, .null, .null, .null, .null, .null, aI 0, .null, .null, .null, aI 0, aL 0] : List Value) j := (fun j hj => by rcases (show j = 0 ∨ j = 1 ∨ j = 2 ∨ j = 3 ∨ j = 4 ∨ j = 5 ∨ j = 6 ∨ j = 7 ∨ j = 8 ∨ j = 9 ∨ j = 10 ∨ j = 11 ∨ j = 12 ∨ j = 13 ∨ j = 14 by omega) with rfl | rfl | rfl | rfl | rfl | rfl | rfl | rfl | rfl | rfl | rfl | rfl | rfl | rfl | rfl <;> rfl)
theorem dfw11 : ∀ j, j < 20 → defaultValue (tyX11 j) = vp_V ([.null, .null, .null, .null, aI 0, .null, .null, .null, aI 0, .null, aI 0, aL 0, aI 0, aI 0, aI 0, .null, .null, .null, .null, .null] : List Value) j := (fun j hj => by rcases (show j = 0 ∨ j = 1 ∨ j = 2 ∨ j = 3 ∨ j = 4 ∨ j = 5 ∨ j = 6 ∨ j = 7 ∨ j = 8 ∨ j = 9 ∨ j = 10 ∨ j = 11 ∨ j = 12 ∨ j = 13 ∨ j = 14 ∨ j = 15 ∨ j = 16 ∨ j = 17 ∨ j = 18 ∨ j = 19 by omega) with rfl | rfl | rfl | rfl | rfl | rfl | rfl | rfl | rfl | rfl | rfl | rfl | rfl | rfl | rfl | rfl | rfl | rfl | rfl | rfl <;> rfl)
abbrev z0F : Int → Int := fun _ => 0
set_option maxRecDepth 100000 in
set_option maxHeartbeats 1000000 in
theorem i_shoes {G : aG} {d n : Nat} {h : AH} {r : Nat} (hr : n = r + 1) (h_this : h r = some (aOb 10 [.null, .null, .null, .null, .null, .null, .null, .null, .null, aI 0, .null, .null, .null, aI 0, aL 0])) : aCt G (d + 4) kX10_init 36 970 [.ref r] n h (fun v' n' h' => v' = none ∧ n' = r + 37 ∧ xW G r h' clF bgF z0F z0F z0F z0F z0F 0 0 0 0 ∧ ∀ q, q < r → h' q = h q) := by
  subst hr
  refine aCt_of (lv := [some (.ref r)]) knX10_init.1 rfl rfl (Nat.le_of_ble_eq_true rfl) (fun x hG hsc X => ?_)
  subst hG
  refine A_al0 X dX10_init_0 ?_
  refine A_objInit X mlX10_3 oiW.1 oiW.2.1 dX10_init_1 ?_
  refine A_al0 X dX10_init_4 ?_
  refine A_new (ci := 5) (fs := [.null, aI 0, aI 0, aI 0, aI 0, aI 0, aI 0, aI 0]) X rfl ui5 tyX5_ok clwX10_9 inw5 itw5 dfw5 dX10_init_5 ?_
  refine A_gen (fun h5 e5 k5 q5 => ?_)
  refine A_dup X dX10_init_8 ?_
  refine A_callIN (As := []) (st := [.ref (r + 1), .ref r]) X (i_reader (d := d) rfl e5) knX5_init rfl rfl mlX10_11 dX10_init_9 (fun v9 n9 h9 hp9 => ?_)
  obtain ⟨rfl, hn9, hA9, hq9⟩ := hp9
  have hn9 : n9 = r + 3 := by omega
  subst hn9
  have S9 : h9 r = some (aOb 10 [.null, .null, .null, .null, .null, .null, .null, .null, .null, aI 0, .null, .null, .null, aI 0, aL 0]) := (hq9 _ (by omega)).trans ((k5 _ (by omega)).trans h_this)
  refine A_putF X flX10_12 S9 dX10_init_12 ?_ (noN _ _ (by decide +kernel))
  refine A_gen (fun h12 e12 k12 q12 => ?_)
  have T12 : h12 r = some (aOb 10 [.ref (r + 1), .null, .null, .null, .null, .null, .null, .null, .null, aI 0, .null, .null, .null, aI 0, aL 0]) := e12
  have F12 : ∀ q, q ≠ r → q < r + 1 → h12 q = h q := fun q g1 g2 => (k12 q g1).trans ((hq9 q (by omega)).trans (k5 q (by omega)))
  refine A_al0 X dX10_init_15 ?_
  refine A_new (ci := 6) (fs := [aI 0, aI 0, aI 0, aI 0, .null, .null, .null, .null]) X rfl ui6 tyX6_ok clwX10_16 inw6 itw6 dfw6 dX10_init_16 ?_
  refine A_gen (fun h16 e16 k16 q16 => ?_)
  refine A_dup X dX10_init_19 ?_
  refine A_callI (As := []) (st := [.ref (r + 3), .ref r]) X (i_suit (d := d) rfl e16) knX6_init rfl rfl mlX10_18 dX10_init_20 (fun v20 n20 h20 hp20 => ?_)
  obtain ⟨rfl, hn20, hA20, hq20⟩ := hp20
  have hn20 : n20 = r + 8 := by omega
  subst hn20
  have S20 : h20 r = some (aOb 10 [.ref (r + 1), .null, .null, .null, .null, .null, .null, .null, .null, aI 0, .null, .null, .null, aI 0, aL 0]) := (hq20 _ (by omega)).trans ((k16 _ (by omega)).trans T12)
  refine A_putf X flX10_19 S20 dX10_init_23 ?_
  refine A_gen (fun h23 e23 k23 q23 => ?_)
  have T23 : h23 r = some (aOb 10 [.ref (r + 1), .ref (r + 3), .null, .null, .null, .null, .null, .null, .null, aI 0, .null, .null, .null, aI 0, aL 0]) := e23
  have F23 : ∀ q, q ≠ r → q < r + 3 → h23 q = h12 q := fun q g1 g2 => (k23 q g1).trans ((hq20 q (by omega)).trans (k16 q (by omega)))
  refine A_al0 X dX10_init_26 ?_
  refine A_new (ci := 6) (fs := [aI 0, aI 0, aI 0, aI 0, .null, .null, .null, .null]) X rfl ui6 tyX6_ok clwX10_16 inw6 itw6 dfw6 dX10_init_27 ?_
  refine A_gen (fun h27 e27 k27 q27 => ?_)
  refine A_dup X dX10_init_30 ?_
  refine A_callI (As := []) (st := [.ref (r + 8), .ref r]) X (i_suit (d := d) rfl e27) knX6_init rfl rfl mlX10_18 dX10_init_31 (fun v31 n31 h31 hp31 => ?_)
  obtain ⟨rfl, hn31, hA31, hq31⟩ := hp31
  have hn31 : n31 = r + 13 := by omega
  subst hn31
  have S31 : h31 r = some (aOb 10 [.ref (r + 1), .ref (r + 3), .null, .null, .null, .null, .null, .null, .null, aI 0, .null, .null, .null, aI 0, aL 0]) := (hq31 _ (by omega)).trans ((k27 _ (by omega)).trans T23)
  refine A_putf X flX10_23 S31 dX10_init_34 ?_
  refine A_gen (fun h34 e34 k34 q34 => ?_)
  have T34 : h34 r = some (aOb 10 [.ref (r + 1), .ref (r + 3), .ref (r + 8), .null, .null, .null, .null, .null, .null, aI 0, .null, .null, .null, aI 0, aL 0]) := e34
  have F34 : ∀ q, q ≠ r → q < r + 8 → h34 q = h23 q := fun q g1 g2 => (k34 q g1).trans ((hq31 q (by omega)).trans (k27 q (by omega)))
  refine A_al0 X dX10_init_37 ?_
  refine A_new (ci := 3) (fs := [.null, .null, aI 0, aI 0]) X rfl ui3 tyX3_ok clwX10_26 inw3 itw3 dfw3 dX10_init_38 ?_
  refine A_gen (fun h38 e38 k38 q38 => ?_)
  refine A_dup X dX10_init_41 ?_
  refine A_callIN (As := []) (st := [.ref (r + 13), .ref r]) X (i_now (d := d) rfl e38) knX3_init rfl rfl mlX10_28 dX10_init_42 (fun v42 n42 h42 hp42 => ?_)
  obtain ⟨rfl, hn42, hA42, hq42⟩ := hp42
  have hn42 : n42 = r + 16 := by omega
  subst hn42
  have S42 : h42 r = some (aOb 10 [.ref (r + 1), .ref (r + 3), .ref (r + 8), .null, .null, .null, .null, .null, .null, aI 0, .null, .null, .null, aI 0, aL 0]) := (hq42 _ (by omega)).trans ((k38 _ (by omega)).trans T34)
  refine A_putF X flX10_29 S42 dX10_init_45 ?_ (noN _ _ (by decide +kernel))
  refine A_gen (fun h45 e45 k45 q45 => ?_)
  have T45 : h45 r = some (aOb 10 [.ref (r + 1), .ref (r + 3), .ref (r + 8), .ref (r + 13), .null, .null, .null, .null, .null, aI 0, .null, .null, .null, aI 0, aL 0]) := e45
  have F45 : ∀ q, q ≠ r → q < r + 13 → h45 q = h34 q := fun q g1 g2 => (k45 q g1).trans ((hq42 q (by omega)).trans (k38 q (by omega)))
  refine A_al0 X dX10_init_48 ?_
  refine A_new (ci := 3) (fs := [.null, .null, aI 0, aI 0]) X rfl ui3 tyX3_ok clwX10_26 inw3 itw3 dfw3 dX10_init_49 ?_
  refine A_gen (fun h49 e49 k49 q49 => ?_)
  refine A_dup X dX10_init_52 ?_
  refine A_callIN (As := []) (st := [.ref (r + 16), .ref r]) X (i_now (d := d) rfl e49) knX3_init rfl rfl mlX10_28 dX10_init_53 (fun v53 n53 h53 hp53 => ?_)
  obtain ⟨rfl, hn53, hA53, hq53⟩ := hp53
  have hn53 : n53 = r + 19 := by omega
  subst hn53
  have S53 : h53 r = some (aOb 10 [.ref (r + 1), .ref (r + 3), .ref (r + 8), .ref (r + 13), .null, .null, .null, .null, .null, aI 0, .null, .null, .null, aI 0, aL 0]) := (hq53 _ (by omega)).trans ((k49 _ (by omega)).trans T45)
  refine A_putF X flX10_33 S53 dX10_init_56 ?_ (noN _ _ (by decide +kernel))
  refine A_gen (fun h56 e56 k56 q56 => ?_)
  have T56 : h56 r = some (aOb 10 [.ref (r + 1), .ref (r + 3), .ref (r + 8), .ref (r + 13), .ref (r + 16), .null, .null, .null, .null, aI 0, .null, .null, .null, aI 0, aL 0]) := e56
  have F56 : ∀ q, q ≠ r → q < r + 16 → h56 q = h45 q := fun q g1 g2 => (k56 q g1).trans ((hq53 q (by omega)).trans (k49 q (by omega)))
  refine A_al0 X dX10_init_59 ?_
  refine A_new (ci := 3) (fs := [.null, .null, aI 0, aI 0]) X rfl ui3 tyX3_ok clwX10_26 inw3 itw3 dfw3 dX10_init_60 ?_
  refine A_gen (fun h60 e60 k60 q60 => ?_)
  refine A_dup X dX10_init_63 ?_
  refine A_callIN (As := []) (st := [.ref (r + 19), .ref r]) X (i_now (d := d) rfl e60) knX3_init rfl rfl mlX10_28 dX10_init_64 (fun v64 n64 h64 hp64 => ?_)
  obtain ⟨rfl, hn64, hA64, hq64⟩ := hp64
  have hn64 : n64 = r + 22 := by omega
  subst hn64
  have S64 : h64 r = some (aOb 10 [.ref (r + 1), .ref (r + 3), .ref (r + 8), .ref (r + 13), .ref (r + 16), .null, .null, .null, .null, aI 0, .null, .null, .null, aI 0, aL 0]) := (hq64 _ (by omega)).trans ((k60 _ (by omega)).trans T56)
  refine A_putF X flX10_36 S64 dX10_init_67 ?_ (noN _ _ (by decide +kernel))
  refine A_gen (fun h67 e67 k67 q67 => ?_)
  have T67 : h67 r = some (aOb 10 [.ref (r + 1), .ref (r + 3), .ref (r + 8), .ref (r + 13), .ref (r + 16), .ref (r + 19), .null, .null, .null, aI 0, .null, .null, .null, aI 0, aL 0]) := e67
  have F67 : ∀ q, q ≠ r → q < r + 19 → h67 q = h56 q := fun q g1 g2 => (k67 q g1).trans ((hq64 q (by omega)).trans (k60 q (by omega)))
  refine A_al0 X dX10_init_70 ?_
  refine A_new (ci := 4) (fs := [.null, .null, .null, aI 0, aI 0, aI 0]) X rfl ui4 tyX4_ok clwX10_39 inw4 itw4 dfw4 dX10_init_71 ?_
  refine A_gen (fun h71 e71 k71 q71 => ?_)
  refine A_dup X dX10_init_74 ?_
  refine A_callIN (As := []) (st := [.ref (r + 22), .ref r]) X (i_partings (d := d) rfl e71) knX4_init rfl rfl mlX10_41 dX10_init_75 (fun v75 n75 h75 hp75 => ?_)
  obtain ⟨rfl, hn75, hA75, hq75⟩ := hp75
  have hn75 : n75 = r + 26 := by omega
  subst hn75
  have S75 : h75 r = some (aOb 10 [.ref (r + 1), .ref (r + 3), .ref (r + 8), .ref (r + 13), .ref (r + 16), .ref (r + 19), .null, .null, .null, aI 0, .null, .null, .null, aI 0, aL 0]) := (hq75 _ (by omega)).trans ((k71 _ (by omega)).trans T67)
  refine A_putF X flX10_42 S75 dX10_init_78 ?_ (noN _ _ (by decide +kernel))
  refine A_gen (fun h78 e78 k78 q78 => ?_)
  have T78 : h78 r = some (aOb 10 [.ref (r + 1), .ref (r + 3), .ref (r + 8), .ref (r + 13), .ref (r + 16), .ref (r + 19), .ref (r + 22), .null, .null, aI 0, .null, .null, .null, aI 0, aL 0]) := e78
  have F78 : ∀ q, q ≠ r → q < r + 22 → h78 q = h67 q := fun q g1 g2 => (k78 q g1).trans ((hq75 q (by omega)).trans (k71 q (by omega)))
  refine A_al0 X dX10_init_81 ?_
  refine A_bipush X dX10_init_82 ?_
  refine A_newaj X 6 rfl clwX10_46 aow dX10_init_84 ?_
  refine A_nn (n2 := r + 27) rfl ?_
  refine A_gen (fun h84 e84 k84 q84 => ?_)
  have S84 : h84 r = some (aOb 10 [.ref (r + 1), .ref (r + 3), .ref (r + 8), .ref (r + 13), .ref (r + 16), .ref (r + 19), .ref (r + 22), .null, .null, aI 0, .null, .null, .null, aI 0, aL 0]) := (k84 _ (by omega)).trans T78
  refine A_putF X flX10_48 S84 dX10_init_87 ?_ (noN _ _ (by decide +kernel))
  refine A_gen (fun h87 e87 k87 q87 => ?_)
  have T87 : h87 r = some (aOb 10 [.ref (r + 1), .ref (r + 3), .ref (r + 8), .ref (r + 13), .ref (r + 16), .ref (r + 19), .ref (r + 22), .ref (r + 26), .null, aI 0, .null, .null, .null, aI 0, aL 0]) := e87
  have F87 : ∀ q, q ≠ r → q < r + 26 → h87 q = h78 q := fun q g1 g2 => (k87 q g1).trans (k84 q (by omega))
  have B87 := (k87 (r + 26) (by omega)).trans e84
  refine A_al0 X dX10_init_90 ?_
  refine A_bipush X dX10_init_91 ?_
  refine A_newai X 10 rfl dX10_init_93 ?_ oiW.2.2
  refine A_nn (n2 := r + 28) rfl ?_
  refine A_gen (fun h93 e93 k93 q93 => ?_)
  have S93 : h93 r = some (aOb 10 [.ref (r + 1), .ref (r + 3), .ref (r + 8), .ref (r + 13), .ref (r + 16), .ref (r + 19), .ref (r + 22), .ref (r + 26), .null, aI 0, .null, .null, .null, aI 0, aL 0]) := (k93 _ (by omega)).trans T87
  refine A_putF X flX10_52 S93 dX10_init_95 ?_ (noN _ _ (by decide +kernel))
  refine A_gen (fun h95 e95 k95 q95 => ?_)
  have T95 : h95 r = some (aOb 10 [.ref (r + 1), .ref (r + 3), .ref (r + 8), .ref (r + 13), .ref (r + 16), .ref (r + 19), .ref (r + 22), .ref (r + 26), .ref (r + 27), aI 0, .null, .null, .null, aI 0, aL 0]) := e95
  have F95 : ∀ q, q ≠ r → q < r + 27 → h95 q = h87 q := fun q g1 g2 => (k95 q g1).trans (k93 q (by omega))
  have B95 := (k95 (r + 27) (by omega)).trans e93
  refine A_al0 X dX10_init_98 ?_
  refine A_bipush X dX10_init_99 ?_
  refine A_newai X 6 rfl dX10_init_101 ?_ oiW.2.2
  refine A_nn (n2 := r + 29) rfl ?_
  refine A_gen (fun h101 e101 k101 q101 => ?_)
  have S101 : h101 r = some (aOb 10 [.ref (r + 1), .ref (r + 3), .ref (r + 8), .ref (r + 13), .ref (r + 16), .ref (r + 19), .ref (r + 22), .ref (r + 26), .ref (r + 27), aI 0, .null, .null, .null, aI 0, aL 0]) := (k101 _ (by omega)).trans T95
  refine A_putF X flX10_56 S101 dX10_init_103 ?_ (noN _ _ (by decide +kernel))
  refine A_gen (fun h103 e103 k103 q103 => ?_)
  have T103 : h103 r = some (aOb 10 [.ref (r + 1), .ref (r + 3), .ref (r + 8), .ref (r + 13), .ref (r + 16), .ref (r + 19), .ref (r + 22), .ref (r + 26), .ref (r + 27), aI 0, .ref (r + 28), .null, .null, aI 0, aL 0]) := e103
  have F103 : ∀ q, q ≠ r → q < r + 28 → h103 q = h95 q := fun q g1 g2 => (k103 q g1).trans (k101 q (by omega))
  have B103 := (k103 (r + 28) (by omega)).trans e101
  refine A_al0 X dX10_init_106 ?_
  refine A_bipush X dX10_init_107 ?_
  refine A_newai X 6 rfl dX10_init_109 ?_ oiW.2.2
  refine A_nn (n2 := r + 30) rfl ?_
  refine A_gen (fun h109 e109 k109 q109 => ?_)
  have S109 : h109 r = some (aOb 10 [.ref (r + 1), .ref (r + 3), .ref (r + 8), .ref (r + 13), .ref (r + 16), .ref (r + 19), .ref (r + 22), .ref (r + 26), .ref (r + 27), aI 0, .ref (r + 28), .null, .null, aI 0, aL 0]) := (k109 _ (by omega)).trans T103
  refine A_putF X flX10_59 S109 dX10_init_111 ?_ (noN _ _ (by decide +kernel))
  refine A_gen (fun h111 e111 k111 q111 => ?_)
  have T111 : h111 r = some (aOb 10 [.ref (r + 1), .ref (r + 3), .ref (r + 8), .ref (r + 13), .ref (r + 16), .ref (r + 19), .ref (r + 22), .ref (r + 26), .ref (r + 27), aI 0, .ref (r + 28), .ref (r + 29), .null, aI 0, aL 0]) := e111
  have F111 : ∀ q, q ≠ r → q < r + 29 → h111 q = h103 q := fun q g1 g2 => (k111 q g1).trans (k109 q (by omega))
  have B111 := (k111 (r + 29) (by omega)).trans e109
  refine A_al0 X dX10_init_114 ?_
  refine A_bipush X dX10_init_115 ?_
  refine A_newai X 6 rfl dX10_init_117 ?_ oiW.2.2
  refine A_nn (n2 := r + 31) rfl ?_
  refine A_gen (fun h117 e117 k117 q117 => ?_)
  have S117 : h117 r = some (aOb 10 [.ref (r + 1), .ref (r + 3), .ref (r + 8), .ref (r + 13), .ref (r + 16), .ref (r + 19), .ref (r + 22), .ref (r + 26), .ref (r + 27), aI 0, .ref (r + 28), .ref (r + 29), .null, aI 0, aL 0]) := (k117 _ (by omega)).trans T111
  refine A_putF X flX10_62 S117 dX10_init_119 ?_ (noN _ _ (by decide +kernel))
  refine A_gen (fun h119 e119 k119 q119 => ?_)
  have T119 : h119 r = some (aOb 10 [.ref (r + 1), .ref (r + 3), .ref (r + 8), .ref (r + 13), .ref (r + 16), .ref (r + 19), .ref (r + 22), .ref (r + 26), .ref (r + 27), aI 0, .ref (r + 28), .ref (r + 29), .ref (r + 30), aI 0, aL 0]) := e119
  have F119 : ∀ q, q ≠ r → q < r + 30 → h119 q = h111 q := fun q g1 g2 => (k119 q g1).trans (k117 q (by omega))
  have B119 := (k119 (r + 30) (by omega)).trans e117
  have J0 := (F119 (r + 26) (by omega) (by omega)).trans ((F111 (r + 26) (by omega) (by omega)).trans ((F103 (r + 26) (by omega) (by omega)).trans ((F95 (r + 26) (by omega) (by omega)).trans B87)))
  refine A_al0 X dX10_init_122 ?_
  refine A_getf X flX10_48 T119 rfl dX10_init_123 ?_
  refine A_iconst X dX10_init_126 ?_
  refine A_new (ci := 1) (fs := []) X rfl ui1 tyX1_ok clwX10_46 inw1 itw1 dfw1 dX10_init_127 ?_
  refine A_nn (n2 := r + 32) rfl ?_
  refine A_gen (fun h127 e127 k127 q127 => ?_)
  refine A_dup X dX10_init_130 ?_
  refine A_callIN (As := []) (st := [.ref (r + 31), aI 0, .ref (r + 26)]) X (i_judge (d := d)) knX1_init rfl rfl mlX10_65 dX10_init_131 (fun v n2 h2 hp => ?_)
  obtain ⟨rfl, rfl, rfl⟩ := hp
  refine A_aast X ((k127 _ (by omega)).trans J0) 0 rfl (by decide) e127 rfl (Or.inl rfl) dX10_init_134 ?_
  refine A_gen (fun h134 e134 k134 q134 => ?_)
  have T134 : h134 r = some (aOb 10 [.ref (r + 1), .ref (r + 3), .ref (r + 8), .ref (r + 13), .ref (r + 16), .ref (r + 19), .ref (r + 22), .ref (r + 26), .ref (r + 27), aI 0, .ref (r + 28), .ref (r + 29), .ref (r + 30), aI 0, aL 0]) := (k134 _ (by omega)).trans ((k127 _ (by omega)).trans T119)
  have B134 := (k134 (r + 31) (by omega)).trans e127
  have F134 : ∀ q, q ≠ r → q ≠ r + 26 → q < r + 31 → h134 q = h119 q := fun q g1 g2 g3 => (k134 q g2).trans (k127 q (by omega))
  refine A_al0 X dX10_init_135 ?_
  refine A_getf X flX10_48 T134 rfl dX10_init_136 ?_
  refine A_iconst X dX10_init_139 ?_
  refine A_new (ci := 0) (fs := []) X rfl ui0 tyX0_ok clwX10_66 inw0 itw0 dfw0 dX10_init_140 ?_
  refine A_nn (n2 := r + 33) rfl ?_
  refine A_gen (fun h140 e140 k140 q140 => ?_)
  refine A_dup X dX10_init_143 ?_
  refine A_callIN (As := []) (st := [.ref (r + 32), aI 1, .ref (r + 26)]) X (i_cobbler (d := d)) knX0_init rfl rfl mlX10_68 dX10_init_144 (fun v n2 h2 hp => ?_)
  obtain ⟨rfl, rfl, rfl⟩ := hp
  refine A_aast X ((k140 _ (by omega)).trans e134) 1 rfl (by decide) e140 rfl (Or.inr caw0) dX10_init_147 ?_
  refine A_gen (fun h147 e147 k147 q147 => ?_)
  have T147 : h147 r = some (aOb 10 [.ref (r + 1), .ref (r + 3), .ref (r + 8), .ref (r + 13), .ref (r + 16), .ref (r + 19), .ref (r + 22), .ref (r + 26), .ref (r + 27), aI 0, .ref (r + 28), .ref (r + 29), .ref (r + 30), aI 0, aL 0]) := (k147 _ (by omega)).trans ((k140 _ (by omega)).trans T134)
  have B147 := (k147 (r + 32) (by omega)).trans e140
  have F147 : ∀ q, q ≠ r → q ≠ r + 26 → q < r + 32 → h147 q = h134 q := fun q g1 g2 g3 => (k147 q g2).trans (k140 q (by omega))
  refine A_al0 X dX10_init_148 ?_
  refine A_getf X flX10_48 T147 rfl dX10_init_149 ?_
  refine A_iconst X dX10_init_152 ?_
  refine A_new (ci := 9) (fs := []) X rfl ui9 tyX9_ok clwX10_69 inw9 itw9 dfw9 dX10_init_153 ?_
  refine A_nn (n2 := r + 34) rfl ?_
  refine A_gen (fun h153 e153 k153 q153 => ?_)
  refine A_dup X dX10_init_156 ?_
  refine A_callIN (As := []) (st := [.ref (r + 33), aI 2, .ref (r + 26)]) X (i_umbrella (d := d)) knX9_init rfl rfl mlX10_71 dX10_init_157 (fun v n2 h2 hp => ?_)
  obtain ⟨rfl, rfl, rfl⟩ := hp
  refine A_aast X ((k153 _ (by omega)).trans e147) 2 rfl (by decide) e153 rfl (Or.inr caw9) dX10_init_160 ?_
  refine A_gen (fun h160 e160 k160 q160 => ?_)
  have T160 : h160 r = some (aOb 10 [.ref (r + 1), .ref (r + 3), .ref (r + 8), .ref (r + 13), .ref (r + 16), .ref (r + 19), .ref (r + 22), .ref (r + 26), .ref (r + 27), aI 0, .ref (r + 28), .ref (r + 29), .ref (r + 30), aI 0, aL 0]) := (k160 _ (by omega)).trans ((k153 _ (by omega)).trans T147)
  have B160 := (k160 (r + 33) (by omega)).trans e153
  have F160 : ∀ q, q ≠ r → q ≠ r + 26 → q < r + 33 → h160 q = h147 q := fun q g1 g2 g3 => (k160 q g2).trans (k153 q (by omega))
  refine A_al0 X dX10_init_161 ?_
  refine A_getf X flX10_48 T160 rfl dX10_init_162 ?_
  refine A_iconst X dX10_init_165 ?_
  refine A_new (ci := 2) (fs := []) X rfl ui2 tyX2_ok clwX10_72 inw2 itw2 dfw2 dX10_init_166 ?_
  refine A_nn (n2 := r + 35) rfl ?_
  refine A_gen (fun h166 e166 k166 q166 => ?_)
  refine A_dup X dX10_init_169 ?_
  refine A_callIN (As := []) (st := [.ref (r + 34), aI 3, .ref (r + 26)]) X (i_master (d := d)) knX2_init rfl rfl mlX10_74 dX10_init_170 (fun v n2 h2 hp => ?_)
  obtain ⟨rfl, rfl, rfl⟩ := hp
  refine A_aast X ((k166 _ (by omega)).trans e160) 3 rfl (by decide) e166 rfl (Or.inr caw2) dX10_init_173 ?_
  refine A_gen (fun h173 e173 k173 q173 => ?_)
  have T173 : h173 r = some (aOb 10 [.ref (r + 1), .ref (r + 3), .ref (r + 8), .ref (r + 13), .ref (r + 16), .ref (r + 19), .ref (r + 22), .ref (r + 26), .ref (r + 27), aI 0, .ref (r + 28), .ref (r + 29), .ref (r + 30), aI 0, aL 0]) := (k173 _ (by omega)).trans ((k166 _ (by omega)).trans T160)
  have B173 := (k173 (r + 34) (by omega)).trans e166
  have F173 : ∀ q, q ≠ r → q ≠ r + 26 → q < r + 34 → h173 q = h160 q := fun q g1 g2 g3 => (k173 q g2).trans (k166 q (by omega))
  refine A_al0 X dX10_init_174 ?_
  refine A_getf X flX10_48 T173 rfl dX10_init_175 ?_
  refine A_iconst X dX10_init_178 ?_
  refine A_new (ci := 8) (fs := []) X rfl ui8 tyX8_ok clwX10_75 inw8 itw8 dfw8 dX10_init_179 ?_
  refine A_nn (n2 := r + 36) rfl ?_
  refine A_gen (fun h179 e179 k179 q179 => ?_)
  refine A_dup X dX10_init_182 ?_
  refine A_callIN (As := []) (st := [.ref (r + 35), aI 4, .ref (r + 26)]) X (i_torn (d := d)) knX8_init rfl rfl mlX10_77 dX10_init_183 (fun v n2 h2 hp => ?_)
  obtain ⟨rfl, rfl, rfl⟩ := hp
  refine A_aast X ((k179 _ (by omega)).trans e173) 4 rfl (by decide) e179 rfl (Or.inr caw8) dX10_init_186 ?_
  refine A_gen (fun h186 e186 k186 q186 => ?_)
  have T186 : h186 r = some (aOb 10 [.ref (r + 1), .ref (r + 3), .ref (r + 8), .ref (r + 13), .ref (r + 16), .ref (r + 19), .ref (r + 22), .ref (r + 26), .ref (r + 27), aI 0, .ref (r + 28), .ref (r + 29), .ref (r + 30), aI 0, aL 0]) := (k186 _ (by omega)).trans ((k179 _ (by omega)).trans T173)
  have B186 := (k186 (r + 35) (by omega)).trans e179
  have F186 : ∀ q, q ≠ r → q ≠ r + 26 → q < r + 35 → h186 q = h173 q := fun q g1 g2 g3 => (k186 q g2).trans (k179 q (by omega))
  refine A_al0 X dX10_init_187 ?_
  refine A_getf X flX10_48 T186 rfl dX10_init_188 ?_
  refine A_iconst X dX10_init_191 ?_
  refine A_new (ci := 7) (fs := []) X rfl ui7 tyX7_ok clwX10_78 inw7 itw7 dfw7 dX10_init_192 ?_
  refine A_nn (n2 := r + 37) rfl ?_
  refine A_gen (fun h192 e192 k192 q192 => ?_)
  refine A_dup X dX10_init_195 ?_
  refine A_callIN (As := []) (st := [.ref (r + 36), aI 5, .ref (r + 26)]) X (i_third (d := d)) knX7_init rfl rfl mlX10_80 dX10_init_196 (fun v n2 h2 hp => ?_)
  obtain ⟨rfl, rfl, rfl⟩ := hp
  refine A_aast X ((k192 _ (by omega)).trans e186) 5 rfl (by decide) e192 rfl (Or.inr caw7) dX10_init_199 ?_
  refine A_gen (fun h199 e199 k199 q199 => ?_)
  have T199 : h199 r = some (aOb 10 [.ref (r + 1), .ref (r + 3), .ref (r + 8), .ref (r + 13), .ref (r + 16), .ref (r + 19), .ref (r + 22), .ref (r + 26), .ref (r + 27), aI 0, .ref (r + 28), .ref (r + 29), .ref (r + 30), aI 0, aL 0]) := (k199 _ (by omega)).trans ((k192 _ (by omega)).trans T186)
  have B199 := (k199 (r + 36) (by omega)).trans e192
  have F199 : ∀ q, q ≠ r → q ≠ r + 26 → q < r + 36 → h199 q = h186 q := fun q g1 g2 g3 => (k199 q g2).trans (k192 q (by omega))
  refine A_jcg (g := fun j => some (r + 31 + j)) e199 (fun j hj => by rcases (show j = 0 ∨ j = 1 ∨ j = 2 ∨ j = 3 ∨ j = 4 ∨ j = 5 by omega) with rfl | rfl | rfl | rfl | rfl | rfl <;> rfl) ?_
  refine A_gen (fun hJ eJ kJ qJ => ?_)
  have TJ : hJ r = some (aOb 10 (xO r (r + 3) (r + 8) 0 0 0)) := (kJ _ (by omega)).trans T199
  have G199 : ∀ q, q ≠ r → q ≠ r + 26 → q < r + 37 → hJ q = h199 q := fun q g1 g2 g3 => kJ q g2
  have G186 : ∀ q, q ≠ r → q ≠ r + 26 → q < r + 36 → hJ q = h186 q := fun q g1 g2 g3 => (G199 q g1 g2 (by omega)).trans (F199 q g1 g2 (by omega))
  have G173 : ∀ q, q ≠ r → q ≠ r + 26 → q < r + 35 → hJ q = h173 q := fun q g1 g2 g3 => (G186 q g1 g2 (by omega)).trans (F186 q g1 g2 (by omega))
  have G160 : ∀ q, q ≠ r → q ≠ r + 26 → q < r + 34 → hJ q = h160 q := fun q g1 g2 g3 => (G173 q g1 g2 (by omega)).trans (F173 q g1 g2 (by omega))
  have G147 : ∀ q, q ≠ r → q ≠ r + 26 → q < r + 33 → hJ q = h147 q := fun q g1 g2 g3 => (G160 q g1 g2 (by omega)).trans (F160 q g1 g2 (by omega))
  have G134 : ∀ q, q ≠ r → q ≠ r + 26 → q < r + 32 → hJ q = h134 q := fun q g1 g2 g3 => (G147 q g1 g2 (by omega)).trans (F147 q g1 g2 (by omega))
  have G119 : ∀ q, q ≠ r → q ≠ r + 26 → q < r + 31 → hJ q = h119 q := fun q g1 g2 g3 => (G134 q g1 g2 (by omega)).trans (F134 q g1 g2 (by omega))
  have G111 : ∀ q, q ≠ r → q ≠ r + 26 → q < r + 30 → hJ q = h111 q := fun q g1 g2 g3 => (G119 q g1 g2 (by omega)).trans (F119 q g1 (by omega))
  have G103 : ∀ q, q ≠ r → q ≠ r + 26 → q < r + 29 → hJ q = h103 q := fun q g1 g2 g3 => (G111 q g1 g2 (by omega)).trans (F111 q g1 (by omega))
  have G95 : ∀ q, q ≠ r → q ≠ r + 26 → q < r + 28 → hJ q = h95 q := fun q g1 g2 g3 => (G103 q g1 g2 (by omega)).trans (F103 q g1 (by omega))
  have G87 : ∀ q, q ≠ r → q ≠ r + 26 → q < r + 27 → hJ q = h87 q := fun q g1 g2 g3 => (G95 q g1 g2 (by omega)).trans (F95 q g1 (by omega))
  have G78 : ∀ q, q ≠ r → q ≠ r + 26 → q < r + 26 → hJ q = h78 q := fun q g1 g2 g3 => (G87 q g1 g2 (by omega)).trans (F87 q g1 (by omega))
  have G67 : ∀ q, q ≠ r → q ≠ r + 26 → q < r + 22 → hJ q = h67 q := fun q g1 g2 g3 => (G78 q g1 g2 (by omega)).trans (F78 q g1 (by omega))
  have G56 : ∀ q, q ≠ r → q ≠ r + 26 → q < r + 19 → hJ q = h56 q := fun q g1 g2 g3 => (G67 q g1 g2 (by omega)).trans (F67 q g1 (by omega))
  have G45 : ∀ q, q ≠ r → q ≠ r + 26 → q < r + 16 → hJ q = h45 q := fun q g1 g2 g3 => (G56 q g1 g2 (by omega)).trans (F56 q g1 (by omega))
  have G34 : ∀ q, q ≠ r → q ≠ r + 26 → q < r + 13 → hJ q = h34 q := fun q g1 g2 g3 => (G45 q g1 g2 (by omega)).trans (F45 q g1 (by omega))
  have G23 : ∀ q, q ≠ r → q ≠ r + 26 → q < r + 8 → hJ q = h23 q := fun q g1 g2 g3 => (G34 q g1 g2 (by omega)).trans (F34 q g1 (by omega))
  have G12 : ∀ q, q ≠ r → q ≠ r + 26 → q < r + 3 → hJ q = h12 q := fun q g1 g2 g3 => (G23 q g1 g2 (by omega)).trans (F23 q g1 (by omega))
  have N1 := nowX_fr hA42 (fun q g1 g2 => (G45 q (by omega) (by omega) (by omega)).trans (k45 q (by omega)))
  have N2 := nowX_fr hA53 (fun q g1 g2 => (G56 q (by omega) (by omega) (by omega)).trans (k56 q (by omega)))
  have N3 := nowX_fr hA64 (fun q g1 g2 => (G67 q (by omega) (by omega) (by omega)).trans (k67 q (by omega)))
  have S1 := suC_fr hA20 (fun q g1 g2 => (G23 q (by omega) (by omega) (by omega)).trans (k23 q (by omega)))
  have S2 := suX_fr (suC_x hA31) (fun q g1 g2 => (G34 q (by omega) (by omega) (by omega)).trans (k34 q (by omega)))
  have R1 := ((G12 (r + 1) (by omega) (by omega) (by omega)).trans ((k12 (r + 1) (by omega)).trans (hA9.1)))
  have R2 := ((G12 (r + 2) (by omega) (by omega) (by omega)).trans ((k12 (r + 2) (by omega)).trans (hA9.2)))
  have P1 := ((G78 (r + 22) (by omega) (by omega) (by omega)).trans ((k78 (r + 22) (by omega)).trans (hA75.1)))
  have P2 := ((G78 (r + 23) (by omega) (by omega) (by omega)).trans ((k78 (r + 23) (by omega)).trans (hA75.2.1)))
  have P3 := ((G78 (r + 24) (by omega) (by omega) (by omega)).trans ((k78 (r + 24) (by omega)).trans (hA75.2.2.1)))
  have P4 := ((G78 (r + 25) (by omega) (by omega) (by omega)).trans ((k78 (r + 25) (by omega)).trans (hA75.2.2.2)))
  have D0 := (G95 (r + 27) (by omega) (by omega) (by omega)).trans B95
  have D1 := (G103 (r + 28) (by omega) (by omega) (by omega)).trans B103
  have D2 := (G111 (r + 29) (by omega) (by omega) (by omega)).trans B111
  have D3 := (G119 (r + 30) (by omega) (by omega) (by omega)).trans B119
  have Q0 := (G134 (r + 31) (by omega) (by omega) (by omega)).trans B134
  have Q1 := (G147 (r + 32) (by omega) (by omega) (by omega)).trans B147
  have Q2 := (G160 (r + 33) (by omega) (by omega) (by omega)).trans B160
  have Q3 := (G173 (r + 34) (by omega) (by omega) (by omega)).trans B173
  have Q4 := (G186 (r + 35) (by omega) (by omega) (by omega)).trans B186
  have Q5 := (G199 (r + 36) (by omega) (by omega) (by omega)).trans B199
  refine A_al0 X dX10_init_200 ?_
  refine A_eVv0 X (x_beginAnew TJ N1 N2 N3) TJ knX10_beginAnew mlX10_81 dX10_init_201 (fun h201 p201 => ?_)
  obtain ⟨z1, z2, z3, z4, zq⟩ := p201
  refine A_retv X dX10_init_204 rfl ⟨rfl, rfl, ⟨r + 3, r + 8, 0, 0, 0, 0, 0, 0, 0, 0, 0, _, _, _, _, _, _, _, Or.inl ⟨rfl, rfl⟩, z1, in0, (zq (r + 1) ⟨by omega, by omega⟩).trans R1, (zq (r + 2) ⟨by omega, by omega⟩).trans R2, suC_fr S1 (fun q g1 g2 => zq q ⟨by omega, by omega⟩), suX_fr S2 (fun q g1 g2 => zq q ⟨by omega, by omega⟩), z2, Or.inr ⟨rfl, z3⟩, Or.inr ⟨rfl, z4⟩, (zq (r + 22) ⟨by omega, by omega⟩).trans P1, (zq (r + 23) ⟨by omega, by omega⟩).trans P2, (zq (r + 24) ⟨by omega, by omega⟩).trans P3, (zq (r + 25) ⟨by omega, by omega⟩).trans P4, (zq (r + 26) ⟨by omega, by omega⟩).trans eJ, (zq (r + 27) ⟨by omega, by omega⟩).trans D0, fun j j1 j2 => absurd j2 (by omega), (zq (r + 28) ⟨by omega, by omega⟩).trans D1, (zq (r + 29) ⟨by omega, by omega⟩).trans D2, (zq (r + 30) ⟨by omega, by omega⟩).trans D3, fun k k1 k2 => absurd k2 (by omega), (zq (r + 31) ⟨by omega, by omega⟩).trans Q0, (zq (r + 32) ⟨by omega, by omega⟩).trans Q1, (zq (r + 33) ⟨by omega, by omega⟩).trans Q2, (zq (r + 34) ⟨by omega, by omega⟩).trans Q3, (zq (r + 35) ⟨by omega, by omega⟩).trans Q4, (zq (r + 36) ⟨by omega, by omega⟩).trans Q5⟩, fun q hq => ?_⟩
  rw [zq q ⟨by omega, by omega⟩, G12 q (by omega) (by omega) (by omega), F12 q (by omega) (by omega)]
