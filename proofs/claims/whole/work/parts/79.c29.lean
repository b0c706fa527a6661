/-! the constructor of the reference -/
set_option maxRecDepth 100000 in
set_option maxHeartbeats 1000000 in
theorem i_model {G : aG} {d n : Nat} {h : AH} {r : Nat} (hr : n = r + 1) (h_this : h r = some (aOb 11 [.null, .null, .null, .null, aI 0, .null, .null, .null, aI 0, .null, aI 0, aL 0, aI 0, aI 0, aI 0, .null, .null, .null, .null, .null])) : aCt G (d + 1) kX11_init 13 14689 [.ref r] n h (fun v' n' h' => v' = none ∧ n' = r + 14 ∧ mW G r h' clF bgF z0F z0F z0F z0F z0F 0 0 0 0 ∧ ∀ q, q < r → h' q = h q) := by
  subst hr
  refine aCt_of (lv := [some (.ref r)]) knX11_init.1 rfl rfl (Nat.le_of_ble_eq_true rfl) (fun x hG hsc X => ?_)
  subst hG
  refine A_al0 X dX11_init_0 ?_
  refine A_objInit X mlX11_1 oiW.1 oiW.2.1 dX11_init_1 ?_
  refine A_al0 X dX11_init_4 ?_
  refine A_bipush X dX11_init_5 ?_
  refine A_newai X 32 rfl dX11_init_7 ?_ oiW.2.2
  refine A_nn (n2 := r + 2) rfl ?_
  refine A_gen (fun h7 e7 k7 q7 => ?_)
  have S7 : h7 r = some (aOb 11 [.null, .null, .null, .null, aI 0, .null, .null, .null, aI 0, .null, aI 0, aL 0, aI 0, aI 0, aI 0, .null, .null, .null, .null, .null]) := (k7 _ (by omega)).trans h_this
  refine A_putF X flX11_7 S7 dX11_init_9 ?_ (noN _ _ (by decide +kernel))
  refine A_gen (fun h9 e9 k9 q9 => ?_)
  have T9 : h9 r = some (aOb 11 [.ref (r + 1), .null, .null, .null, aI 0, .null, .null, .null, aI 0, .null, aI 0, aL 0, aI 0, aI 0, aI 0, .null, .null, .null, .null, .null]) := e9
  have F9 : ∀ q, q ≠ r → q < r + 1 → h9 q = h q := fun q g1 g2 => (k9 q g1).trans (k7 q (by omega))
  have B9 := (k9 (r + 1) (by omega)).trans e7
  refine A_al0 X dX11_init_12 ?_
  refine A_bipush X dX11_init_13 ?_
  refine A_newai X 32 rfl dX11_init_15 ?_ oiW.2.2
  refine A_nn (n2 := r + 3) rfl ?_
  refine A_gen (fun h15 e15 k15 q15 => ?_)
  have S15 : h15 r = some (aOb 11 [.ref (r + 1), .null, .null, .null, aI 0, .null, .null, .null, aI 0, .null, aI 0, aL 0, aI 0, aI 0, aI 0, .null, .null, .null, .null, .null]) := (k15 _ (by omega)).trans T9
  refine A_putF X flX11_13 S15 dX11_init_17 ?_ (noN _ _ (by decide +kernel))
  refine A_gen (fun h17 e17 k17 q17 => ?_)
  have T17 : h17 r = some (aOb 11 [.ref (r + 1), .ref (r + 2), .null, .null, aI 0, .null, .null, .null, aI 0, .null, aI 0, aL 0, aI 0, aI 0, aI 0, .null, .null, .null, .null, .null]) := e17
  have F17 : ∀ q, q ≠ r → q < r + 2 → h17 q = h9 q := fun q g1 g2 => (k17 q g1).trans (k15 q (by omega))
  have B17 := (k17 (r + 2) (by omega)).trans e15
  refine A_al0 X dX11_init_20 ?_
  refine A_bipush X dX11_init_21 ?_
  refine A_newai X 9 rfl dX11_init_23 ?_ oiW.2.2
  refine A_nn (n2 := r + 4) rfl ?_
  refine A_gen (fun h23 e23 k23 q23 => ?_)
  have S23 : h23 r = some (aOb 11 [.ref (r + 1), .ref (r + 2), .null, .null, aI 0, .null, .null, .null, aI 0, .null, aI 0, aL 0, aI 0, aI 0, aI 0, .null, .null, .null, .null, .null]) := (k23 _ (by omega)).trans T17
  refine A_putF X flX11_16 S23 dX11_init_25 ?_ (noN _ _ (by decide +kernel))
  refine A_gen (fun h25 e25 k25 q25 => ?_)
  have T25 : h25 r = some (aOb 11 [.ref (r + 1), .ref (r + 2), .ref (r + 3), .null, aI 0, .null, .null, .null, aI 0, .null, aI 0, aL 0, aI 0, aI 0, aI 0, .null, .null, .null, .null, .null]) := e25
  have F25 : ∀ q, q ≠ r → q < r + 3 → h25 q = h17 q := fun q g1 g2 => (k25 q g1).trans (k23 q (by omega))
  have B25 := (k25 (r + 3) (by omega)).trans e23
  refine A_al0 X dX11_init_28 ?_
  refine A_bipush X dX11_init_29 ?_
  refine A_newai X 90 rfl dX11_init_31 ?_ oiW.2.2
  refine A_nn (n2 := r + 5) rfl ?_
  refine A_gen (fun h31 e31 k31 q31 => ?_)
  have S31 : h31 r = some (aOb 11 [.ref (r + 1), .ref (r + 2), .ref (r + 3), .null, aI 0, .null, .null, .null, aI 0, .null, aI 0, aL 0, aI 0, aI 0, aI 0, .null, .null, .null, .null, .null]) := (k31 _ (by omega)).trans T25
  refine A_putF X flX11_19 S31 dX11_init_33 ?_ (noN _ _ (by decide +kernel))
  refine A_gen (fun h33 e33 k33 q33 => ?_)
  have T33 : h33 r = some (aOb 11 [.ref (r + 1), .ref (r + 2), .ref (r + 3), .ref (r + 4), aI 0, .null, .null, .null, aI 0, .null, aI 0, aL 0, aI 0, aI 0, aI 0, .null, .null, .null, .null, .null]) := e33
  have F33 : ∀ q, q ≠ r → q < r + 4 → h33 q = h25 q := fun q g1 g2 => (k33 q g1).trans (k31 q (by omega))
  have B33 := (k33 (r + 4) (by omega)).trans e31
  refine A_al0 X dX11_init_36 ?_
  refine A_bipush X dX11_init_37 ?_
  refine A_newai X 18 rfl dX11_init_39 ?_ oiW.2.2
  refine A_nn (n2 := r + 6) rfl ?_
  refine A_gen (fun h39 e39 k39 q39 => ?_)
  have S39 : h39 r = some (aOb 11 [.ref (r + 1), .ref (r + 2), .ref (r + 3), .ref (r + 4), aI 0, .null, .null, .null, aI 0, .null, aI 0, aL 0, aI 0, aI 0, aI 0, .null, .null, .null, .null, .null]) := (k39 _ (by omega)).trans T33
  refine A_putF X flX11_22 S39 dX11_init_41 ?_ (noN _ _ (by decide +kernel))
  refine A_gen (fun h41 e41 k41 q41 => ?_)
  have T41 : h41 r = some (aOb 11 [.ref (r + 1), .ref (r + 2), .ref (r + 3), .ref (r + 4), aI 0, .ref (r + 5), .null, .null, aI 0, .null, aI 0, aL 0, aI 0, aI 0, aI 0, .null, .null, .null, .null, .null]) := e41
  have F41 : ∀ q, q ≠ r → q < r + 5 → h41 q = h33 q := fun q g1 g2 => (k41 q g1).trans (k39 q (by omega))
  have B41 := (k41 (r + 5) (by omega)).trans e39
  refine A_al0 X dX11_init_44 ?_
  refine A_iconst X dX11_init_45 ?_
  refine A_newaz X 2 rfl dX11_init_46 ?_ azw
  refine A_nn (n2 := r + 7) rfl ?_
  refine A_gen (fun h46 e46 k46 q46 => ?_)
  have S46 : h46 r = some (aOb 11 [.ref (r + 1), .ref (r + 2), .ref (r + 3), .ref (r + 4), aI 0, .ref (r + 5), .null, .null, aI 0, .null, aI 0, aL 0, aI 0, aI 0, aI 0, .null, .null, .null, .null, .null]) := (k46 _ (by omega)).trans T41
  refine A_putF X flX11_25 S46 dX11_init_48 ?_ (noN _ _ (by decide +kernel))
  refine A_gen (fun h48 e48 k48 q48 => ?_)
  have T48 : h48 r = some (aOb 11 [.ref (r + 1), .ref (r + 2), .ref (r + 3), .ref (r + 4), aI 0, .ref (r + 5), .ref (r + 6), .null, aI 0, .null, aI 0, aL 0, aI 0, aI 0, aI 0, .null, .null, .null, .null, .null]) := e48
  have F48 : ∀ q, q ≠ r → q < r + 6 → h48 q = h41 q := fun q g1 g2 => (k48 q g1).trans (k46 q (by omega))
  have B48 := (k48 (r + 6) (by omega)).trans e46
  refine A_al0 X dX11_init_51 ?_
  refine A_sipush X dX11_init_52 ?_
  refine A_newai X 200 rfl dX11_init_55 ?_ oiW.2.2
  refine A_nn (n2 := r + 8) rfl ?_
  refine A_gen (fun h55 e55 k55 q55 => ?_)
  have S55 : h55 r = some (aOb 11 [.ref (r + 1), .ref (r + 2), .ref (r + 3), .ref (r + 4), aI 0, .ref (r + 5), .ref (r + 6), .null, aI 0, .null, aI 0, aL 0, aI 0, aI 0, aI 0, .null, .null, .null, .null, .null]) := (k55 _ (by omega)).trans T48
  refine A_putF X flX11_29 S55 dX11_init_57 ?_ (noN _ _ (by decide +kernel))
  refine A_gen (fun h57 e57 k57 q57 => ?_)
  have T57 : h57 r = some (aOb 11 [.ref (r + 1), .ref (r + 2), .ref (r + 3), .ref (r + 4), aI 0, .ref (r + 5), .ref (r + 6), .ref (r + 7), aI 0, .null, aI 0, aL 0, aI 0, aI 0, aI 0, .null, .null, .null, .null, .null]) := e57
  have F57 : ∀ q, q ≠ r → q < r + 7 → h57 q = h48 q := fun q g1 g2 => (k57 q g1).trans (k55 q (by omega))
  have B57 := (k57 (r + 7) (by omega)).trans e55
  refine A_al0 X dX11_init_60 ?_
  refine A_bipush X dX11_init_61 ?_
  refine A_newai X 18 rfl dX11_init_63 ?_ oiW.2.2
  refine A_nn (n2 := r + 9) rfl ?_
  refine A_gen (fun h63 e63 k63 q63 => ?_)
  have S63 : h63 r = some (aOb 11 [.ref (r + 1), .ref (r + 2), .ref (r + 3), .ref (r + 4), aI 0, .ref (r + 5), .ref (r + 6), .ref (r + 7), aI 0, .null, aI 0, aL 0, aI 0, aI 0, aI 0, .null, .null, .null, .null, .null]) := (k63 _ (by omega)).trans T57
  refine A_putF X flX11_32 S63 dX11_init_65 ?_ (noN _ _ (by decide +kernel))
  refine A_gen (fun h65 e65 k65 q65 => ?_)
  have T65 : h65 r = some (aOb 11 [.ref (r + 1), .ref (r + 2), .ref (r + 3), .ref (r + 4), aI 0, .ref (r + 5), .ref (r + 6), .ref (r + 7), aI 0, .ref (r + 8), aI 0, aL 0, aI 0, aI 0, aI 0, .null, .null, .null, .null, .null]) := e65
  have F65 : ∀ q, q ≠ r → q < r + 8 → h65 q = h57 q := fun q g1 g2 => (k65 q g1).trans (k63 q (by omega))
  have B65 := (k65 (r + 8) (by omega)).trans e63
  refine A_al0 X dX11_init_68 ?_
  refine A_sipush X dX11_init_69 ?_
  refine A_newai X 4096 rfl dX11_init_72 ?_ oiW.2.2
  refine A_nn (n2 := r + 10) rfl ?_
  refine A_gen (fun h72 e72 k72 q72 => ?_)
  have S72 : h72 r = some (aOb 11 [.ref (r + 1), .ref (r + 2), .ref (r + 3), .ref (r + 4), aI 0, .ref (r + 5), .ref (r + 6), .ref (r + 7), aI 0, .ref (r + 8), aI 0, aL 0, aI 0, aI 0, aI 0, .null, .null, .null, .null, .null]) := (k72 _ (by omega)).trans T65
  refine A_putF X flX11_35 S72 dX11_init_74 ?_ (noN _ _ (by decide +kernel))
  refine A_gen (fun h74 e74 k74 q74 => ?_)
  have T74 : h74 r = some (aOb 11 [.ref (r + 1), .ref (r + 2), .ref (r + 3), .ref (r + 4), aI 0, .ref (r + 5), .ref (r + 6), .ref (r + 7), aI 0, .ref (r + 8), aI 0, aL 0, aI 0, aI 0, aI 0, .ref (r + 9), .null, .null, .null, .null]) := e74
  have F74 : ∀ q, q ≠ r → q < r + 9 → h74 q = h65 q := fun q g1 g2 => (k74 q g1).trans (k72 q (by omega))
  have B74 := (k74 (r + 9) (by omega)).trans e72
  refine A_al0 X dX11_init_77 ?_
  refine A_sipush X dX11_init_78 ?_
  refine A_newai X 4096 rfl dX11_init_81 ?_ oiW.2.2
  refine A_nn (n2 := r + 11) rfl ?_
  refine A_gen (fun h81 e81 k81 q81 => ?_)
  have S81 : h81 r = some (aOb 11 [.ref (r + 1), .ref (r + 2), .ref (r + 3), .ref (r + 4), aI 0, .ref (r + 5), .ref (r + 6), .ref (r + 7), aI 0, .ref (r + 8), aI 0, aL 0, aI 0, aI 0, aI 0, .ref (r + 9), .null, .null, .null, .null]) := (k81 _ (by omega)).trans T74
  refine A_putF X flX11_38 S81 dX11_init_83 ?_ (noN _ _ (by decide +kernel))
  refine A_gen (fun h83 e83 k83 q83 => ?_)
  have T83 : h83 r = some (aOb 11 [.ref (r + 1), .ref (r + 2), .ref (r + 3), .ref (r + 4), aI 0, .ref (r + 5), .ref (r + 6), .ref (r + 7), aI 0, .ref (r + 8), aI 0, aL 0, aI 0, aI 0, aI 0, .ref (r + 9), .ref (r + 10), .null, .null, .null]) := e83
  have F83 : ∀ q, q ≠ r → q < r + 10 → h83 q = h74 q := fun q g1 g2 => (k83 q g1).trans (k81 q (by omega))
  have B83 := (k83 (r + 10) (by omega)).trans e81
  refine A_al0 X dX11_init_86 ?_
  refine A_sipush X dX11_init_87 ?_
  refine A_newai X 4096 rfl dX11_init_90 ?_ oiW.2.2
  refine A_nn (n2 := r + 12) rfl ?_
  refine A_gen (fun h90 e90 k90 q90 => ?_)
  have S90 : h90 r = some (aOb 11 [.ref (r + 1), .ref (r + 2), .ref (r + 3), .ref (r + 4), aI 0, .ref (r + 5), .ref (r + 6), .ref (r + 7), aI 0, .ref (r + 8), aI 0, aL 0, aI 0, aI 0, aI 0, .ref (r + 9), .ref (r + 10), .null, .null, .null]) := (k90 _ (by omega)).trans T83
  refine A_putF X flX11_41 S90 dX11_init_92 ?_ (noN _ _ (by decide +kernel))
  refine A_gen (fun h92 e92 k92 q92 => ?_)
  have T92 : h92 r = some (aOb 11 [.ref (r + 1), .ref (r + 2), .ref (r + 3), .ref (r + 4), aI 0, .ref (r + 5), .ref (r + 6), .ref (r + 7), aI 0, .ref (r + 8), aI 0, aL 0, aI 0, aI 0, aI 0, .ref (r + 9), .ref (r + 10), .ref (r + 11), .null, .null]) := e92
  have F92 : ∀ q, q ≠ r → q < r + 11 → h92 q = h83 q := fun q g1 g2 => (k92 q g1).trans (k90 q (by omega))
  have B92 := (k92 (r + 11) (by omega)).trans e90
  refine A_al0 X dX11_init_95 ?_
  refine A_sipush X dX11_init_96 ?_
  refine A_newaz X 1000 rfl dX11_init_99 ?_ azw
  refine A_nn (n2 := r + 13) rfl ?_
  refine A_gen (fun h99 e99 k99 q99 => ?_)
  have S99 : h99 r = some (aOb 11 [.ref (r + 1), .ref (r + 2), .ref (r + 3), .ref (r + 4), aI 0, .ref (r + 5), .ref (r + 6), .ref (r + 7), aI 0, .ref (r + 8), aI 0, aL 0, aI 0, aI 0, aI 0, .ref (r + 9), .ref (r + 10), .ref (r + 11), .null, .null]) := (k99 _ (by omega)).trans T92
  refine A_putF X flX11_44 S99 dX11_init_101 ?_ (noN _ _ (by decide +kernel))
  refine A_gen (fun h101 e101 k101 q101 => ?_)
  have T101 : h101 r = some (aOb 11 [.ref (r + 1), .ref (r + 2), .ref (r + 3), .ref (r + 4), aI 0, .ref (r + 5), .ref (r + 6), .ref (r + 7), aI 0, .ref (r + 8), aI 0, aL 0, aI 0, aI 0, aI 0, .ref (r + 9), .ref (r + 10), .ref (r + 11), .ref (r + 12), .null]) := e101
  have F101 : ∀ q, q ≠ r → q < r + 12 → h101 q = h92 q := fun q g1 g2 => (k101 q g1).trans (k99 q (by omega))
  have B101 := (k101 (r + 12) (by omega)).trans e99
  refine A_al0 X dX11_init_104 ?_
  refine A_sipush X dX11_init_105 ?_
  refine A_newaz X 1000 rfl dX11_init_108 ?_ azw
  refine A_nn (n2 := r + 14) rfl ?_
  refine A_gen (fun h108 e108 k108 q108 => ?_)
  have S108 : h108 r = some (aOb 11 [.ref (r + 1), .ref (r + 2), .ref (r + 3), .ref (r + 4), aI 0, .ref (r + 5), .ref (r + 6), .ref (r + 7), aI 0, .ref (r + 8), aI 0, aL 0, aI 0, aI 0, aI 0, .ref (r + 9), .ref (r + 10), .ref (r + 11), .ref (r + 12), .null]) := (k108 _ (by omega)).trans T101
  refine A_putF X flX11_47 S108 dX11_init_110 ?_ (noN _ _ (by decide +kernel))
  refine A_gen (fun h110 e110 k110 q110 => ?_)
  have T110 : h110 r = some (aOb 11 [.ref (r + 1), .ref (r + 2), .ref (r + 3), .ref (r + 4), aI 0, .ref (r + 5), .ref (r + 6), .ref (r + 7), aI 0, .ref (r + 8), aI 0, aL 0, aI 0, aI 0, aI 0, .ref (r + 9), .ref (r + 10), .ref (r + 11), .ref (r + 12), .ref (r + 13)]) := e110
  have F110 : ∀ q, q ≠ r → q < r + 13 → h110 q = h101 q := fun q g1 g2 => (k110 q g1).trans (k108 q (by omega))
  have B110 := (k110 (r + 13) (by omega)).trans e108
  have G110 : ∀ q, q ≠ r → q < r + 14 → h110 q = h110 q := fun q g1 g2 => rfl
  have G101 : ∀ q, q ≠ r → q < r + 13 → h110 q = h101 q := fun q g1 g2 => (G110 q g1 (by omega)).trans (F110 q g1 (by omega))
  have G92 : ∀ q, q ≠ r → q < r + 12 → h110 q = h92 q := fun q g1 g2 => (G101 q g1 (by omega)).trans (F101 q g1 (by omega))
  have G83 : ∀ q, q ≠ r → q < r + 11 → h110 q = h83 q := fun q g1 g2 => (G92 q g1 (by omega)).trans (F92 q g1 (by omega))
  have G74 : ∀ q, q ≠ r → q < r + 10 → h110 q = h74 q := fun q g1 g2 => (G83 q g1 (by omega)).trans (F83 q g1 (by omega))
  have G65 : ∀ q, q ≠ r → q < r + 9 → h110 q = h65 q := fun q g1 g2 => (G74 q g1 (by omega)).trans (F74 q g1 (by omega))
  have G57 : ∀ q, q ≠ r → q < r + 8 → h110 q = h57 q := fun q g1 g2 => (G65 q g1 (by omega)).trans (F65 q g1 (by omega))
  have G48 : ∀ q, q ≠ r → q < r + 7 → h110 q = h48 q := fun q g1 g2 => (G57 q g1 (by omega)).trans (F57 q g1 (by omega))
  have G41 : ∀ q, q ≠ r → q < r + 6 → h110 q = h41 q := fun q g1 g2 => (G48 q g1 (by omega)).trans (F48 q g1 (by omega))
  have G33 : ∀ q, q ≠ r → q < r + 5 → h110 q = h33 q := fun q g1 g2 => (G41 q g1 (by omega)).trans (F41 q g1 (by omega))
  have G25 : ∀ q, q ≠ r → q < r + 4 → h110 q = h25 q := fun q g1 g2 => (G33 q g1 (by omega)).trans (F33 q g1 (by omega))
  have G17 : ∀ q, q ≠ r → q < r + 3 → h110 q = h17 q := fun q g1 g2 => (G25 q g1 (by omega)).trans (F25 q g1 (by omega))
  have G9 : ∀ q, q ≠ r → q < r + 2 → h110 q = h9 q := fun q g1 g2 => (G17 q g1 (by omega)).trans (F17 q g1 (by omega))
  have C1 := (G9 (r + 1) (by omega) (by omega)).trans B9
  have C2 := (G17 (r + 2) (by omega) (by omega)).trans B17
  have C3 := (G25 (r + 3) (by omega) (by omega)).trans B25
  have C4 := (G33 (r + 4) (by omega) (by omega)).trans B33
  have C5 := (G41 (r + 5) (by omega) (by omega)).trans B41
  have C6 := (G48 (r + 6) (by omega) (by omega)).trans B48
  have C7 := (G57 (r + 7) (by omega) (by omega)).trans B57
  have C8 := (G65 (r + 8) (by omega) (by omega)).trans B65
  have C9 := (G74 (r + 9) (by omega) (by omega)).trans B74
  have C10 := (G83 (r + 10) (by omega) (by omega)).trans B83
  have C11 := (G92 (r + 11) (by omega) (by omega)).trans B92
  have C12 := (G101 (r + 12) (by omega) (by omega)).trans B101
  have C13 := (G110 (r + 13) (by omega) (by omega)).trans B110
  refine A_al0 X dX11_init_113 ?_
  refine A_getf X flX11_7 T110 rfl dX11_init_114 ?_
  refine A_eSv1 X (m_clean C1) knX11_clean mlX11_50 dX11_init_117 (fun hc pc => ?_)
  obtain ⟨c1, cq⟩ := pc
  refine A_al0 X dX11_init_120 ?_
  have TC : hc r = some (aOb 11 (mO r 0 0 0 0 0 0 0)) := (cq _ (by omega)).trans T110
  refine A_eVv0 X (m_begins TC ((cq _ (by omega)).trans C3) ((cq _ (by omega)).trans C6)) TC knX11_begins mlX11_54 dX11_init_121 (fun hb pb => ?_)
  obtain ⟨b1, b2, b3, bq⟩ := pb
  refine A_retv X dX11_init_124 rfl ⟨rfl, rfl, ⟨0, 0, 0, _, _, _, _, _, _, b1, (bq (r + 1) (by omega) (by omega) (by omega)).trans c1, (bq (r + 2) (by omega) (by omega) (by omega)).trans ((cq (r + 2) (by omega)).trans C2), b2, (bq (r + 4) (by omega) (by omega) (by omega)).trans ((cq (r + 4) (by omega)).trans C4), (bq (r + 5) (by omega) (by omega) (by omega)).trans ((cq (r + 5) (by omega)).trans C5), b3, (bq (r + 7) (by omega) (by omega) (by omega)).trans ((cq (r + 7) (by omega)).trans C7), (bq (r + 8) (by omega) (by omega) (by omega)).trans ((cq (r + 8) (by omega)).trans C8), (bq (r + 9) (by omega) (by omega) (by omega)).trans ((cq (r + 9) (by omega)).trans C9), (bq (r + 10) (by omega) (by omega) (by omega)).trans ((cq (r + 10) (by omega)).trans C10), (bq (r + 11) (by omega) (by omega) (by omega)).trans ((cq (r + 11) (by omega)).trans C11), (bq (r + 12) (by omega) (by omega) (by omega)).trans ((cq (r + 12) (by omega)).trans C12), (bq (r + 13) (by omega) (by omega) (by omega)).trans ((cq (r + 13) (by omega)).trans C13)⟩, fun q hq => ?_⟩
  rw [bq q (by omega) (by omega) (by omega), cq q (by omega), G9 q (by omega) (by omega), F9 q (by omega) (by omega)]
