/-! constructors: suits, judges -/
set_option maxRecDepth 100000 in
theorem i_suit {G : aG} {d n : Nat} {h : AH} {r : Nat} (hr : n = r + 1) (h_this : h r = some (aOb 6 [aI 0, aI 0, aI 0, aI 0, .null, .null, .null, .null])) : aCt G (d + 1) kX6_init 4 152 [.ref r] n h (fun v' n' h' => v' = none ∧ n' = r + 5 ∧ suC G h' r clF ∧ ∀ q, q < r → h' q = h q) := by
  subst hr
  refine aCt_of (lv := [some (.ref r)]) knX6_init.1 rfl rfl (Nat.le_of_ble_eq_true rfl) (fun x hG hsc X => ?_)
  subst hG
  refine A_al0 X dX6_init_0 ?_
  refine A_objInit X mlX6_3 oiW.1 oiW.2.1 dX6_init_1 ?_
  refine A_al0 X dX6_init_4 ?_
  refine A_bipush X dX6_init_5 ?_
  refine A_newai X 12 rfl dX6_init_7 ?_ oiW.2.2
  refine A_gen (fun h7 e7 k7 q7 => ?_)
  refine A_putF X flX6_9 ((k7 _ (by omega)).trans h_this) dX6_init_9 ?_ (noN _ _ (by decide +kernel))
  refine A_gen (fun h9 e9 k9 q9 => ?_)
  refine A_al0 X dX6_init_12 ?_
  refine A_iconst X dX6_init_13 ?_
  refine A_newai X 4 rfl dX6_init_14 ?_ oiW.2.2
  refine A_gen (fun h14 e14 k14 q14 => ?_)
  refine A_putF X flX6_15 ((k14 _ (by omega)).trans e9) dX6_init_16 ?_ (noN _ _ (by decide +kernel))
  refine A_gen (fun h16 e16 k16 q16 => ?_)
  refine A_al0 X dX6_init_19 ?_
  refine A_bipush X dX6_init_20 ?_
  refine A_newai X 8 rfl dX6_init_22 ?_ oiW.2.2
  refine A_gen (fun h22 e22 k22 q22 => ?_)
  refine A_putF X flX6_18 ((k22 _ (by omega)).trans e16) dX6_init_24 ?_ (noN _ _ (by decide +kernel))
  refine A_gen (fun h24 e24 k24 q24 => ?_)
  refine A_al0 X dX6_init_27 ?_
  refine A_sipush X dX6_init_28 ?_
  refine A_newai X 128 rfl dX6_init_31 ?_ oiW.2.2
  refine A_gen (fun h31 e31 k31 q31 => ?_)
  refine A_putF X flX6_21 ((k31 _ (by omega)).trans e24) dX6_init_33 ?_ (noN _ _ (by decide +kernel))
  refine A_gen (fun h33 e33 k33 q33 => ?_)
  have r1 := (k33 _ (by omega)).trans ((k31 _ (by omega)).trans ((k24 _ (by omega)).trans ((k22 _ (by omega)).trans ((k16 _ (by omega)).trans ((k14 _ (by omega)).trans ((k9 _ (by omega)).trans e7))))))
  have r2 := (k33 _ (by omega)).trans ((k31 _ (by omega)).trans ((k24 _ (by omega)).trans ((k22 _ (by omega)).trans ((k16 _ (by omega)).trans e14))))
  have r3 := (k33 _ (by omega)).trans ((k31 _ (by omega)).trans ((k24 _ (by omega)).trans e22))
  have r4 := (k33 _ (by omega)).trans e31
  refine A_al0 X dX6_init_36 ?_
  refine A_eVv0 X (s_begin ⟨0, 0, 0, 0, _, _, _, _, e33, r1, r2, r3, r4⟩) e33 knX6_begin mlX6_24 dX6_init_37 (fun h37 p37 => ?_)
  obtain ⟨⟨fw, fq, fm, fv, hA, -⟩, hq⟩ := p37
  refine A_retv X dX6_init_40 rfl ⟨rfl, rfl, ⟨fun _ => 0, fun _ => 0, fun _ => 0, fun _ => 0, ⟨hA.1, (hq _ (by omega)).trans r1, (hq _ (by omega)).trans r2, (hq _ (by omega)).trans r3, (hq _ (by omega)).trans r4⟩, ⟨fun side k _ h1 h2 => absurd h2 (by simp [clF]; omega), fun p h1 h2 => absurd h2 (by simp [clF]; omega), fun side p _ h1 h2 => absurd h2 (by simp [clF]; omega)⟩, fun side set hs hset => ?_⟩, fun q hq2 => by rw [hq q (by omega), k33 q (by omega), k31 q (by omega), k24 q (by omega), k22 q (by omega), k16 q (by omega), k14 q (by omega), k9 q (by omega), k7 q (by omega)]⟩
  have e1 : al clF = 1 := by decide
  have : set = 0 := by omega
  subst this
  exact (vl_0 clF side).symm
