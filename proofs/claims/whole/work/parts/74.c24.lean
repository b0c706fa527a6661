/-! constructors -/
theorem oiW : Cond.instanceMethod Lib.objectInit ∈ lw_tbl ∧ Cond.code Lib.objectInit ⟨#[0xb1]⟩ 1 none ∈ lw_tbl ∧ Cond.arrayClass .int ∈ lw_tbl := by decide +kernel
theorem noN (own : String) (idx : Nat) (h : ((lw_tbl.any fun w => match w with | .fieldLinkNest o i _ _ _ _ => o == own && i == idx | _ => false) = false)) : ∀ a b c host, ¬ Cond.fieldLinkNest own idx a b c host ∈ lw_tbl := by
  intro a b c host hm
  have := List.any_eq_false.mp h _ hm
  simp at this
set_option maxRecDepth 100000 in
theorem i_now {G : aG} {d n : Nat} {h : AH} {r : Nat} (hr : n = r + 1) (h_this : h r = some (aOb 3 [.null, .null, aI 0, aI 0])) : aCt G (d + 1) kX3_init 2 66 [.ref r] n h (fun v' n' h' => v' = none ∧ n' = r + 3 ∧ nowX G h' r 0 ∧ ∀ q, q < r → h' q = h q) := by
  subst hr
  refine aCt_of (lv := [some (.ref r)]) knX3_init.1 rfl rfl (Nat.le_of_ble_eq_true rfl) (fun x hG hsc X => ?_)
  subst hG
  refine A_al0 X dX3_init_0 ?_
  refine A_objInit X mlX3_3 oiW.1 oiW.2.1 dX3_init_1 ?_
  refine A_al0 X dX3_init_4 ?_
  refine A_bipush X dX3_init_5 ?_
  refine A_newai X 6 rfl dX3_init_7 ?_ oiW.2.2
  refine A_gen (fun h7 e7 k7 q7 => ?_)
  refine A_putF X flX3_9 ((k7 _ (by omega)).trans h_this) dX3_init_9 ?_ (noN _ _ (by decide +kernel))
  refine A_gen (fun h9 e9 k9 q9 => ?_)
  refine A_al0 X dX3_init_12 ?_
  refine A_bipush X dX3_init_13 ?_
  refine A_newai X 60 rfl dX3_init_15 ?_ oiW.2.2
  refine A_gen (fun h15 e15 k15 q15 => ?_)
  refine A_putF X flX3_15 ((k15 _ (by omega)).trans e9) dX3_init_17 ?_ (noN _ _ (by decide +kernel))
  refine A_gen (fun h17 e17 k17 q17 => ?_)
  exact A_retv X dX3_init_20 rfl ⟨rfl, rfl, ⟨0, fun _ => 0, fun _ => 0, e17, (k17 _ (by omega)).trans ((k15 _ (by omega)).trans ((k9 _ (by omega)).trans e7)), (k17 _ (by omega)).trans e15⟩, fun q hq => by rw [k17 q (by omega), k15 q (by omega), k9 q (by omega), k7 q (by omega)]⟩
set_option maxRecDepth 100000 in
theorem i_partings {G : aG} {d n : Nat} {h : AH} {r : Nat} (hr : n = r + 1) (h_this : h r = some (aOb 4 [.null, .null, .null, aI 0, aI 0, aI 0])) : aCt G (d + 1) kX4_init 3 192 [.ref r] n h (fun v' n' h' => v' = none ∧ n' = r + 4 ∧ (h' r = some (aOb 4 (pO r 0 0 0)) ∧ h' (r + 1) = some (aIa G 64 (fun _ => 0)) ∧ h' (r + 2) = some (aIa G 64 (fun _ => 0)) ∧ h' (r + 3) = some (aIa G 64 (fun _ => 0))) ∧ ∀ q, q < r → h' q = h q) := by
  subst hr
  refine aCt_of (lv := [some (.ref r)]) knX4_init.1 rfl rfl (Nat.le_of_ble_eq_true rfl) (fun x hG hsc X => ?_)
  subst hG
  refine A_al0 X dX4_init_0 ?_
  refine A_objInit X mlX4_3 oiW.1 oiW.2.1 dX4_init_1 ?_
  refine A_al0 X dX4_init_4 ?_
  refine A_bipush X dX4_init_5 ?_
  refine A_newai X 64 rfl dX4_init_7 ?_ oiW.2.2
  refine A_gen (fun h7 e7 k7 q7 => ?_)
  refine A_putF X flX4_9 ((k7 _ (by omega)).trans h_this) dX4_init_9 ?_ (noN _ _ (by decide +kernel))
  refine A_gen (fun h9 e9 k9 q9 => ?_)
  refine A_al0 X dX4_init_12 ?_
  refine A_bipush X dX4_init_13 ?_
  refine A_newai X 64 rfl dX4_init_15 ?_ oiW.2.2
  refine A_gen (fun h15 e15 k15 q15 => ?_)
  refine A_putF X flX4_15 ((k15 _ (by omega)).trans e9) dX4_init_17 ?_ (noN _ _ (by decide +kernel))
  refine A_gen (fun h17 e17 k17 q17 => ?_)
  refine A_al0 X dX4_init_20 ?_
  refine A_bipush X dX4_init_21 ?_
  refine A_newai X 64 rfl dX4_init_23 ?_ oiW.2.2
  refine A_gen (fun h23 e23 k23 q23 => ?_)
  refine A_putF X flX4_18 ((k23 _ (by omega)).trans e17) dX4_init_25 ?_ (noN _ _ (by decide +kernel))
  refine A_gen (fun h25 e25 k25 q25 => ?_)
  exact A_retv X dX4_init_28 rfl ⟨rfl, rfl, ⟨e25, (k25 _ (by omega)).trans ((k23 _ (by omega)).trans ((k17 _ (by omega)).trans ((k15 _ (by omega)).trans ((k9 _ (by omega)).trans e7)))), (k25 _ (by omega)).trans ((k23 _ (by omega)).trans ((k17 _ (by omega)).trans e15)), (k25 _ (by omega)).trans e23⟩, fun q hq => by rw [k25 q (by omega), k23 q (by omega), k17 q (by omega), k15 q (by omega), k9 q (by omega), k7 q (by omega)]⟩
set_option maxRecDepth 100000 in
theorem i_reader {G : aG} {d n : Nat} {h : AH} {r : Nat} (hr : n = r + 1) (h_this : h r = some (aOb 5 [.null, aI 0, aI 0, aI 0, aI 0, aI 0, aI 0, aI 0])) : aCt G (d + 1) kX5_init 1 200 [.ref r] n h (fun v' n' h' => v' = none ∧ n' = r + 2 ∧ (h' r = some (aOb 5 (rO r 0 0 0 0 0 0 0)) ∧ h' (r + 1) = some (aIa G 200 (fun _ => 0))) ∧ ∀ q, q < r → h' q = h q) := by
  subst hr
  refine aCt_of (lv := [some (.ref r)]) knX5_init.1 rfl rfl (Nat.le_of_ble_eq_true rfl) (fun x hG hsc X => ?_)
  subst hG
  refine A_al0 X dX5_init_0 ?_
  refine A_objInit X mlX5_3 oiW.1 oiW.2.1 dX5_init_1 ?_
  refine A_al0 X dX5_init_4 ?_
  refine A_sipush X dX5_init_5 ?_
  refine A_newai X 200 rfl dX5_init_8 ?_ oiW.2.2
  refine A_gen (fun h8 e8 k8 q8 => ?_)
  refine A_putF X flX5_9 ((k8 _ (by omega)).trans h_this) dX5_init_10 ?_ (noN _ _ (by decide +kernel))
  refine A_gen (fun h10 e10 k10 q10 => ?_)
  exact A_retv X dX5_init_13 rfl ⟨rfl, rfl, ⟨e10, (k10 _ (by omega)).trans e8⟩, fun q hq => by rw [k10 q (by omega), k8 q (by omega)]⟩
