/-! constructors -/
theorem oiW : Cond.instanceMethod Lib.objectInit ∈ lw_tbl ∧ Cond.code Lib.objectInit ⟨#[0xb1]⟩ 1 none ∈ lw_tbl ∧ Cond.arrayClass .int ∈ lw_tbl := by decide +kernel
theorem noN (own : String) (idx : Nat) (h : ((lw_tbl.any fun w => match w with | .fieldLinkNest o i _ _ _ _ => o == own && i == idx | _ => false) = false)) : ∀ a b c host, ¬ Cond.fieldLinkNest own idx a b c host ∈ lw_tbl := by
  intro a b c host hm
  have := List.any_eq_false.mp h _ hm
  simp at this
set_option maxRecDepth 100000 in
theorem i_now {G : aG} {d n : Nat} {h : AH} {r : Nat} (hr : n = r + 1) (h_this : h r = some (aOb 3 [.null, .null, aI 0, aI 0])) : aCt G (d + 1) kX3_init 2 66 [.ref r] n h (fun v' n' h' => v' = none ∧ n' = r + 3 ∧ nowX G h' r 0 ∧ ∀ q, q < r → h' q = h q) := by
  subst hr
  refine aCt_of (lv := [some (.ref r)]) knX3_init.1 rfl rfl (Nat.le_of_ble_eq_true rfl) (fun x hG hsc X => ?_)
  subst hG
  refine A_al0 X dX3_init_0 ?_
  refine A_objInit X mlX3_3 oiW.1 oiW.2.1 dX3_init_1 ?_
  refine A_al0 X dX3_init_4 ?_
  refine A_bipush X dX3_init_5 ?_
  refine A_newai X 6 rfl dX3_init_7 ?_ oiW.2.2
  refine A_gen (fun h7 e7 k7 q7 => ?_)
  refine A_putF X flX3_9 ((k7 _ (by omega)).trans h_this) dX3_init_9 ?_ (noN _ _ (by decide +kernel))
  refine A_gen (fun h9 e9 k9 q9 => ?_)
  refine A_al0 X dX3_init_12 ?_
  refine A_bipush X dX3_init_13 ?_
  refine A_newai X 60 rfl dX3_init_15 ?_ oiW.2.2
  refine A_gen (fun h15 e15 k15 q15 => ?_)
  refine A_putF X flX3_15 ((k15 _ (by omega)).trans e9) dX3_init_17 ?_ (noN _ _ (by decide +kernel))
  refine A_gen (fun h17 e17 k17 q17 => ?_)
  exact A_retv X dX3_init_20 rfl ⟨rfl, rfl, ⟨0, fun _ => 0, fun _ => 0, e17, (k17 _ (by omega)).trans ((k15 _ (by omega)).trans ((k9 _ (by omega)).trans e7)), (k17 _ (by omega)).trans e15⟩, fun q hq => by rw [k17 q (by omega), k15 q (by omega), k9 q (by omega), k7 q (by omega)]⟩
