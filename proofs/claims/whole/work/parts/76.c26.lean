/-! constructors: judges -/
set_option maxRecDepth 100000 in
theorem i_judge {G : aG} {d n : Nat} {h : AH} {r : Nat} : aE G (d + 1) kX1_init [.ref r] n h none (fun h' => h' = h) := by
  refine aCt_of (lv := [some (.ref r)]) knX1_init.1 rfl rfl (Nat.le_of_ble_eq_true rfl) (fun x hG hsc X => ?_)
  subst hG
  refine A_al0 X dX1_init_0 ?_
  refine A_objInit X mlX1_1 oiW.1 oiW.2.1 dX1_init_1 ?_
  exact A_retv X dX1_init_4 rfl ⟨rfl, rfl, rfl⟩
set_option maxRecDepth 100000 in
theorem i_cobbler {G : aG} {d n : Nat} {h : AH} {r : Nat} : aE G (d + 2) kX0_init [.ref r] n h none (fun h' => h' = h) := by
  refine aCt_of (lv := [some (.ref r)]) knX0_init.1 rfl rfl (Nat.le_of_ble_eq_true rfl) (fun x hG hsc X => ?_)
  subst hG
  refine A_al0 X dX0_init_0 ?_
  refine A_callIN (As := []) (st := []) X (i_judge (d := d)) knX1_init rfl rfl mlX0_1 dX0_init_1 (fun v n' h' hp => ?_)
  obtain ⟨rfl, rfl, rfl⟩ := hp
  exact A_retv X dX0_init_4 rfl ⟨rfl, rfl, rfl⟩
set_option maxRecDepth 100000 in
theorem i_umbrella {G : aG} {d n : Nat} {h : AH} {r : Nat} : aE G (d + 2) kX9_init [.ref r] n h none (fun h' => h' = h) := by
  refine aCt_of (lv := [some (.ref r)]) knX9_init.1 rfl rfl (Nat.le_of_ble_eq_true rfl) (fun x hG hsc X => ?_)
  subst hG
  refine A_al0 X dX9_init_0 ?_
  refine A_callIN (As := []) (st := []) X (i_judge (d := d)) knX1_init rfl rfl mlX9_1 dX9_init_1 (fun v n' h' hp => ?_)
  obtain ⟨rfl, rfl, rfl⟩ := hp
  exact A_retv X dX9_init_4 rfl ⟨rfl, rfl, rfl⟩
set_option maxRecDepth 100000 in
theorem i_third {G : aG} {d n : Nat} {h : AH} {r : Nat} : aE G (d + 2) kX7_init [.ref r] n h none (fun h' => h' = h) := by
  refine aCt_of (lv := [some (.ref r)]) knX7_init.1 rfl rfl (Nat.le_of_ble_eq_true rfl) (fun x hG hsc X => ?_)
  subst hG
  refine A_al0 X dX7_init_0 ?_
  refine A_callIN (As := []) (st := []) X (i_judge (d := d)) knX1_init rfl rfl mlX7_3 dX7_init_1 (fun v n' h' hp => ?_)
  obtain ⟨rfl, rfl, rfl⟩ := hp
  exact A_retv X dX7_init_4 rfl ⟨rfl, rfl, rfl⟩
set_option maxRecDepth 100000 in
theorem i_master {G : aG} {d n : Nat} {h : AH} {r : Nat} : aE G (d + 3) kX2_init [.ref r] n h none (fun h' => h' = h) := by
  refine aCt_of (lv := [some (.ref r)]) knX2_init.1 rfl rfl (Nat.le_of_ble_eq_true rfl) (fun x hG hsc X => ?_)
  subst hG
  refine A_al0 X dX2_init_0 ?_
  refine A_callIN (As := []) (st := []) X (i_cobbler (d := d)) knX0_init rfl rfl mlX2_1 dX2_init_1 (fun v n' h' hp => ?_)
  obtain ⟨rfl, rfl, rfl⟩ := hp
  exact A_retv X dX2_init_4 rfl ⟨rfl, rfl, rfl⟩
set_option maxRecDepth 100000 in
theorem i_torn {G : aG} {d n : Nat} {h : AH} {r : Nat} : aE G (d + 3) kX8_init [.ref r] n h none (fun h' => h' = h) := by
  refine aCt_of (lv := [some (.ref r)]) knX8_init.1 rfl rfl (Nat.le_of_ble_eq_true rfl) (fun x hG hsc X => ?_)
  subst hG
  refine A_al0 X dX8_init_0 ?_
  refine A_callIN (As := []) (st := []) X (i_umbrella (d := d)) knX9_init rfl rfl mlX8_1 dX8_init_1 (fun v n' h' hp => ?_)
  obtain ⟨rfl, rfl, rfl⟩ := hp
  exact A_retv X dX8_init_4 rfl ⟨rfl, rfl, rfl⟩
