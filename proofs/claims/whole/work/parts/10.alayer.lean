/-! THE ABSTRACT LAYER: a method is walked over a heap that is a function from addresses to cells, with whole numbers (Int) for ints; every row hides the machine's own words. -/
abbrev AH : Type := Nat → Option va_E
abbrev aG : Type := Launch × va_G × (ClassId × ClassId × ClassId) × Nat
abbrev aX : Type := aG × (Heap → List Loc → Nat → Nat → JFrame → Prop) × MethodId × Nat × Heap × Option (Nat × Nat × (Nat → Int32))
abbrev aI (z : Int) : Value := .int (Int32.ofInt z)
abbrev aL (z : Int) : Value := .long (Int64.ofInt z)
abbrev inR (z : Int) : Prop := -2147483648 ≤ z ∧ z < 2147483648
def aup (h : AH) (a : Nat) (e : va_E) : AH := fun q => if q = a then some e else h q
theorem aup_s (h : AH) (a : Nat) (e : va_E) : aup h a e a = some e := by simp [aup]
theorem aup_n {h : AH} {a q : Nat} {e : va_E} (hq : q ≠ a) : aup h a e q = h q := by simp [aup, hq]
def aIa (G : aG) (n : Nat) (f : Int → Int) : va_E := .inl (G.2.2.1.1, n, .inl (fun k => Int32.ofInt (f (k : Int))))
def aZa (G : aG) (n : Nat) (f : Int → Int) : va_E := .inl (G.2.2.1.2.1, n, .inl (fun k => Int32.ofInt (f (k : Int))))
def aJa (G : aG) (n : Nat) (f : Nat → Option Nat) : va_E := .inl (G.2.2.1.2.2, n, .inr (.inr (.inr (.inr f))))
def aOb (ci : Nat) (fs : List Value) : va_E := .inr (ci, fs)
def aTys (G : aG) : List (ClassId × FieldType) := [(G.2.2.1.1, .int), (G.2.2.1.2.1, .boolean), (G.2.2.1.2.2, .object RX1)]
def aRep (G : aG) (n : Nat) (h : AH) (H : Heap) : Prop := H.size = n ∧ G.2.2.2 ≤ n ∧ ∀ (a : Nat) (e : va_E), h a = some e → G.2.2.2 ≤ a ∧ va_at G.2.1 vwCl (a, e) H
abbrev aA (G : aG) : Nat → Prop := fun q => G.2.2.2 ≤ q
def lo_has (ls : Array Slot) (nL : Nat) (lv : List (Option Value)) : Prop := lv.length = nL ∧ ls.size = nL ∧ lv_wf ls ∧ ∀ (i : Nat) (v : Value), lv[i]? = some (some v) → ls[i]? = some (.val v)
def AW (x : aX) (cs ss n : Nat) (h : AH) (pc : Nat) (lv : List (Option Value)) (st : List Value) : Prop :=
  ∀ (H : Heap) (locs : List Loc) (ls : Array Slot), aRep x.1 n h H → va_S (aA x.1) x.2.2.2.2.1 H locs → lo_has ls x.2.2.2.1 lv → x.2.1 H locs cs ss (F0 x.2.2.1 pc ls st)
def aRet (cc : ByteArray) (pc : Nat) (ret : Option FieldType) (v : Option Value) : Prop := match ret, v with
  | none, none => decode cc pc = .ok (.return_, 1)
  | some .int, some (.int _) => decode cc pc = .ok (.ireturn, 1)
  | some .boolean, some (.int k) => decode cc pc = .ok (.ireturn, 1) ∧ narrow .boolean (.int k) = .int k
  | some .long, some (.long _) => decode cc pc = .ok (.lreturn, 1)
  | some (.object _), some (.ref _) => decode cc pc = .ok (.areturn, 1)
  | _, _ => False
abbrev aPost : Type := Option Value → Nat → AH → Prop
def aOk (x : aX) (d : Nat) (cc : ByteArray) (own nm : String) (ret : Option FieldType) (mc ms : Nat) (post : aPost) : Prop :=
  ∃ (p : Program) (e : Env) (R : Room) (s : State) (args : Array Value) (below : List Frame) (meth : Method) (c : Code) (Q : State → Prop),
    (∀ (H : Heap) (locs : List Loc) (cs ss : Nat) (g : JFrame), x.2.1 H locs cs ss g ↔ W p x.1.1 e R s x.2.2.1 args below meth c H locs cs ss Q g) ∧
    p.tables.exec = Jvm.exec ∧ c.code = cc ∧ c.maxLocals = x.2.2.2.1 ∧ s.vm.findClass own = some x.2.2.1.cls ∧ (∀ u ∈ lw_gn, u.before args s = true) ∧ va_K x.1.2.1 vwCl (aTys x.1) s ∧
    s.heap = x.2.2.2.2.1 ∧ (∀ (b L : Nat) (xs : Nat → Int32), x.2.2.2.2.2 = some (b, L, xs) → va_X b L xs s s.heap ∧ b < s.heap.size ∧ ¬ aA x.1 b ∧ L < 2147483648) ∧ meth.name = nm ∧ (d ≤ R.frames ∧ 40 * d ≤ R.locals ∧ mc ≤ R.cells ∧ ms ≤ R.slots) ∧
    (∀ (H : Heap) (locs : List Loc) (h : AH) (n : Nat) (v : Option Value) (pc : Nat) (ls : Array Slot), post v n h → aRep x.1 n h H → va_S (aA x.1) x.2.2.2.2.1 H locs → aRet cc pc ret v → x.2.1 H locs mc ms (F0 x.2.2.1 pc ls v.toList))
def aN (U : State) : Prop := ∀ w ∈ lw_tbl, aNk w = true → va_Nw w U
theorem aN.warm {s U : State} (hW : s.WarmedH U.vm) (h : aN s) : aN U := by
  intro w hw hk
  have h1 := h w hw hk
  cases w <;> first | (exfalso; revert hk; simp [aNk]; done) | exact va_Nw.warmF hW h1 | exact va_Nw.warmM hW h1 | exact va_Nw.warmC hW h1 | (rename_i ty; cases ty <;> first | (exfalso; revert hk; simp [aNk]; done) | exact va_AO.moved hW.alike h1)
theorem aN.same {s U : State} (hv : s.vm = U.vm) (h : aN s) : aN U := by
  intro w hw hk
  have h1 := h w hw hk
  cases w <;> first | (exfalso; revert hk; simp [aNk]; done) | exact va_Nw.same rfl hv h1 | (rename_i ty; cases ty <;> first | (exfalso; revert hk; simp [aNk]; done) | exact va_AO.moved (by rw [hv]; exact Vm.Alike.refl _) h1)
/-- a method's contract over the abstract heap -/
def aCt (G : aG) (d : Nat) (k : aM) (mc ms : Nat) (av : List Value) (n : Nat) (h : AH) (post : aPost) : Prop :=
  Met G.1 k.1 (Cond.code k.1 k.2.1 k.2.2.1 k.2.2.2 :: lw_gt) { frames := d, cells := mc, slots := ms, locals := 40 * d }
    (va_Pc av (fun U => aRep G n h U.heap ∧ va_K G.2.1 vwCl (aTys G) U ∧ aN U))
    (fun _ st oc t => (∃ (v : Option Value) (n' : Nat) (h' : AH), oc = .returned v ∧ post v n' h' ∧ aRep G n' h' t.heap) ∧ va_F (aA G) st t) mc ms (aA G)
/-- the contract of a method that makes nothing: its answer, and what holds of the heap behind it -/
def aE (G : aG) (d : Nat) (k : aM) (av : List Value) (n : Nat) (h : AH) (v : Option Value) (P : AH → Prop) : Prop := aCt G d k 0 0 av n h (fun v' n' h' => v' = v ∧ n' = n ∧ P h')
/-- the contract of a method that only reads -/
def aD (G : aG) (d : Nat) (k : aM) (av : List Value) (n : Nat) (h : AH) (v : Option Value) : Prop := aE G d k av n h v (fun h' => h' = h)
/-! locals -/
def lo_l (lv : List (Option Value)) : List (Nat × Value) := (List.range lv.length).filterMap (fun j => (lv[j]?.join).map (fun u => (j, u)))
theorem lo_mem {lv : List (Option Value)} {j : Nat} {u : Value} : (j, u) ∈ lo_l lv ↔ lv[j]? = some (some u) := by
  unfold lo_l
  rw [List.mem_filterMap]
  constructor
  · rintro ⟨i, hi, h⟩
    cases hq : lv[i]? with
    | none => rw [hq] at h; simp at h
    | some o =>
      cases o with
      | none => rw [hq] at h; simp at h
      | some w =>
        rw [hq] at h
        simp at h
        obtain ⟨rfl, rfl⟩ := h
        exact hq
  · intro h
    refine ⟨j, ?_, by rw [h]; rfl⟩
    exact List.mem_range.mpr (List.getElem?_eq_some_iff.mp h).1
theorem lo_lv {ls : Array Slot} {nL : Nat} {lv : List (Option Value)} (h : lo_has ls nL lv) : lv_has ls nL (lo_l lv) := ⟨h.2.1, h.2.2.1, fun q hq => h.2.2.2 q.1 q.2 (lo_mem.mp hq)⟩
def lo_c1 (lv : List (Option Value)) : Bool := lv.all (fun o => match o with | none => true | some v => v.category == 1)
theorem lo_of {ls : Array Slot} {nL i : Nat} {lv : List (Option Value)} {v : Value} (hlen : lv.length = nL) (hc : lo_c1 lv = true) (hi : i < lv.length) (h : lv_has ls nL ((i, v) :: (lo_l lv).filter (fun q => !(q.1 == i) && !(q.1 + 1 == i && q.2.category == 2)))) : lo_has ls nL (lv.set i (some v)) := by
  refine ⟨by rw [List.length_set]; exact hlen, h.1, h.2.1, fun j u hj => ?_⟩
  by_cases hji : j = i
  · subst hji
    rw [List.getElem?_set_self hi] at hj
    cases hj
    exact h.2.2 (j, v) List.mem_cons_self
  · rw [List.getElem?_set_ne (Ne.symm hji)] at hj
    refine h.2.2 (j, u) (List.mem_cons_of_mem _ (List.mem_filter.mpr ⟨lo_mem.mpr hj, ?_⟩))
    have h1 := List.all_eq_true.mp hc (some u) (List.mem_of_getElem? hj)
    simp only [beq_iff_eq] at h1
    simp [hji, h1]
def lo_args : List Value → List (Option Value)
  | [] => []
  | v :: vs => if v.category = 2 then some v :: none :: lo_args vs else some v :: lo_args vs
theorem lo_args_mem : ∀ (vs : List Value) (o i : Nat) (v : Value), (lo_args vs)[i]? = some (some v) → (o + i, v) ∈ lv_args o vs
  | [], o, i, v, h => by simp [lo_args] at h
  | w :: vs, o, i, v, h => by
    unfold lo_args at h
    unfold lv_args
    by_cases hc : w.category = 2
    · rw [if_pos hc] at h ⊢
      match i, h with
      | 0, h => simp at h; subst h; exact List.mem_cons_self
      | 1, h => simp at h
      | i + 2, h =>
        have h1 := lo_args_mem vs (o + 2) i v (by simpa using h)
        have e : o + (i + 2) = o + 2 + i := by omega
        rw [e]
        exact List.mem_cons_of_mem _ h1
    · rw [if_neg hc] at h ⊢
      match i, h with
      | 0, h => simp at h; subst h; exact List.mem_cons_self
      | i + 1, h =>
        have h1 := lo_args_mem vs (o + 1) i v (by simpa using h)
        have e : o + (i + 1) = o + 1 + i := by omega
        rw [e]
        exact List.mem_cons_of_mem _ h1
theorem lo_entry {ls : Array Slot} {n : Nat} {vs : List Value} {lv : List (Option Value)} (h : lv_has ls n (lv_args 0 vs)) (hl : lo_args vs ++ List.replicate (n - (lo_args vs).length) none = lv) (hlen : lv.length = n) : lo_has ls n lv := by
  refine ⟨hlen, h.1, h.2.1, fun i v hi => ?_⟩
  subst hl
  by_cases hlt : i < (lo_args vs).length
  · rw [List.getElem?_append_left hlt] at hi
    have := lo_args_mem vs 0 i v hi
    rw [Nat.zero_add] at this
    exact h.2.2 _ this
  · rw [List.getElem?_append_right (by omega), List.getElem?_replicate] at hi
    split at hi <;> simp at hi
/-! the heap -/
theorem aRep.at {G : aG} {n : Nat} {h : AH} {H : Heap} (hR : aRep G n h H) {a : Nat} {e : va_E} (ha : h a = some e) : va_P G.2.1 vwCl [(a, e)] H := by
  intro k q hk
  have hz : k < 1 := (List.getElem?_eq_some_iff.mp hk).1
  rw [show k = 0 by omega] at hk
  cases hk
  exact (hR.2.2 a e ha).2
theorem aRep.up {G : aG} {n : Nat} {h : AH} {H H1 : Heap} (hR : aRep G n h H) {a : Nat} {e e' : va_E} (ha : h a = some e) (hz : H1.size = H.size) (hat : va_at G.2.1 vwCl (a, e') H1) (ho : ∀ q : Nat, q ≠ a → H1[q]? = H[q]?) : aRep G n (aup h a e') H1 := by
  refine ⟨hz.trans hR.1, hR.2.1, fun q e1 hq => ?_⟩
  by_cases hqa : q = a
  · subst hqa
    rw [aup_s] at hq
    cases hq
    exact ⟨(hR.2.2 q e ha).1, hat⟩
  · rw [aup_n hqa] at hq
    exact ⟨(hR.2.2 q e1 hq).1, (hR.2.2 q e1 hq).2.kept (ho q hqa)⟩
theorem aRep.new {G : aG} {n : Nat} {h : AH} {H H1 : Heap} (hR : aRep G n h H) {e' : va_E} (hz : H1.size = n + 1) (hat : va_at G.2.1 vwCl (n, e') H1) (ho : ∀ q : Nat, q < n → H1[q]? = H[q]?) : aRep G (n + 1) (aup h n e') H1 := by
  refine ⟨hz, Nat.le_succ_of_le hR.2.1, fun q e1 hq => ?_⟩
  by_cases hqa : q = n
  · subst hqa
    rw [aup_s] at hq
    cases hq
    exact ⟨hR.2.1, hat⟩
  · rw [aup_n hqa] at hq
    have h1 := hR.2.2 q e1 hq
    have hlt : q < H.size := h1.2.lt
    exact ⟨h1.1, h1.2.kept (ho q (hR.1 ▸ hlt))⟩
/-! numbers -/
theorem aT {z : Int} (h : inR z) : (Int32.ofInt z).toInt = z := Int32.toInt_ofInt_of_le h.1 h.2
theorem aI_lt {x y : Int} (hx : inR x) (hy : inR y) : Int32.ofInt x < Int32.ofInt y ↔ x < y := by rw [Int32.lt_iff_toInt_lt, aT hx, aT hy]
theorem aI_le {x y : Int} (hx : inR x) (hy : inR y) : Int32.ofInt x ≤ Int32.ofInt y ↔ x ≤ y := by rw [Int32.le_iff_toInt_le, aT hx, aT hy]
theorem aI_eq {x y : Int} (hx : inR x) (hy : inR y) : Int32.ofInt x = Int32.ofInt y ↔ x = y := by rw [← Int32.toInt_inj, aT hx, aT hy]
theorem aI_0 : (0 : Int32) = Int32.ofInt 0 := by decide
theorem aI_cl {z : Int} {j : Nat} (h : z = (j : Int)) (hj : j < 2147483648) : (Int32.ofInt z).toNatClampNeg = j := by
  subst h
  show (Int32.ofInt (j : Int)).toInt.toNat = j
  rw [aT ⟨by omega, by omega⟩]
  rfl
theorem aI_in {z : Int} {j n : Nat} (h : z = (j : Int)) (hj : j < n) (hn : n < 2147483648) : vp_in (Int32.ofInt z) n := by
  unfold vp_in
  rw [aI_cl h (by omega)]
  rintro (h1 | h1)
  · rw [aI_0, aI_lt (by omega) (by omega)] at h1
    omega
  · omega
theorem aI_nat (n : Nat) : Int32.ofInt (n : Int) = nI n := Int32.ofInt_eq_ofNat
theorem in0 : inR 0 := ⟨by decide, by decide⟩
theorem aI_ne0 {b : Int} (hb : 0 < b ∧ b < 2147483648) : ¬ Int32.ofInt b = 0 := by
  rw [aI_0, aI_eq ⟨by omega, by omega⟩ in0]
  omega
theorem aI_div {a b : Int} (ha : 0 ≤ a ∧ a < 2147483648) (hb : 0 < b ∧ b < 2147483648) : Int32.ofInt (a / b) = Int32.ofInt a / Int32.ofInt b := by
  obtain ⟨m, rfl⟩ := Int.eq_ofNat_of_zero_le ha.1
  obtain ⟨k, rfl⟩ := Int.eq_ofNat_of_zero_le (Int.le_of_lt hb.1)
  rw [← Int.natCast_ediv, aI_nat, aI_nat, aI_nat, pk_div (by omega) (by omega) (by omega)]
theorem aI_mod {a b : Int} (ha : 0 ≤ a ∧ a < 2147483648) (hb : 0 < b ∧ b < 2147483648) : Int32.ofInt (a % b) = Int32.ofInt a - Int32.ofInt a / Int32.ofInt b * Int32.ofInt b := by
  obtain ⟨m, rfl⟩ := Int.eq_ofNat_of_zero_le ha.1
  obtain ⟨k, rfl⟩ := Int.eq_ofNat_of_zero_le (Int.le_of_lt hb.1)
  rw [← Int.natCast_emod, aI_nat, aI_nat, aI_nat, pk_rem (by omega) (by omega) (by omega)]
theorem aI_sh : ∀ k : Fin 32, ((Int32.ofInt ((k : Nat) : Int) &&& 31).toBitVec.smod 32).toNat = (k : Nat) := by decide
theorem aI_shl {m k : Nat} (hk : k < 32) (hm : m * 2 ^ k < 2147483648) : Int32.ofInt ((m * 2 ^ k : Nat) : Int) = Int32.ofInt (m : Int) <<< (Int32.ofInt (k : Int) &&& 31) := by
  rw [aI_nat (m * 2 ^ k), aI_nat m, pk_shlN _ k (aI_sh ⟨k, hk⟩) (by omega)]
theorem aI_shr {m k : Nat} (hk : k < 32) (hm : m < 2147483648) : Int32.ofInt ((m / 2 ^ k : Nat) : Int) = Int32.ofInt (m : Int) >>> (Int32.ofInt (k : Int) &&& 31) := by
  rw [aI_nat (m / 2 ^ k), aI_nat m, pk_shrN (by omega) _ k (aI_sh ⟨k, hk⟩)]
theorem aI_iand {m k : Nat} : Int32.ofInt ((m &&& k : Nat) : Int) = Int32.ofInt (m : Int) &&& Int32.ofInt (k : Int) := by
  rw [aI_nat, aI_nat, aI_nat]
  exact Int32.toBitVec.inj (BitVec.ofNat_and (w := 32) (x := m) (y := k))
theorem aI_ior {m k : Nat} : Int32.ofInt ((m ||| k : Nat) : Int) = Int32.ofInt (m : Int) ||| Int32.ofInt (k : Int) := by
  rw [aI_nat, aI_nat, aI_nat]
  exact Int32.toBitVec.inj (BitVec.ofNat_or (w := 32) (x := m) (y := k))
theorem aI_ixor {m k : Nat} : Int32.ofInt ((m ^^^ k : Nat) : Int) = Int32.ofInt (m : Int) ^^^ Int32.ofInt (k : Int) := by
  rw [aI_nat, aI_nat, aI_nat]
  exact Int32.toBitVec.inj (BitVec.ofNat_xor (w := 32) (x := m) (y := k))
theorem aI_andn {m k : Nat} : Int32.ofInt ((m ^^^ (m &&& k) : Nat) : Int) = Int32.ofInt (m : Int) &&& (Int32.ofInt (k : Int) ^^^ Int32.ofInt (-1)) := by
  rw [aI_ixor, aI_iand]
  generalize Int32.ofInt (m : Int) = u
  generalize Int32.ofInt (k : Int) = v
  apply Int32.toBitVec.inj
  have e : (Int32.ofInt (-1)).toBitVec = BitVec.allOnes 32 := by decide
  simp only [Int32.toBitVec_xor, Int32.toBitVec_and, e]
  generalize u.toBitVec = a
  generalize v.toBitVec = b
  apply BitVec.eq_of_getLsbD_eq
  intro i hi
  simp only [BitVec.getLsbD_xor, BitVec.getLsbD_and, BitVec.getLsbD_allOnes, hi, decide_true]
  cases a.getLsbD i <;> cases b.getLsbD i <;> rfl
theorem aI_i2l {a : Int} (h : inR a) : (Int32.ofInt a).toInt64 = Int64.ofInt a := by
  rw [← Int64.toInt_inj, Int32.toInt_toInt64, aT h, Int64.toInt_ofInt_of_le (by omega) (by omega)]
theorem aL_T {a : Int} (h : inR a) : (Int64.ofInt a).toInt = a := Int64.toInt_ofInt_of_le (by omega) (by omega)
theorem aL_cmp {a b : Int} (ha : inR a) (hb : inR b) : lg_cmp (Int64.ofInt a) (Int64.ofInt b) = Int32.ofInt (if a < b then -1 else if b < a then 1 else 0) := by
  unfold lg_cmp
  simp only [gt_iff_lt, Int64.lt_iff_toInt_lt, ← Int64.toInt_inj, aL_T ha, aL_T hb]
  by_cases h1 : a < b
  · rw [if_neg (by omega), if_neg (by omega), if_pos h1]; decide
  · by_cases h2 : b < a
    · rw [if_pos h2, if_neg h1, if_pos h2]; decide
    · rw [if_neg h2, if_pos (by omega), if_neg h1, if_neg h2]; decide
theorem aL_cmpE {a : Int64} : lg_cmp a a = Int32.ofInt 0 := by
  unfold lg_cmp
  simp [Int64.lt_iff_toInt_lt]

section AR
variable {x : aX} {d : Nat} {cc : ByteArray} {own nm : String} {ret : Option FieldType} {mc ms : Nat} {post : aPost} {cs ss n pc : Nat} {h : AH} {lv : List (Option Value)} {st : List Value}

theorem A_iconst (X : aOk x d cc own nm ret mc ms post) {z : Int} (hd : decode cc pc = .ok (.iconst z, 1)) (k : AW x cs ss n h (pc + 1) lv (aI z :: st)) : AW x cs ss n h pc lv st := by
  obtain ⟨p, e, R, s, args, below, meth, c, Q, hw, hx, hb, hml, hown, hts, hK, hH0, hscr, hnm, hroom, hret⟩ := X
  intro H locs ls hR hS hL
  exact (hw H locs cs ss _).mpr (lv_iconst hx hb hd rfl ((hw H locs cs ss _).mp (k H locs ls hR hS hL)))
theorem A_bipush (X : aOk x d cc own nm ret mc ms post) {z : Int} (hd : decode cc pc = .ok (.bipush z, 2)) (k : AW x cs ss n h (pc + 2) lv (aI z :: st)) (hv : (Int8.ofInt z).toInt32 = Int32.ofInt z := by decide) : AW x cs ss n h pc lv st := by
  obtain ⟨p, e, R, s, args, below, meth, c, Q, hw, hx, hb, hml, hown, hts, hK, hH0, hscr, hnm, hroom, hret⟩ := X
  intro H locs ls hR hS hL
  exact (hw H locs cs ss _).mpr (lv_bipush hx hb hd hv ((hw H locs cs ss _).mp (k H locs ls hR hS hL)))
theorem A_sipush (X : aOk x d cc own nm ret mc ms post) {z : Int} (hd : decode cc pc = .ok (.sipush z, 3)) (k : AW x cs ss n h (pc + 3) lv (aI z :: st)) (hv : (Int16.ofInt z).toInt32 = Int32.ofInt z := by decide) : AW x cs ss n h pc lv st := by
  obtain ⟨p, e, R, s, args, below, meth, c, Q, hw, hx, hb, hml, hown, hts, hK, hH0, hscr, hnm, hroom, hret⟩ := X
  intro H locs ls hR hS hL
  exact (hw H locs cs ss _).mpr (lv_sipush hx hb hd hv ((hw H locs cs ss _).mp (k H locs ls hR hS hL)))
theorem A_ldc (X : aOk x d cc own nm ret mc ms post) {z : Int} {v : Int32} {idx : Nat} (hc : Cond.constant own idx v ∈ lw_tbl) (hd : decode cc pc = .ok (.ldc idx, 2)) (k : AW x cs ss n h (pc + 2) lv (aI z :: st)) (hv : v = Int32.ofInt z := by decide) : AW x cs ss n h pc lv st := by
  obtain ⟨p, e, R, s, args, below, meth, c, Q, hw, hx, hb, hml, hown, hts, hK, hH0, hscr, hnm, hroom, hret⟩ := X
  intro H locs ls hR hS hL
  subst hv
  exact (hw H locs cs ss _).mpr (lv_ldc hx hb hown (hts _ (gn_of hc rfl)) hd ((hw H locs cs ss _).mp (k H locs ls hR hS hL)))
theorem A_ldcw (X : aOk x d cc own nm ret mc ms post) {v : Int32} {idx : Nat} (hc : Cond.constant own idx v ∈ lw_tbl) (hd : decode cc pc = .ok (.ldc_w idx, 3)) (k : AW x cs ss n h (pc + 3) lv (.int v :: st)) : AW x cs ss n h pc lv st := by
  obtain ⟨p, e, R, s, args, below, meth, c, Q, hw, hx, hb, hml, hown, hts, hK, hH0, hscr, hnm, hroom, hret⟩ := X
  intro H locs ls hR hS hL
  exact (hw H locs cs ss _).mpr (lv_ldcw hx hb hown (hts _ (gn_of hc rfl)) hd ((hw H locs cs ss _).mp (k H locs ls hR hS hL)))
theorem A_ldc2 (X : aOk x d cc own nm ret mc ms post) {z : Int} {v : Int64} {idx : Nat} (hc : Cond.constantLong own idx v ∈ lw_tbl) (hd : decode cc pc = .ok (.ldc2_w idx, 3)) (k : AW x cs ss n h (pc + 3) lv (aL z :: st)) (hv : v = Int64.ofInt z := by decide) : AW x cs ss n h pc lv st := by
  obtain ⟨p, e, R, s, args, below, meth, c, Q, hw, hx, hb, hml, hown, hts, hK, hH0, hscr, hnm, hroom, hret⟩ := X
  intro H locs ls hR hS hL
  subst hv
  exact (hw H locs cs ss _).mpr (lv_ldc2 hx hb hown (hts _ (gn_of hc rfl)) hd ((hw H locs cs ss _).mp (k H locs ls hR hS hL)))
theorem A_lconst (X : aOk x d cc own nm ret mc ms post) {z : Int} {i : Fin 2} (hd : decode cc pc = .ok (.lconst i, 1)) (k : AW x cs ss n h (pc + 1) lv (aL z :: st)) (hv : Int64.ofNat (i : Nat) = Int64.ofInt z := by decide) : AW x cs ss n h pc lv st := by
  obtain ⟨p, e, R, s, args, below, meth, c, Q, hw, hx, hb, hml, hown, hts, hK, hH0, hscr, hnm, hroom, hret⟩ := X
  intro H locs ls hR hS hL
  exact (hw H locs cs ss _).mpr (lv_lconst hx hb hd hv ((hw H locs cs ss _).mp (k H locs ls hR hS hL)))
theorem A_iload_n (X : aOk x d cc own nm ret mc ms post) {k : Fin 4} {i : Nat} {z : Int} (hd : decode cc pc = .ok (.iload_n k, 1)) (hi : (k : Nat) = i) (hl : lv[i]? = some (some (aI z))) (kk : AW x cs ss n h (pc + 1) lv (aI z :: st)) : AW x cs ss n h pc lv st := by
  obtain ⟨p, e, R, s, args, below, meth, c, Q, hw, hx, hb, hml, hown, hts, hK, hH0, hscr, hnm, hroom, hret⟩ := X
  intro H locs ls hR hS hL
  exact (hw H locs cs ss _).mpr (lv_iload_n hx hb hd hi (hL.2.2.2 _ _ hl) ((hw H locs cs ss _).mp (kk H locs ls hR hS hL)))
theorem A_iload (X : aOk x d cc own nm ret mc ms post) {i : Nat} {z : Int} (hd : decode cc pc = .ok (.iload i, 2)) (hl : lv[i]? = some (some (aI z))) (kk : AW x cs ss n h (pc + 2) lv (aI z :: st)) : AW x cs ss n h pc lv st := by
  obtain ⟨p, e, R, s, args, below, meth, c, Q, hw, hx, hb, hml, hown, hts, hK, hH0, hscr, hnm, hroom, hret⟩ := X
  intro H locs ls hR hS hL
  exact (hw H locs cs ss _).mpr (lv_iload hx hb hd (hL.2.2.2 _ _ hl) ((hw H locs cs ss _).mp (kk H locs ls hR hS hL)))
theorem A_aload_n (X : aOk x d cc own nm ret mc ms post) {k : Fin 4} {i : Nat} {z : Nat} (hd : decode cc pc = .ok (.aload_n k, 1)) (hi : (k : Nat) = i) (hl : lv[i]? = some (some (.ref z))) (kk : AW x cs ss n h (pc + 1) lv (.ref z :: st)) : AW x cs ss n h pc lv st := by
  obtain ⟨p, e, R, s, args, below, meth, c, Q, hw, hx, hb, hml, hown, hts, hK, hH0, hscr, hnm, hroom, hret⟩ := X
  intro H locs ls hR hS hL
  exact (hw H locs cs ss _).mpr (lv_aload_n hx hb hd hi (hL.2.2.2 _ _ hl) ((hw H locs cs ss _).mp (kk H locs ls hR hS hL)))
theorem A_aload (X : aOk x d cc own nm ret mc ms post) {i : Nat} {z : Nat} (hd : decode cc pc = .ok (.aload i, 2)) (hl : lv[i]? = some (some (.ref z))) (kk : AW x cs ss n h (pc + 2) lv (.ref z :: st)) : AW x cs ss n h pc lv st := by
  obtain ⟨p, e, R, s, args, below, meth, c, Q, hw, hx, hb, hml, hown, hts, hK, hH0, hscr, hnm, hroom, hret⟩ := X
  intro H locs ls hR hS hL
  exact (hw H locs cs ss _).mpr (lv_aload hx hb hd (hL.2.2.2 _ _ hl) ((hw H locs cs ss _).mp (kk H locs ls hR hS hL)))
theorem A_lload_n (X : aOk x d cc own nm ret mc ms post) {k : Fin 4} {i : Nat} {z : Int} (hd : decode cc pc = .ok (.lload_n k, 1)) (hi : (k : Nat) = i) (hl : lv[i]? = some (some (aL z))) (kk : AW x cs ss n h (pc + 1) lv (aL z :: st)) : AW x cs ss n h pc lv st := by
  obtain ⟨p, e, R, s, args, below, meth, c, Q, hw, hx, hb, hml, hown, hts, hK, hH0, hscr, hnm, hroom, hret⟩ := X
  intro H locs ls hR hS hL
  exact (hw H locs cs ss _).mpr (lv_lload_n hx hb hd hi (hL.2.2.2 _ _ hl) ((hw H locs cs ss _).mp (kk H locs ls hR hS hL)))
theorem A_lload (X : aOk x d cc own nm ret mc ms post) {i : Nat} {z : Int} (hd : decode cc pc = .ok (.lload i, 2)) (hl : lv[i]? = some (some (aL z))) (kk : AW x cs ss n h (pc + 2) lv (aL z :: st)) : AW x cs ss n h pc lv st := by
  obtain ⟨p, e, R, s, args, below, meth, c, Q, hw, hx, hb, hml, hown, hts, hK, hH0, hscr, hnm, hroom, hret⟩ := X
  intro H locs ls hR hS hL
  exact (hw H locs cs ss _).mpr (lv_lload hx hb hd (hL.2.2.2 _ _ hl) ((hw H locs cs ss _).mp (kk H locs ls hR hS hL)))
theorem A_iload_nr (X : aOk x d cc own nm ret mc ms post) {k : Fin 4} {i : Nat} {z : Int32} (hd : decode cc pc = .ok (.iload_n k, 1)) (hi : (k : Nat) = i) (hl : lv[i]? = some (some (.int z))) (kk : AW x cs ss n h (pc + 1) lv (.int z :: st)) : AW x cs ss n h pc lv st := by
  obtain ⟨p, e, R, s, args, below, meth, c, Q, hw, hx, hb, hml, hown, hts, hK, hH0, hscr, hnm, hroom, hret⟩ := X
  intro H locs ls hR hS hL
  exact (hw H locs cs ss _).mpr (lv_iload_n hx hb hd hi (hL.2.2.2 _ _ hl) ((hw H locs cs ss _).mp (kk H locs ls hR hS hL)))
theorem A_istore_n (X : aOk x d cc own nm ret mc ms post) {k : Fin 4} {i : Nat} {z : Int32} (hd : decode cc pc = .ok (.istore_n k, 1)) (hi : (k : Nat) = i) (hlen : i < lv.length) (hc : lo_c1 lv = true) (kk : AW x cs ss n h (pc + 1) (lv.set i (some (.int z))) st) : AW x cs ss n h pc lv (.int z :: st) := by
  obtain ⟨p, e, R, s, args, below, meth, c, Q, hw, hx, hb, hml, hown, hts, hK, hH0, hscr, hnm, hroom, hret⟩ := X
  intro H locs ls hR hS hL
  exact (hw H locs cs ss _).mpr (lv_istore_n hx hb hd hi (lo_lv hL) (by rw [← hL.1]; exact hlen) rfl (fun ls2 hl2 => (hw H locs cs ss _).mp (kk H locs ls2 hR hS (lo_of hL.1 hc hlen hl2))))
theorem A_istore (X : aOk x d cc own nm ret mc ms post) {i : Nat} {z : Int32} (hd : decode cc pc = .ok (.istore i, 2)) (hlen : i < lv.length) (hc : lo_c1 lv = true) (kk : AW x cs ss n h (pc + 2) (lv.set i (some (.int z))) st) : AW x cs ss n h pc lv (.int z :: st) := by
  obtain ⟨p, e, R, s, args, below, meth, c, Q, hw, hx, hb, hml, hown, hts, hK, hH0, hscr, hnm, hroom, hret⟩ := X
  intro H locs ls hR hS hL
  exact (hw H locs cs ss _).mpr (lv_istore hx hb hd (lo_lv hL) (by rw [← hL.1]; exact hlen) rfl (fun ls2 hl2 => (hw H locs cs ss _).mp (kk H locs ls2 hR hS (lo_of hL.1 hc hlen hl2))))
theorem A_astore_n (X : aOk x d cc own nm ret mc ms post) {k : Fin 4} {i : Nat} {z : Nat} (hd : decode cc pc = .ok (.astore_n k, 1)) (hi : (k : Nat) = i) (hlen : i < lv.length) (hc : lo_c1 lv = true) (kk : AW x cs ss n h (pc + 1) (lv.set i (some (.ref z))) st) : AW x cs ss n h pc lv (.ref z :: st) := by
  obtain ⟨p, e, R, s, args, below, meth, c, Q, hw, hx, hb, hml, hown, hts, hK, hH0, hscr, hnm, hroom, hret⟩ := X
  intro H locs ls hR hS hL
  exact (hw H locs cs ss _).mpr (lv_astore_n hx hb hd hi (lo_lv hL) (by rw [← hL.1]; exact hlen) rfl (fun ls2 hl2 => (hw H locs cs ss _).mp (kk H locs ls2 hR hS (lo_of hL.1 hc hlen hl2))))
theorem A_astore (X : aOk x d cc own nm ret mc ms post) {i : Nat} {z : Nat} (hd : decode cc pc = .ok (.astore i, 2)) (hlen : i < lv.length) (hc : lo_c1 lv = true) (kk : AW x cs ss n h (pc + 2) (lv.set i (some (.ref z))) st) : AW x cs ss n h pc lv (.ref z :: st) := by
  obtain ⟨p, e, R, s, args, below, meth, c, Q, hw, hx, hb, hml, hown, hts, hK, hH0, hscr, hnm, hroom, hret⟩ := X
  intro H locs ls hR hS hL
  exact (hw H locs cs ss _).mpr (lv_astore hx hb hd (lo_lv hL) (by rw [← hL.1]; exact hlen) rfl (fun ls2 hl2 => (hw H locs cs ss _).mp (kk H locs ls2 hR hS (lo_of hL.1 hc hlen hl2))))
theorem A_iinc (X : aOk x d cc own nm ret mc ms post) {i : Nat} {z w : Int} (hd : decode cc pc = .ok (.iinc i w, 3)) (hl : lv[i]? = some (some (aI z))) (hc : lo_c1 lv = true) (kk : AW x cs ss n h (pc + 3) (lv.set i (some (aI (z + w)))) st) : AW x cs ss n h pc lv st := by
  obtain ⟨p, e, R, s, args, below, meth, c, Q, hw, hx, hb, hml, hown, hts, hK, hH0, hscr, hnm, hroom, hret⟩ := X
  intro H locs ls hR hS hL
  obtain ⟨k, hk⟩ := List.getElem?_of_mem (lo_mem.mpr hl)
  have hlen := (List.getElem?_eq_some_iff.mp hl).1
  exact (hw H locs cs ss _).mpr (lv_iinc hx hb hd (lo_lv hL) hk (Int32.ofInt_add z w).symm (by rw [← hL.1]; exact hlen) rfl (fun ls2 hl2 => (hw H locs cs ss _).mp (kk H locs ls2 hR hS (lo_of hL.1 hc hlen hl2))))
theorem A_iadd (X : aOk x d cc own nm ret mc ms post) {a b : Int} (hd : decode cc pc = .ok (.iadd, 1)) (k : AW x cs ss n h (pc + 1) lv (aI (a + b) :: st)) : AW x cs ss n h pc lv (aI b :: aI a :: st) := by
  obtain ⟨p, e, R, s, args, below, meth, c, Q, hw, hx, hb, hml, hown, hts, hK, hH0, hscr, hnm, hroom, hret⟩ := X
  intro H locs ls hR hS hL
  refine (hw H locs cs ss _).mpr (lv_iadd hx hb hd ((hw H locs cs ss _).mp ?_))
  rw [← Int32.ofInt_add]
  exact k H locs ls hR hS hL
theorem A_isub (X : aOk x d cc own nm ret mc ms post) {a b : Int} (hd : decode cc pc = .ok (.isub, 1)) (k : AW x cs ss n h (pc + 1) lv (aI (a - b) :: st)) : AW x cs ss n h pc lv (aI b :: aI a :: st) := by
  obtain ⟨p, e, R, s, args, below, meth, c, Q, hw, hx, hb, hml, hown, hts, hK, hH0, hscr, hnm, hroom, hret⟩ := X
  intro H locs ls hR hS hL
  refine (hw H locs cs ss _).mpr (lv_isub hx hb hd ((hw H locs cs ss _).mp ?_))
  rw [← Int32.ofInt_sub]
  exact k H locs ls hR hS hL
theorem A_imul (X : aOk x d cc own nm ret mc ms post) {a b : Int} (hd : decode cc pc = .ok (.imul, 1)) (k : AW x cs ss n h (pc + 1) lv (aI (a * b) :: st)) : AW x cs ss n h pc lv (aI b :: aI a :: st) := by
  obtain ⟨p, e, R, s, args, below, meth, c, Q, hw, hx, hb, hml, hown, hts, hK, hH0, hscr, hnm, hroom, hret⟩ := X
  intro H locs ls hR hS hL
  refine (hw H locs cs ss _).mpr (lv_imul hx hb hd ((hw H locs cs ss _).mp ?_))
  rw [← Int32.ofInt_mul]
  exact k H locs ls hR hS hL
theorem A_iaddr (X : aOk x d cc own nm ret mc ms post) {a b : Int32} (hd : decode cc pc = .ok (.iadd, 1)) (k : AW x cs ss n h (pc + 1) lv (.int (a + b) :: st)) : AW x cs ss n h pc lv (.int b :: .int a :: st) := by
  obtain ⟨p, e, R, s, args, below, meth, c, Q, hw, hx, hb, hml, hown, hts, hK, hH0, hscr, hnm, hroom, hret⟩ := X
  intro H locs ls hR hS hL
  exact (hw H locs cs ss _).mpr (lv_iadd hx hb hd ((hw H locs cs ss _).mp (k H locs ls hR hS hL)))
theorem A_isubr (X : aOk x d cc own nm ret mc ms post) {a b : Int32} (hd : decode cc pc = .ok (.isub, 1)) (k : AW x cs ss n h (pc + 1) lv (.int (a - b) :: st)) : AW x cs ss n h pc lv (.int b :: .int a :: st) := by
  obtain ⟨p, e, R, s, args, below, meth, c, Q, hw, hx, hb, hml, hown, hts, hK, hH0, hscr, hnm, hroom, hret⟩ := X
  intro H locs ls hR hS hL
  exact (hw H locs cs ss _).mpr (lv_isub hx hb hd ((hw H locs cs ss _).mp (k H locs ls hR hS hL)))
theorem A_iandr (X : aOk x d cc own nm ret mc ms post) {a b : Int32} (hd : decode cc pc = .ok (.iand, 1)) (k : AW x cs ss n h (pc + 1) lv (.int (a &&& b) :: st)) : AW x cs ss n h pc lv (.int b :: .int a :: st) := by
  obtain ⟨p, e, R, s, args, below, meth, c, Q, hw, hx, hb, hml, hown, hts, hK, hH0, hscr, hnm, hroom, hret⟩ := X
  intro H locs ls hR hS hL
  exact (hw H locs cs ss _).mpr (lv_iand hx hb hd ((hw H locs cs ss _).mp (k H locs ls hR hS hL)))
theorem A_ixorr (X : aOk x d cc own nm ret mc ms post) {a b : Int32} (hd : decode cc pc = .ok (.ixor, 1)) (k : AW x cs ss n h (pc + 1) lv (.int (a ^^^ b) :: st)) : AW x cs ss n h pc lv (.int b :: .int a :: st) := by
  obtain ⟨p, e, R, s, args, below, meth, c, Q, hw, hx, hb, hml, hown, hts, hK, hH0, hscr, hnm, hroom, hret⟩ := X
  intro H locs ls hR hS hL
  exact (hw H locs cs ss _).mpr (lv_ixor hx hb hd ((hw H locs cs ss _).mp (k H locs ls hR hS hL)))
theorem A_iushrr (X : aOk x d cc own nm ret mc ms post) {a b : Int32} (hd : decode cc pc = .ok (.iushr, 1)) (k : AW x cs ss n h (pc + 1) lv (.int (a.toUInt32 >>> (b.toUInt32 &&& Int32.toUInt32 31)).toInt32 :: st)) : AW x cs ss n h pc lv (.int b :: .int a :: st) := by
  obtain ⟨p, e, R, s, args, below, meth, c, Q, hw, hx, hb, hml, hown, hts, hK, hH0, hscr, hnm, hroom, hret⟩ := X
  intro H locs ls hR hS hL
  exact (hw H locs cs ss _).mpr (lv_iushr hx hb hd rfl ((hw H locs cs ss _).mp (k H locs ls hR hS hL)))
theorem A_ladd (X : aOk x d cc own nm ret mc ms post) {a b : Int} (hd : decode cc pc = .ok (.ladd, 1)) (k : AW x cs ss n h (pc + 1) lv (aL (a + b) :: st)) : AW x cs ss n h pc lv (aL b :: aL a :: st) := by
  obtain ⟨p, e, R, s, args, below, meth, c, Q, hw, hx, hb, hml, hown, hts, hK, hH0, hscr, hnm, hroom, hret⟩ := X
  intro H locs ls hR hS hL
  refine (hw H locs cs ss _).mpr (lv_ladd hx hb hd ((hw H locs cs ss _).mp ?_))
  rw [← Int64.ofInt_add]
  exact k H locs ls hR hS hL
theorem A_idiv (X : aOk x d cc own nm ret mc ms post) {a b : Int} (ha : 0 ≤ a ∧ a < 2147483648) (hb0 : 0 < b ∧ b < 2147483648) (hd : decode cc pc = .ok (.idiv, 1)) (k : AW x cs ss n h (pc + 1) lv (aI (a / b) :: st)) : AW x cs ss n h pc lv (aI b :: aI a :: st) := by
  obtain ⟨p, e, R, s, args, below, meth, c, Q, hw, hx, hb, hml, hown, hts, hK, hH0, hscr, hnm, hroom, hret⟩ := X
  intro H locs ls hR hS hL
  refine (hw H locs cs ss _).mpr (lv_idiv hx hb hd (aI_ne0 hb0) ((hw H locs cs ss _).mp ?_))
  rw [← aI_div ha hb0]
  exact k H locs ls hR hS hL
theorem A_irem (X : aOk x d cc own nm ret mc ms post) {a b : Int} (ha : 0 ≤ a ∧ a < 2147483648) (hb0 : 0 < b ∧ b < 2147483648) (hd : decode cc pc = .ok (.irem, 1)) (k : AW x cs ss n h (pc + 1) lv (aI (a % b) :: st)) : AW x cs ss n h pc lv (aI b :: aI a :: st) := by
  obtain ⟨p, e, R, s, args, below, meth, c, Q, hw, hx, hb, hml, hown, hts, hK, hH0, hscr, hnm, hroom, hret⟩ := X
  intro H locs ls hR hS hL
  refine (hw H locs cs ss _).mpr (lv_irem hx hb hd (aI_ne0 hb0) ((hw H locs cs ss _).mp ?_))
  rw [← aI_mod ha hb0]
  exact k H locs ls hR hS hL
theorem A_ishl (X : aOk x d cc own nm ret mc ms post) {a b : Int} (m k : Nat) (ha : a = (m : Int)) (hbk : b = (k : Int)) (hk : k < 32) (hm : m * 2 ^ k < 2147483648) (hd : decode cc pc = .ok (.ishl, 1)) (kk : AW x cs ss n h (pc + 1) lv (aI ((m * 2 ^ k : Nat) : Int) :: st)) : AW x cs ss n h pc lv (aI b :: aI a :: st) := by
  obtain ⟨p, e, R, s, args, below, meth, c, Q, hw, hx, hb, hml, hown, hts, hK, hH0, hscr, hnm, hroom, hret⟩ := X
  intro H locs ls hR hS hL
  subst ha; subst hbk
  refine (hw H locs cs ss _).mpr (lv_ishl hx hb hd ((hw H locs cs ss _).mp ?_))
  rw [← aI_shl hk hm]
  exact kk H locs ls hR hS hL
theorem A_ishr (X : aOk x d cc own nm ret mc ms post) {a b : Int} (m k : Nat) (ha : a = (m : Int)) (hbk : b = (k : Int)) (hk : k < 32) (hm : m < 2147483648) (hd : decode cc pc = .ok (.ishr, 1)) (kk : AW x cs ss n h (pc + 1) lv (aI ((m / 2 ^ k : Nat) : Int) :: st)) : AW x cs ss n h pc lv (aI b :: aI a :: st) := by
  obtain ⟨p, e, R, s, args, below, meth, c, Q, hw, hx, hb, hml, hown, hts, hK, hH0, hscr, hnm, hroom, hret⟩ := X
  intro H locs ls hR hS hL
  subst ha; subst hbk
  refine (hw H locs cs ss _).mpr (lv_ishr hx hb hd ((hw H locs cs ss _).mp ?_))
  rw [← aI_shr hk hm]
  exact kk H locs ls hR hS hL
theorem A_iand (X : aOk x d cc own nm ret mc ms post) {a b : Int} (m k : Nat) (ha : a = (m : Int)) (hbk : b = (k : Int)) (hd : decode cc pc = .ok (.iand, 1)) (kk : AW x cs ss n h (pc + 1) lv (aI ((m &&& k : Nat) : Int) :: st)) : AW x cs ss n h pc lv (aI b :: aI a :: st) := by
  obtain ⟨p, e, R, s, args, below, meth, c, Q, hw, hx, hb, hml, hown, hts, hK, hH0, hscr, hnm, hroom, hret⟩ := X
  intro H locs ls hR hS hL
  subst ha; subst hbk
  refine (hw H locs cs ss _).mpr (lv_iand hx hb hd ((hw H locs cs ss _).mp ?_))
  rw [← aI_iand]
  exact kk H locs ls hR hS hL
theorem A_ior (X : aOk x d cc own nm ret mc ms post) {a b : Int} (m k : Nat) (ha : a = (m : Int)) (hbk : b = (k : Int)) (hd : decode cc pc = .ok (.ior, 1)) (kk : AW x cs ss n h (pc + 1) lv (aI ((m ||| k : Nat) : Int) :: st)) : AW x cs ss n h pc lv (aI b :: aI a :: st) := by
  obtain ⟨p, e, R, s, args, below, meth, c, Q, hw, hx, hb, hml, hown, hts, hK, hH0, hscr, hnm, hroom, hret⟩ := X
  intro H locs ls hR hS hL
  subst ha; subst hbk
  refine (hw H locs cs ss _).mpr (lv_ior hx hb hd ((hw H locs cs ss _).mp ?_))
  rw [← aI_ior]
  exact kk H locs ls hR hS hL
theorem A_ixor (X : aOk x d cc own nm ret mc ms post) {a b : Int} (m k : Nat) (ha : a = (m : Int)) (hbk : b = (k : Int)) (hd : decode cc pc = .ok (.ixor, 1)) (kk : AW x cs ss n h (pc + 1) lv (aI ((m ^^^ k : Nat) : Int) :: st)) : AW x cs ss n h pc lv (aI b :: aI a :: st) := by
  obtain ⟨p, e, R, s, args, below, meth, c, Q, hw, hx, hb, hml, hown, hts, hK, hH0, hscr, hnm, hroom, hret⟩ := X
  intro H locs ls hR hS hL
  subst ha; subst hbk
  refine (hw H locs cs ss _).mpr (lv_ixor hx hb hd ((hw H locs cs ss _).mp ?_))
  rw [← aI_ixor]
  exact kk H locs ls hR hS hL
theorem A_iandn (X : aOk x d cc own nm ret mc ms post) {a b : Int} (m k : Nat) (ha : a = (m : Int)) (hbk : b = (k : Int)) (hd : decode cc pc = .ok (.iand, 1)) (kk : AW x cs ss n h (pc + 1) lv (aI ((m ^^^ (m &&& k) : Nat) : Int) :: st)) : AW x cs ss n h pc lv (.int (Int32.ofInt b ^^^ Int32.ofInt (-1)) :: aI a :: st) := by
  obtain ⟨p, e, R, s, args, below, meth, c, Q, hw, hx, hb, hml, hown, hts, hK, hH0, hscr, hnm, hroom, hret⟩ := X
  intro H locs ls hR hS hL
  subst ha; subst hbk
  refine (hw H locs cs ss _).mpr (lv_iand hx hb hd ((hw H locs cs ss _).mp ?_))
  rw [← aI_andn]
  exact kk H locs ls hR hS hL
theorem A_i2l (X : aOk x d cc own nm ret mc ms post) {a : Int} (ha : inR a) (hd : decode cc pc = .ok (.i2l, 1)) (k : AW x cs ss n h (pc + 1) lv (aL a :: st)) : AW x cs ss n h pc lv (aI a :: st) := by
  obtain ⟨p, e, R, s, args, below, meth, c, Q, hw, hx, hb, hml, hown, hts, hK, hH0, hscr, hnm, hroom, hret⟩ := X
  intro H locs ls hR hS hL
  exact (hw H locs cs ss _).mpr (lv_i2l hx hb hd (aI_i2l ha) ((hw H locs cs ss _).mp (k H locs ls hR hS hL)))
theorem A_lcmp (X : aOk x d cc own nm ret mc ms post) {a b : Int} (ha : inR a) (hb0 : inR b) (hd : decode cc pc = .ok (.lcmp, 1)) (k : AW x cs ss n h (pc + 1) lv (aI (if a < b then -1 else if b < a then 1 else 0) :: st)) : AW x cs ss n h pc lv (aL b :: aL a :: st) := by
  obtain ⟨p, e, R, s, args, below, meth, c, Q, hw, hx, hb, hml, hown, hts, hK, hH0, hscr, hnm, hroom, hret⟩ := X
  intro H locs ls hR hS hL
  refine (hw H locs cs ss _).mpr (W.lcmp hx hb hd ((hw H locs cs ss _).mp ?_))
  rw [aL_cmp ha hb0]
  exact k H locs ls hR hS hL
theorem A_lcmpE (X : aOk x d cc own nm ret mc ms post) {a : Int64} (hd : decode cc pc = .ok (.lcmp, 1)) (k : AW x cs ss n h (pc + 1) lv (aI 0 :: st)) : AW x cs ss n h pc lv (.long a :: .long a :: st) := by
  obtain ⟨p, e, R, s, args, below, meth, c, Q, hw, hx, hb, hml, hown, hts, hK, hH0, hscr, hnm, hroom, hret⟩ := X
  intro H locs ls hR hS hL
  refine (hw H locs cs ss _).mpr (W.lcmp hx hb hd ((hw H locs cs ss _).mp ?_))
  rw [aL_cmpE]
  exact k H locs ls hR hS hL
theorem A_dup (X : aOk x d cc own nm ret mc ms post) {v : Value} (hd : decode cc pc = .ok (.dup, 1)) (k : AW x cs ss n h (pc + 1) lv (v :: v :: st)) (hv : v.category = 1 := by rfl) : AW x cs ss n h pc lv (v :: st) := by
  obtain ⟨p, e, R, s, args, below, meth, c, Q, hw, hx, hb, hml, hown, hts, hK, hH0, hscr, hnm, hroom, hret⟩ := X
  intro H locs ls hR hS hL
  exact (hw H locs cs ss _).mpr (lv_dup hx hb hd hv ((hw H locs cs ss _).mp (k H locs ls hR hS hL)))
theorem A_dup2 (X : aOk x d cc own nm ret mc ms post) {v u : Value} (hd : decode cc pc = .ok (.dup2, 1)) (k : AW x cs ss n h (pc + 1) lv (v :: u :: v :: u :: st)) (hv : v.category = 1 := by rfl) (hu : u.category = 1 := by rfl) : AW x cs ss n h pc lv (v :: u :: st) := by
  obtain ⟨p, e, R, s, args, below, meth, c, Q, hw, hx, hb, hml, hown, hts, hK, hH0, hscr, hnm, hroom, hret⟩ := X
  intro H locs ls hR hS hL
  exact (hw H locs cs ss _).mpr (lv_dup2_11 hx hb hd hv hu ((hw H locs cs ss _).mp (k H locs ls hR hS hL)))
theorem A_goto (X : aOk x d cc own nm ret mc ms post) {off : Int} {t : Nat} (hd : decode cc pc = .ok (.goto off, 3)) (k : AW x cs ss n h t lv st) (ht : (pc : Int) + off = (t : Int) := by decide) : AW x cs ss n h pc lv st := by
  obtain ⟨p, e, R, s, args, below, meth, c, Q, hw, hx, hb, hml, hown, hts, hK, hH0, hscr, hnm, hroom, hret⟩ := X
  intro H locs ls hR hS hL
  exact (hw H locs cs ss _).mpr (lv_goto hx hb hd ht ((hw H locs cs ss _).mp (k H locs ls hR hS hL)))
theorem A_icmp_eq (X : aOk x d cc own nm ret mc ms post) {a b : Int} {off : Int} {t : Nat} (ha : inR a) (hb0 : inR b) (hd : decode cc pc = .ok (.if_icmp .eq off, 3)) (kt : a = b → AW x cs ss n h t lv st) (kf : a ≠ b → AW x cs ss n h (pc + 3) lv st) (ht : (pc : Int) + off = (t : Int) := by decide) : AW x cs ss n h pc lv (aI b :: aI a :: st) := by
  obtain ⟨p, e, R, s, args, below, meth, c, Q, hw, hx, hb, hml, hown, hts, hK, hH0, hscr, hnm, hroom, hret⟩ := X
  intro H locs ls hR hS hL
  exact (hw H locs cs ss _).mpr (lv_icmp_eq hx hb hd ht (fun q => (hw H locs cs ss _).mp (kt ((aI_eq ha hb0).mp q) H locs ls hR hS hL)) (fun q => (hw H locs cs ss _).mp (kf (fun q2 => q ((aI_eq ha hb0).mpr q2)) H locs ls hR hS hL)))
theorem A_if_eq (X : aOk x d cc own nm ret mc ms post) {a : Int} {off : Int} {t : Nat} (ha : inR a) (hd : decode cc pc = .ok (.ifCond .eq off, 3)) (kt : a = 0 → AW x cs ss n h t lv st) (kf : a ≠ 0 → AW x cs ss n h (pc + 3) lv st) (ht : (pc : Int) + off = (t : Int) := by decide) : AW x cs ss n h pc lv (aI a :: st) := by
  obtain ⟨p, e, R, s, args, below, meth, c, Q, hw, hx, hb, hml, hown, hts, hK, hH0, hscr, hnm, hroom, hret⟩ := X
  intro H locs ls hR hS hL
  exact (hw H locs cs ss _).mpr (lv_if_eq hx hb hd ht (fun q => (hw H locs cs ss _).mp (kt ((aI_eq ha in0).mp q) H locs ls hR hS hL)) (fun q => (hw H locs cs ss _).mp (kf (fun q2 => q ((aI_eq ha in0).mpr q2)) H locs ls hR hS hL)))
theorem A_icmp_ne (X : aOk x d cc own nm ret mc ms post) {a b : Int} {off : Int} {t : Nat} (ha : inR a) (hb0 : inR b) (hd : decode cc pc = .ok (.if_icmp .ne off, 3)) (kt : a ≠ b → AW x cs ss n h t lv st) (kf : a = b → AW x cs ss n h (pc + 3) lv st) (ht : (pc : Int) + off = (t : Int) := by decide) : AW x cs ss n h pc lv (aI b :: aI a :: st) := by
  obtain ⟨p, e, R, s, args, below, meth, c, Q, hw, hx, hb, hml, hown, hts, hK, hH0, hscr, hnm, hroom, hret⟩ := X
  intro H locs ls hR hS hL
  exact (hw H locs cs ss _).mpr (lv_icmp_ne hx hb hd ht (fun q => (hw H locs cs ss _).mp (kt (fun q2 => q ((aI_eq ha hb0).mpr q2)) H locs ls hR hS hL)) (fun q => (hw H locs cs ss _).mp (kf ((aI_eq ha hb0).mp q) H locs ls hR hS hL)))
theorem A_if_ne (X : aOk x d cc own nm ret mc ms post) {a : Int} {off : Int} {t : Nat} (ha : inR a) (hd : decode cc pc = .ok (.ifCond .ne off, 3)) (kt : a ≠ 0 → AW x cs ss n h t lv st) (kf : a = 0 → AW x cs ss n h (pc + 3) lv st) (ht : (pc : Int) + off = (t : Int) := by decide) : AW x cs ss n h pc lv (aI a :: st) := by
  obtain ⟨p, e, R, s, args, below, meth, c, Q, hw, hx, hb, hml, hown, hts, hK, hH0, hscr, hnm, hroom, hret⟩ := X
  intro H locs ls hR hS hL
  exact (hw H locs cs ss _).mpr (lv_if_ne hx hb hd ht (fun q => (hw H locs cs ss _).mp (kt (fun q2 => q ((aI_eq ha in0).mpr q2)) H locs ls hR hS hL)) (fun q => (hw H locs cs ss _).mp (kf ((aI_eq ha in0).mp q) H locs ls hR hS hL)))
theorem A_icmp_lt (X : aOk x d cc own nm ret mc ms post) {a b : Int} {off : Int} {t : Nat} (ha : inR a) (hb0 : inR b) (hd : decode cc pc = .ok (.if_icmp .lt off, 3)) (kt : a < b → AW x cs ss n h t lv st) (kf : b ≤ a → AW x cs ss n h (pc + 3) lv st) (ht : (pc : Int) + off = (t : Int) := by decide) : AW x cs ss n h pc lv (aI b :: aI a :: st) := by
  obtain ⟨p, e, R, s, args, below, meth, c, Q, hw, hx, hb, hml, hown, hts, hK, hH0, hscr, hnm, hroom, hret⟩ := X
  intro H locs ls hR hS hL
  exact (hw H locs cs ss _).mpr (lv_icmp_lt hx hb hd ht (fun q => (hw H locs cs ss _).mp (kt ((aI_lt ha hb0).mp q) H locs ls hR hS hL)) (fun q => (hw H locs cs ss _).mp (kf (by have q3 := mt (aI_lt ha hb0).mpr q; omega) H locs ls hR hS hL)))
theorem A_if_lt (X : aOk x d cc own nm ret mc ms post) {a : Int} {off : Int} {t : Nat} (ha : inR a) (hd : decode cc pc = .ok (.ifCond .lt off, 3)) (kt : a < 0 → AW x cs ss n h t lv st) (kf : 0 ≤ a → AW x cs ss n h (pc + 3) lv st) (ht : (pc : Int) + off = (t : Int) := by decide) : AW x cs ss n h pc lv (aI a :: st) := by
  obtain ⟨p, e, R, s, args, below, meth, c, Q, hw, hx, hb, hml, hown, hts, hK, hH0, hscr, hnm, hroom, hret⟩ := X
  intro H locs ls hR hS hL
  exact (hw H locs cs ss _).mpr (lv_if_lt hx hb hd ht (fun q => (hw H locs cs ss _).mp (kt ((aI_lt ha in0).mp q) H locs ls hR hS hL)) (fun q => (hw H locs cs ss _).mp (kf (by have q3 := mt (aI_lt ha in0).mpr q; omega) H locs ls hR hS hL)))
theorem A_icmp_ge (X : aOk x d cc own nm ret mc ms post) {a b : Int} {off : Int} {t : Nat} (ha : inR a) (hb0 : inR b) (hd : decode cc pc = .ok (.if_icmp .ge off, 3)) (kt : b ≤ a → AW x cs ss n h t lv st) (kf : a < b → AW x cs ss n h (pc + 3) lv st) (ht : (pc : Int) + off = (t : Int) := by decide) : AW x cs ss n h pc lv (aI b :: aI a :: st) := by
  obtain ⟨p, e, R, s, args, below, meth, c, Q, hw, hx, hb, hml, hown, hts, hK, hH0, hscr, hnm, hroom, hret⟩ := X
  intro H locs ls hR hS hL
  exact (hw H locs cs ss _).mpr (lv_icmp_ge hx hb hd ht (fun q => (hw H locs cs ss _).mp (kt ((aI_le hb0 ha).mp q) H locs ls hR hS hL)) (fun q => (hw H locs cs ss _).mp (kf (by have q3 := mt (aI_le hb0 ha).mpr q; omega) H locs ls hR hS hL)))
theorem A_if_ge (X : aOk x d cc own nm ret mc ms post) {a : Int} {off : Int} {t : Nat} (ha : inR a) (hd : decode cc pc = .ok (.ifCond .ge off, 3)) (kt : 0 ≤ a → AW x cs ss n h t lv st) (kf : a < 0 → AW x cs ss n h (pc + 3) lv st) (ht : (pc : Int) + off = (t : Int) := by decide) : AW x cs ss n h pc lv (aI a :: st) := by
  obtain ⟨p, e, R, s, args, below, meth, c, Q, hw, hx, hb, hml, hown, hts, hK, hH0, hscr, hnm, hroom, hret⟩ := X
  intro H locs ls hR hS hL
  exact (hw H locs cs ss _).mpr (lv_if_ge hx hb hd ht (fun q => (hw H locs cs ss _).mp (kt ((aI_le in0 ha).mp q) H locs ls hR hS hL)) (fun q => (hw H locs cs ss _).mp (kf (by have q3 := mt (aI_le in0 ha).mpr q; omega) H locs ls hR hS hL)))
theorem A_icmp_gt (X : aOk x d cc own nm ret mc ms post) {a b : Int} {off : Int} {t : Nat} (ha : inR a) (hb0 : inR b) (hd : decode cc pc = .ok (.if_icmp .gt off, 3)) (kt : b < a → AW x cs ss n h t lv st) (kf : a ≤ b → AW x cs ss n h (pc + 3) lv st) (ht : (pc : Int) + off = (t : Int) := by decide) : AW x cs ss n h pc lv (aI b :: aI a :: st) := by
  obtain ⟨p, e, R, s, args, below, meth, c, Q, hw, hx, hb, hml, hown, hts, hK, hH0, hscr, hnm, hroom, hret⟩ := X
  intro H locs ls hR hS hL
  exact (hw H locs cs ss _).mpr (lv_icmp_gt hx hb hd ht (fun q => (hw H locs cs ss _).mp (kt ((aI_lt hb0 ha).mp q) H locs ls hR hS hL)) (fun q => (hw H locs cs ss _).mp (kf (by have q3 := mt (aI_lt hb0 ha).mpr q; omega) H locs ls hR hS hL)))
theorem A_if_gt (X : aOk x d cc own nm ret mc ms post) {a : Int} {off : Int} {t : Nat} (ha : inR a) (hd : decode cc pc = .ok (.ifCond .gt off, 3)) (kt : 0 < a → AW x cs ss n h t lv st) (kf : a ≤ 0 → AW x cs ss n h (pc + 3) lv st) (ht : (pc : Int) + off = (t : Int) := by decide) : AW x cs ss n h pc lv (aI a :: st) := by
  obtain ⟨p, e, R, s, args, below, meth, c, Q, hw, hx, hb, hml, hown, hts, hK, hH0, hscr, hnm, hroom, hret⟩ := X
  intro H locs ls hR hS hL
  exact (hw H locs cs ss _).mpr (lv_if_gt hx hb hd ht (fun q => (hw H locs cs ss _).mp (kt ((aI_lt in0 ha).mp q) H locs ls hR hS hL)) (fun q => (hw H locs cs ss _).mp (kf (by have q3 := mt (aI_lt in0 ha).mpr q; omega) H locs ls hR hS hL)))
theorem A_icmp_le (X : aOk x d cc own nm ret mc ms post) {a b : Int} {off : Int} {t : Nat} (ha : inR a) (hb0 : inR b) (hd : decode cc pc = .ok (.if_icmp .le off, 3)) (kt : a ≤ b → AW x cs ss n h t lv st) (kf : b < a → AW x cs ss n h (pc + 3) lv st) (ht : (pc : Int) + off = (t : Int) := by decide) : AW x cs ss n h pc lv (aI b :: aI a :: st) := by
  obtain ⟨p, e, R, s, args, below, meth, c, Q, hw, hx, hb, hml, hown, hts, hK, hH0, hscr, hnm, hroom, hret⟩ := X
  intro H locs ls hR hS hL
  exact (hw H locs cs ss _).mpr (lv_icmp_le hx hb hd ht (fun q => (hw H locs cs ss _).mp (kt ((aI_le ha hb0).mp q) H locs ls hR hS hL)) (fun q => (hw H locs cs ss _).mp (kf (by have q3 := mt (aI_le ha hb0).mpr q; omega) H locs ls hR hS hL)))
theorem A_if_le (X : aOk x d cc own nm ret mc ms post) {a : Int} {off : Int} {t : Nat} (ha : inR a) (hd : decode cc pc = .ok (.ifCond .le off, 3)) (kt : a ≤ 0 → AW x cs ss n h t lv st) (kf : 0 < a → AW x cs ss n h (pc + 3) lv st) (ht : (pc : Int) + off = (t : Int) := by decide) : AW x cs ss n h pc lv (aI a :: st) := by
  obtain ⟨p, e, R, s, args, below, meth, c, Q, hw, hx, hb, hml, hown, hts, hK, hH0, hscr, hnm, hroom, hret⟩ := X
  intro H locs ls hR hS hL
  exact (hw H locs cs ss _).mpr (lv_if_le hx hb hd ht (fun q => (hw H locs cs ss _).mp (kt ((aI_le ha in0).mp q) H locs ls hR hS hL)) (fun q => (hw H locs cs ss _).mp (kf (by have q3 := mt (aI_le ha in0).mpr q; omega) H locs ls hR hS hL)))
theorem A_ifnonnull (X : aOk x d cc own nm ret mc ms post) {a : Nat} {off : Int} {t : Nat} (hd : decode cc pc = .ok (.ifnonnull off, 3)) (k : AW x cs ss n h t lv st) (ht : (pc : Int) + off = (t : Int) := by decide) : AW x cs ss n h pc lv (.ref a :: st) := by
  obtain ⟨p, e, R, s, args, below, meth, c, Q, hw, hx, hb, hml, hown, hts, hK, hH0, hscr, hnm, hroom, hret⟩ := X
  intro H locs ls hR hS hL
  exact (hw H locs cs ss _).mpr (lv_ifnonnull hx hb hd ht ((hw H locs cs ss _).mp (k H locs ls hR hS hL)))
theorem A_tabOut (X : aOk x d cc own nm ret mc ms post) {a dflt lo hi : Int} {offs : Array Int} {len t : Nat} (ha : inR a) (hd : decode cc pc = .ok (.tableswitch dflt lo hi offs, len)) (ho : a < lo ∨ hi < a) (k : AW x cs ss n h t lv st) (ht : (pc : Int) + dflt = (t : Int) := by decide) : AW x cs ss n h pc lv (aI a :: st) := by
  obtain ⟨p, e, R, s, args, below, meth, c, Q, hw, hx, hb, hml, hown, hts, hK, hH0, hscr, hnm, hroom, hret⟩ := X
  intro H locs ls hR hS hL
  exact (hw H locs cs ss _).mpr (lv_tableOut hx hb hd (by rw [aT ha]; exact ho) ht ((hw H locs cs ss _).mp (k H locs ls hR hS hL)))
theorem A_tabIn (X : aOk x d cc own nm ret mc ms post) {a dflt lo hi off : Int} {offs : Array Int} {len t : Nat} (ha : inR a) (hd : decode cc pc = .ok (.tableswitch dflt lo hi offs, len)) (j : Nat) (hj : a = lo + (j : Int)) (hhi : lo + (j : Int) ≤ hi) (ho : offs[j]? = some off) (k : AW x cs ss n h t lv st) (ht : (pc : Int) + off = (t : Int) := by decide) : AW x cs ss n h pc lv (aI a :: st) := by
  obtain ⟨p, e, R, s, args, below, meth, c, Q, hw, hx, hb, hml, hown, hts, hK, hH0, hscr, hnm, hroom, hret⟩ := X
  intro H locs ls hR hS hL
  exact (hw H locs cs ss _).mpr (lv_tableIn hx hb hd (by rw [aT ha]; omega) (by rw [aT ha]; omega) (by rw [aT ha, hj, show lo + (j : Int) - lo = (j : Int) by omega]; exact ho) ht ((hw H locs cs ss _).mp (k H locs ls hR hS hL)))
theorem A_lookup (X : aOk x d cc own nm ret mc ms post) {a dflt off : Int} {ps : Array (Int × Int)} {len t : Nat} (ha : inR a) (hd : decode cc pc = .ok (.lookupswitch dflt ps, len)) (ho : Op.lookupswitch.offset ps.toList dflt a = off) (k : AW x cs ss n h t lv st) (hp : (ps.toList.zip (ps.toList.drop 1)).all (fun (a, next) => a.1 < next.1) = true := by decide) (ht : (pc : Int) + off = (t : Int) := by decide) : AW x cs ss n h pc lv (aI a :: st) := by
  obtain ⟨p, e, R, s, args, below, meth, c, Q, hw, hx, hb, hml, hown, hts, hK, hH0, hscr, hnm, hroom, hret⟩ := X
  intro H locs ls hR hS hL
  exact (hw H locs cs ss _).mpr (lv_lookup hx hb hd hp (by rw [aT ha]; exact ho) ht ((hw H locs cs ss _).mp (k H locs ls hR hS hL)))
end AR
