/-! the class: the soonest -/
def Ev (R u v : Int) : Prop := 1 ≤ u ∧ v ≤ u * R ∧ u ≤ (v + 1) * R
theorem anyB_c {p : Int → Bool} : ∀ j : Nat, anyB p j = true ↔ ∃ q : Int, 1 ≤ q ∧ q ≤ (j : Int) ∧ p q = true
  | 0 => ⟨fun h => by simp [anyB] at h, fun ⟨q, a, b, c⟩ => by omega⟩
  | j + 1 => by
    rw [anyB, Bool.or_eq_true, anyB_c j]
    constructor
    · rintro (⟨q, a, b, c⟩ | h)
      · exact ⟨q, a, by omega, c⟩
      · exact ⟨(j : Int) + 1, by omega, by omega, h⟩
    · rintro ⟨q, a, b, c⟩
      by_cases e : q = (j : Int) + 1
      · subst e; exact Or.inr c
      · exact Or.inl ⟨q, a, by omega, c⟩
def Wk (R r u v : Int) : Prop := r ≤ R ∧ r ≤ u ∧ ((v = 0 ∧ u = r) ∨ (1 ≤ v ∧ Ev R v (u - r)))
theorem wk_e {R u v : Int} (hR : 1 ≤ R ∧ R ≤ 4) (hu : 0 ≤ u) (hv : 0 ≤ v) : (∃ q : Int, 1 ≤ q ∧ q ≤ R ∧ Wk R q u v) ↔ Ev R u v := by
  unfold Wk Ev
  constructor
  · rintro ⟨q, a, b, c, d, e⟩
    rcases (show R = 1 ∨ R = 2 ∨ R = 3 ∨ R = 4 by omega) with rfl | rfl | rfl | rfl <;> omega
  · rintro ⟨a, b, c⟩
    by_cases h : v = 0
    · subst h
      exact ⟨u, a, by omega, by omega, by omega, Or.inl ⟨rfl, rfl⟩⟩
    · by_cases h2 : u - v * R ≤ 1
      · refine ⟨1, by omega, by omega, by omega, by omega, Or.inr ⟨by omega, by omega, by omega, ?_⟩⟩
        rw [show u - 1 + 1 = u by omega]; exact b
      · refine ⟨u - v * R, by omega, ?_, ?_, ?_, Or.inr ⟨by omega, by omega, by omega, ?_⟩⟩
        all_goals rcases (show R = 1 ∨ R = 2 ∨ R = 3 ∨ R = 4 by omega) with rfl | rfl | rfl | rfl <;> omega
theorem yd_b {a b f : Int} (ha : 1 ≤ a) (hb : 1 ≤ b) : 1 ≤ yd a b f := by unfold yd; split <;> assumption
theorem rc_0 {hp a b f y : Int} {k : Nat} : rc hp a b k f 0 y = true ↔ k = 0 ∧ y = 0 := by
  cases k with
  | zero => simp [rc]
  | succ k => simp [rc]
theorem rc_c {hp a b : Int} (hh : 0 ≤ hp ∧ hp ≤ 3) (ha : 1 ≤ a) (hb : 1 ≤ b) : ∀ (k : Nat) (f r y : Int), 1 ≤ r → (rc hp a b k f r y = true ↔ ∃ u v : Int, 0 ≤ v ∧ u + v = (k : Int) ∧ u * yd a b f + v * yd a b (1 - f) = y ∧ Wk (hp + 1) r u v)
  | 0, f, r, y, hr => by
    constructor
    · intro h; simp [rc] at h; omega
    · rintro ⟨u, v, h1, h2, h3, h4, h5, h6⟩; omega
  | k + 1, f, r, y, hr => by
    have A1 := yd_b (f := f) ha hb
    have B1 := yd_b (f := 1 - f) ha hb
    have ff : 1 - (1 - f) = f := by omega
    rw [rc, Bool.and_eq_true, decide_eq_true_eq]
    generalize hA : yd a b f = A at *
    generalize hB : yd a b (1 - f) = B at *
    have pos : ∀ u v : Int, 1 ≤ u → 0 ≤ v → u * A + v * B = y → A ≤ y ∧ (u - 1) * A + v * B = y - A := fun u v h1 h2 h3 => by
      have e : (u - 1) * A = u * A - A := by rw [Int.sub_mul, Int.one_mul]
      have p1 : 0 ≤ (u - 1) * A := Int.mul_nonneg (by omega) (by omega)
      have p2 : 0 ≤ v * B := Int.mul_nonneg h2 (by omega)
      omega
    by_cases h1 : r = 1
    · subst h1
      rw [if_pos rfl, Bool.or_eq_true, rc_0, anyB_c]
      constructor
      · rintro ⟨⟨h1, h2, h3⟩, ⟨h4, h5⟩ | ⟨q, h4, h5, h6⟩⟩
        · exact ⟨1, 0, by omega, by omega, by omega, by omega, by omega, Or.inl ⟨rfl, rfl⟩⟩
        · obtain ⟨u, v, g1, g2, g3, g4⟩ := (rc_c hh ha hb k (1 - f) q (y - A) h4).mp h6
          rw [ff, hA, hB] at g3
          have ev := (wk_e (R := hp + 1) (u := u) (v := v) (by omega) (by have := g4.2.1; omega) g1).mp ⟨q, h4, by omega, g4⟩
          have e : (v + 1) * A = v * A + A := by rw [Int.add_mul, Int.one_mul]
          refine ⟨v + 1, u, by have := ev.1; omega, by omega, by omega, by omega, by omega, Or.inr ⟨ev.1, ?_⟩⟩
          rw [show v + 1 - 1 = v by omega]; exact ev
      · rintro ⟨u, v, g1, g2, g3, g4, g5, g6⟩
        obtain ⟨p1, p2⟩ := pos u v (by omega) g1 g3
        refine ⟨⟨by omega, by omega, p1⟩, ?_⟩
        rcases g6 with ⟨g6, g7⟩ | ⟨g6, g7⟩
        · subst g6; subst g7
          exact Or.inl ⟨by omega, by omega⟩
        · obtain ⟨q, q1, q2, q3⟩ := (wk_e (R := hp + 1) (u := v) (v := u - 1) (by omega) g1 (by omega)).mpr g7
          refine Or.inr ⟨q, q1, by omega, (rc_c hh ha hb k (1 - f) q (y - A) q1).mpr ⟨v, u - 1, by omega, by omega, ?_, q3⟩⟩
          rw [ff, hA, hB]; omega
    · rw [if_neg h1, rc_c hh ha hb k f (r - 1) (y - A) (by omega), hA, hB]
      constructor
      · rintro ⟨⟨h1, h2, h3⟩, u, v, g1, g2, g3, g4, g5, g6⟩
        have e : (u + 1) * A = u * A + A := by rw [Int.add_mul, Int.one_mul]
        refine ⟨u + 1, v, g1, by omega, by omega, by omega, by omega, ?_⟩
        rcases g6 with ⟨g6, g7⟩ | ⟨g6, g7⟩
        · exact Or.inl ⟨g6, by omega⟩
        · rw [show u - (r - 1) = u + 1 - r by omega] at g7
          exact Or.inr ⟨g6, g7⟩
      · rintro ⟨u, v, g1, g2, g3, g4, g5, g6⟩
        obtain ⟨p1, p2⟩ := pos u v (by omega) g1 g3
        refine ⟨⟨by omega, g4, p1⟩, u - 1, v, g1, by omega, p2, by omega, by omega, ?_⟩
        rcases g6 with ⟨g6, g7⟩ | ⟨g6, g7⟩
        · exact Or.inl ⟨g6, by omega⟩
        · rw [show u - r = u - 1 - (r - 1) by omega] at g7
          exact Or.inr ⟨g6, g7⟩
abbrev cbw (R l r : Int) : Prop := l ≤ (r + 1) * R ∧ r ≤ (l + 1) * R
theorem okS_c {hp a b m : Int} (hh : 0 ≤ hp ∧ hp ≤ 3) (ha : 1 ≤ a) (hb : 1 ≤ b) {k : Nat} (hk : 1 ≤ k) : okS hp a b m k = true ↔ ∃ l r : Int, 0 ≤ l ∧ 0 ≤ r ∧ l + r = (k : Int) ∧ l * a + r * b = m ∧ cbw (hp + 1) l r := by
  have e0 : yd a b 0 = a := rfl
  have e1 : yd a b 1 = b := rfl
  have ee : ((((hp + 1).toNat : Nat)) : Int) = hp + 1 := by omega
  have side : ∀ f, anyB (fun q => rc hp a b k f q m) (hp + 1).toNat = true ↔ ∃ u v : Int, 0 ≤ u ∧ 0 ≤ v ∧ u + v = (k : Int) ∧ u * yd a b f + v * yd a b (1 - f) = m ∧ Ev (hp + 1) u v := by
    intro f
    rw [anyB_c, ee]
    constructor
    · rintro ⟨q, q1, q2, q3⟩
      obtain ⟨u, v, g1, g2, g3, g4⟩ := (rc_c hh ha hb k f q m q1).mp q3
      have hu : 0 ≤ u := by have := g4.2.1; omega
      exact ⟨u, v, hu, g1, g2, g3, (wk_e (by omega) hu g1).mp ⟨q, q1, q2, g4⟩⟩
    · rintro ⟨u, v, g0, g1, g2, g3, g4⟩
      obtain ⟨q, q1, q2, q3⟩ := (wk_e (R := hp + 1) (by omega) g0 g1).mpr g4
      exact ⟨q, q1, q2, (rc_c hh ha hb k f q m q1).mpr ⟨u, v, g1, g2, g3, q3⟩⟩
  unfold okS
  rw [Bool.or_eq_true, side, side]
  have x0 : yd a b (1 - 0) = b := rfl
  have x1 : yd a b (1 - 1) = a := rfl
  rw [e0, e1, x0, x1]
  unfold Ev cbw
  constructor
  · rintro (⟨u, v, g0, g1, g2, g3, g4, g5, g6⟩ | ⟨u, v, g0, g1, g2, g3, g4, g5, g6⟩)
    · refine ⟨u, v, g0, g1, g2, g3, g6, ?_⟩
      rcases (show hp = 0 ∨ hp = 1 ∨ hp = 2 ∨ hp = 3 by omega) with rfl | rfl | rfl | rfl <;> omega
    · refine ⟨v, u, g1, g0, by omega, by omega, ?_, g6⟩
      rcases (show hp = 0 ∨ hp = 1 ∨ hp = 2 ∨ hp = 3 by omega) with rfl | rfl | rfl | rfl <;> omega
  · rintro ⟨l, r, g0, g1, g2, g3, g4, g5⟩
    by_cases q : 1 ≤ l ∧ r ≤ l * (hp + 1)
    · exact Or.inl ⟨l, r, g0, g1, g2, g3, q.1, q.2, g4⟩
    · refine Or.inr ⟨r, l, g1, g0, by omega, by omega, ?_, ?_, g5⟩
      all_goals rcases (show hp = 0 ∨ hp = 1 ∨ hp = 2 ∨ hp = 3 by omega) with rfl | rfl | rfl | rfl <;> omega
theorem fnd_c (p : Nat → Bool) : ∀ j : Nat, (fnd p j = -9 ∧ ∀ k, 1 ≤ k → k ≤ j → p k = false) ∨ (∃ k, (1 ≤ k ∧ k ≤ j) ∧ p k = true ∧ fnd p j = (k : Int) ∧ ∀ k', 1 ≤ k' → k' < k → p k' = false)
  | 0 => Or.inl ⟨rfl, fun k a b => by omega⟩
  | j + 1 => by
    rcases fnd_c p j with ⟨h1, h2⟩ | ⟨k, h1, h2, h3, h4⟩
    · rw [fnd, if_pos h1]
      cases hq : p (j + 1) with
      | true => exact Or.inr ⟨j + 1, ⟨by omega, by omega⟩, hq, by simp, fun k a b => h2 k a (by omega)⟩
      | false =>
        refine Or.inl ⟨by simp, fun k a b => ?_⟩
        by_cases e : k = j + 1
        · subst e; exact hq
        · exact h2 k a (by omega)
    · rw [fnd, if_neg (by omega)]
      exact Or.inr ⟨k, ⟨h1.1, by omega⟩, h2, h3, h4⟩
def rt (m a b : Int) (j : Nat) : Int := (m - (j : Int) * a) / b
def vld (R m a b : Int) (j : Nat) : Prop := 0 ≤ m - (j : Int) * a ∧ rt m a b j * b = m - (j : Int) * a ∧ (j : Int) + rt m a b j ≤ 60 ∧ cbw R (j : Int) (rt m a b j)
theorem rt_0 {m a b : Int} {j : Nat} (hb : 1 ≤ b) (h : 0 ≤ m - (j : Int) * a) : 0 ≤ rt m a b j := Int.ediv_nonneg h (by omega)
theorem vld_ok {hp m a b : Int} (hh : 0 ≤ hp ∧ hp ≤ 3) (ha : 1 ≤ a) (hb : 1 ≤ b) (hm : 1 ≤ m) {j : Nat} (hv : vld (hp + 1) m a b j) : ∃ k : Nat, (j : Int) + rt m a b j = (k : Int) ∧ (1 ≤ k ∧ k ≤ 60) ∧ okS hp a b m k = true := by
  obtain ⟨h1, h2, h3, h4⟩ := hv
  have h0 := rt_0 (a := a) hb h1
  have hk : 1 ≤ (j : Int) + rt m a b j := by
    rcases (show (1 ≤ (j : Int) + rt m a b j) ∨ ((j : Int) = 0 ∧ rt m a b j = 0) by omega) with q | ⟨q1, q2⟩
    · exact q
    · rw [q2, q1] at h2; omega
  refine ⟨((j : Int) + rt m a b j).toNat, by omega, by omega, (okS_c hh ha hb (by omega)).mpr ⟨(j : Int), rt m a b j, by omega, h0, by omega, by omega, h4⟩⟩
theorem ok_vld {hp m a b : Int} (hh : 0 ≤ hp ∧ hp ≤ 3) (ha : 1 ≤ a) (hb : 1 ≤ b) {k : Nat} (hk : 1 ≤ k ∧ k ≤ 60) (h : okS hp a b m k = true) : ∃ j : Nat, vld (hp + 1) m a b j ∧ (j : Int) + rt m a b j = (k : Int) := by
  obtain ⟨l, r, g0, g1, g2, g3, g4⟩ := (okS_c hh ha hb hk.1).mp h
  obtain ⟨j, rfl⟩ := Int.eq_ofNat_of_zero_le g0
  have e : m - (j : Int) * a = r * b := by omega
  have er : rt m a b j = r := by unfold rt; rw [e]; exact Int.mul_ediv_cancel r (by omega)
  refine ⟨j, ⟨?_, ?_, ?_, ?_⟩, ?_⟩
  · rw [e]; exact Int.mul_nonneg g1 (by omega)
  · rw [er, e]
  · rw [er]; omega
  · rw [er]; exact g4
  · rw [er]; exact g2
theorem soon_f {hp m a b s : Int} (hh : 0 ≤ hp ∧ hp ≤ 3) (ha : 1 ≤ a) (hb : 1 ≤ b) (hm : 1 ≤ m) (h : (s = -9 ∧ ∀ j : Nat, ¬ vld (hp + 1) m a b j) ∨ (∃ j : Nat, vld (hp + 1) m a b j ∧ s = (j : Int) + rt m a b j ∧ ∀ j' : Nat, vld (hp + 1) m a b j' → s ≤ (j' : Int) + rt m a b j')) : s = fnd (okS hp a b m) 60 := by
  rcases fnd_c (okS hp a b m) 60 with ⟨f1, f2⟩ | ⟨k0, f1, f2, f3, f4⟩
  · rw [f1]
    rcases h with ⟨h, -⟩ | ⟨j, h1, h2, h3⟩
    · exact h
    · obtain ⟨k, k1, k2, k3⟩ := vld_ok hh ha hb hm h1
      rw [f2 k k2.1 k2.2] at k3
      exact Bool.noConfusion k3
  · rw [f3]
    obtain ⟨j0, v1, v2⟩ := ok_vld hh ha hb f1 f2
    rcases h with ⟨-, h⟩ | ⟨j, h1, h2, h3⟩
    · exact absurd v1 (h j0)
    · have h4 := h3 j0 v1
      obtain ⟨k, k1, k2, k3⟩ := vld_ok hh ha hb hm h1
      by_cases q : k < k0
      · rw [f4 k k2.1 q] at k3
        exact Bool.noConfusion k3
      · omega
set_option maxRecDepth 100000 in
theorem x_canBe {G : aG} {d n : Nat} {h : AH} {xa : Nat} {fs fn fp fi fk ft fe : Int → Int} {un sz sm tr : Int} {l r : Int} (hl : 0 ≤ l ∧ l ≤ 100) (hr : 0 ≤ r ∧ r ≤ 100) (hI : xI fs fn fe ft un sz sm) (hW : xW G xa h fs fn fp fi fk ft fe un sz sm tr) : aD G d kX10_canBeWalked [.ref xa, aI l, aI r] n h (some (aI (bI (cbw (fs 2 + 1) l r)))) := by
  have hIq := hI; have hWq := hW; obtain ⟨hok, ⟨hn, hbz⟩, he, hun, ⟨z, hz, hz2, htk⟩, hsm, hse⟩ := hI; obtain ⟨su, dr, pl, ts, tk, nu, hT, cT, fo, ga, li, fd, e1, e2, e3, g1, g2, g3, hsd, h_this, hnu, h_this_text, h_this_text_letters, hC, hXd, hNw, hI0, hI1, h_this_partings, h_this_partings_own, h_this_partings_ahead, h_this_partings_sum, h_this_kinds, h_this_deeds, hHs, h_this_seenFoot, h_this_seenCell, h_this_seenWear, hSe, hJd⟩ := hW; have hNw0 := hNw; obtain ⟨no, nf, ⟨h_this_present, h_this_present_owner, h_this_present_feet⟩, hno, hnf⟩ := hNw; have h_this_told := suC_o hC; have hg := hok.1; have hal := al_b hg
  have h2 := hok.2.2.1
  have m1 : 0 ≤ (r + 1) * (fs 2 + 1) ∧ (r + 1) * (fs 2 + 1) ≤ 1000 := by
    rcases (show fs 2 = 0 ∨ fs 2 = 1 ∨ fs 2 = 2 ∨ fs 2 = 3 by omega) with q | q | q | q <;> rw [q] <;> omega
  have m2 : 0 ≤ (l + 1) * (fs 2 + 1) ∧ (l + 1) * (fs 2 + 1) ≤ 1000 := by
    rcases (show fs 2 = 0 ∨ fs 2 = 1 ∨ fs 2 = 2 ∨ fs 2 = 3 by omega) with q | q | q | q <;> rw [q] <;> omega
  refine aCt_of (lv := [some (.ref xa), some (aI l), some (aI r), none]) knX10_canBeWalked.1 rfl rfl (Nat.le_of_ble_eq_true rfl) (fun x hG hsc X => ?_)
  subst hG
  refine A_al0 X dX10_canBeWalked_0 ?_
  refine A_getf X flX10_19 h_this rfl dX10_canBeWalked_1 ?_
  refine A_getf X flX10_219 h_this_told rfl dX10_canBeWalked_4 ?_
  refine A_iconst X dX10_canBeWalked_7 ?_
  refine A_iadd X dX10_canBeWalked_8 ?_
  refine A_is3 X dX10_canBeWalked_9 ?_
  refine A_il1 X dX10_canBeWalked_10 ?_
  refine A_il2 X dX10_canBeWalked_11 ?_
  refine A_iconst X dX10_canBeWalked_12 ?_
  refine A_iadd X dX10_canBeWalked_13 ?_
  refine A_il3 X dX10_canBeWalked_14 ?_
  refine A_imul X dX10_canBeWalked_15 ?_
  refine A_icmp_gt (t := 32) X (by omega) (by omega) dX10_canBeWalked_16 (fun c16 => ?_) (fun c16 => ?_)
  · refine A_iconst X dX10_canBeWalked_32 ?_
    exact A_retz X dX10_canBeWalked_33 rfl (Or.inl rfl) ⟨bI_0 (fun q => by have := q.1; omega), rfl, rfl⟩
  · refine A_il2 X dX10_canBeWalked_19 ?_
    refine A_il1 X dX10_canBeWalked_20 ?_
    refine A_iconst X dX10_canBeWalked_21 ?_
    refine A_iadd X dX10_canBeWalked_22 ?_
    refine A_il3 X dX10_canBeWalked_23 ?_
    refine A_imul X dX10_canBeWalked_24 ?_
    refine A_icmp_gt (t := 32) X (by omega) (by omega) dX10_canBeWalked_25 (fun c25 => ?_) (fun c25 => ?_)
    · refine A_iconst X dX10_canBeWalked_32 ?_
      exact A_retz X dX10_canBeWalked_33 rfl (Or.inl rfl) ⟨bI_0 (fun q => by have := q.2; omega), rfl, rfl⟩
    · refine A_iconst X dX10_canBeWalked_28 ?_
      refine A_goto (t := 33) X dX10_canBeWalked_29 ?_
      exact A_retz X dX10_canBeWalked_33 rfl (Or.inr rfl) ⟨bI_1 (⟨by omega, by omega⟩), rfl, rfl⟩
def sI (R m a b : Int) (i : Nat) (s : Int) : Prop := (s = -9 ∧ ∀ j : Nat, j < i → ¬ vld R m a b j) ∨ (∃ j : Nat, j < i ∧ vld R m a b j ∧ s = (j : Int) + rt m a b j ∧ ∀ j' : Nat, j' < i → vld R m a b j' → s ≤ (j' : Int) + rt m a b j')
theorem sI_all {R m a b s : Int} {i : Nat} (h : sI R m a b i s) (hn : ∀ j : Nat, i ≤ j → ¬ vld R m a b j) : (s = -9 ∧ ∀ j : Nat, ¬ vld R m a b j) ∨ (∃ j : Nat, vld R m a b j ∧ s = (j : Int) + rt m a b j ∧ ∀ j' : Nat, vld R m a b j' → s ≤ (j' : Int) + rt m a b j') := by
  have lt : ∀ j : Nat, vld R m a b j → j < i := fun j q => Nat.lt_of_not_le (fun z => hn j z q)
  rcases h with ⟨h1, h2⟩ | ⟨j, h1, h2, h3, h4⟩
  · exact Or.inl ⟨h1, fun j q => h2 j (lt j q) q⟩
  · exact Or.inr ⟨j, h2, h3, fun j' q => h4 j' (lt j' q) q⟩
theorem sI_no {R m a b s : Int} {i : Nat} (h : sI R m a b i s) (hn : ¬ vld R m a b i) : sI R m a b (i + 1) s := by
  have lt : ∀ j : Nat, j < i + 1 → vld R m a b j → j < i := fun j z q => by
    by_cases e : j = i
    · subst e; exact absurd q hn
    · omega
  rcases h with ⟨h1, h2⟩ | ⟨j, h1, h2, h3, h4⟩
  · exact Or.inl ⟨h1, fun j z q => h2 j (lt j z q) q⟩
  · exact Or.inr ⟨j, by omega, h2, h3, fun j' z q => h4 j' (lt j' z q) q⟩
theorem sI_old {R m a b s : Int} {i : Nat} (h : sI R m a b i s) (h9 : s ≠ -9) (hle : s ≤ (i : Int) + rt m a b i) : sI R m a b (i + 1) s := by
  rcases h with ⟨h1, -⟩ | ⟨j, h1, h2, h3, h4⟩
  · exact absurd h1 h9
  · refine Or.inr ⟨j, by omega, h2, h3, fun j' z q => ?_⟩
    by_cases e : j' = i
    · subst e; exact hle
    · exact h4 j' (by omega) q
theorem sI_new {R m a b s : Int} {i : Nat} (hb : 1 ≤ b) (h : sI R m a b i s) (hv : vld R m a b i) (hle : s = -9 ∨ (i : Int) + rt m a b i < s) : sI R m a b (i + 1) ((i : Int) + rt m a b i) := by
  refine Or.inr ⟨i, by omega, hv, rfl, fun j' z q => ?_⟩
  by_cases e : j' = i
  · subst e; omega
  · rcases h with ⟨h1, h2⟩ | ⟨j, h1, h2, h3, h4⟩
    · exact absurd q (h2 j' (by omega))
    · have := h4 j' (by omega) q
      rcases hle with q9 | q9
      · have := rt_0 (m := m) (a := a) hb h2.1
        omega
      · omega
theorem mul_b {a : Int} (ha : 1 ≤ a ∧ a ≤ 9) (i : Int) (hi : 0 ≤ i ∧ i ≤ 100) : i ≤ i * a ∧ i * a ≤ 900 := by
  rcases (show a = 1 ∨ a = 2 ∨ a = 3 ∨ a = 4 ∨ a = 5 ∨ a = 6 ∨ a = 7 ∨ a = 8 ∨ a = 9 by omega) with rfl | rfl | rfl | rfl | rfl | rfl | rfl | rfl | rfl <;> omega
set_option maxRecDepth 100000 in
theorem x_soon {G : aG} {d n : Nat} {h : AH} {xa : Nat} {fs fn fp fi fk ft fe : Int → Int} {un sz sm tr : Int} {m a b : Int} (hm : inR m) (ha : inR a) (hb : inR b) (hI : xI fs fn fe ft un sz sm) (hW : xW G xa h fs fn fp fi fk ft fe un sz sm tr) : aD G (d + 1) kX10_soonest [.ref xa, aI m, aI a, aI b] n h (some (aI (qSoon fs m a b))) := by
  have hIq := hI; have hWq := hW; obtain ⟨hok, ⟨hn, hbz⟩, he, hun, ⟨z, hz, hz2, htk⟩, hsm, hse⟩ := hI; obtain ⟨su, dr, pl, ts, tk, nu, hT, cT, fo, ga, li, fd, e1, e2, e3, g1, g2, g3, hsd, h_this, hnu, h_this_text, h_this_text_letters, hC, hXd, hNw, hI0, hI1, h_this_partings, h_this_partings_own, h_this_partings_ahead, h_this_partings_sum, h_this_kinds, h_this_deeds, hHs, h_this_seenFoot, h_this_seenCell, h_this_seenWear, hSe, hJd⟩ := hW; have hNw0 := hNw; obtain ⟨no, nf, ⟨h_this_present, h_this_present_owner, h_this_present_feet⟩, hno, hnf⟩ := hNw; have h_this_told := suC_o hC; have hg := hok.1; have hal := al_b hg
  have h2 := hok.2.2.1
  refine aCt_of (lv := [some (.ref xa), some (aI m), some (aI a), some (aI b), none, none, none, none, none]) knX10_soonest.1 rfl rfl (Nat.le_of_ble_eq_true rfl) (fun x hG hsc X => ?_)
  subst hG
  refine A_il1 X dX10_soonest_0 ?_
  refine A_iconst X dX10_soonest_1 ?_
  refine A_icmp_lt (t := 33) X (by omega) (by omega) dX10_soonest_2 (fun c2 => ?_) (fun c2 => ?_)
  · refine A_iconst X dX10_soonest_33 ?_
    exact A_ret X dX10_soonest_34 rfl ⟨congrArg (fun t => some (aI t)) (by rw [qSoon, if_neg (by omega)]), rfl, rfl⟩
  · refine A_il1 X dX10_soonest_5 ?_
    refine A_bipush X dX10_soonest_6 ?_
    refine A_icmp_gt (t := 33) X (by omega) (by omega) dX10_soonest_8 (fun c8 => ?_) (fun c8 => ?_)
    · refine A_iconst X dX10_soonest_33 ?_
      exact A_ret X dX10_soonest_34 rfl ⟨congrArg (fun t => some (aI t)) (by rw [qSoon, if_neg (by omega)]), rfl, rfl⟩
    · refine A_il2 X dX10_soonest_11 ?_
      refine A_iconst X dX10_soonest_12 ?_
      refine A_icmp_lt (t := 33) X (by omega) (by omega) dX10_soonest_13 (fun c13 => ?_) (fun c13 => ?_)
      · refine A_iconst X dX10_soonest_33 ?_
        exact A_ret X dX10_soonest_34 rfl ⟨congrArg (fun t => some (aI t)) (by rw [qSoon, if_neg (by omega)]), rfl, rfl⟩
      · refine A_il2 X dX10_soonest_16 ?_
        refine A_bipush X dX10_soonest_17 ?_
        refine A_icmp_gt (t := 33) X (by omega) (by omega) dX10_soonest_19 (fun c19 => ?_) (fun c19 => ?_)
        · refine A_iconst X dX10_soonest_33 ?_
          exact A_ret X dX10_soonest_34 rfl ⟨congrArg (fun t => some (aI t)) (by rw [qSoon, if_neg (by omega)]), rfl, rfl⟩
        · refine A_il3 X dX10_soonest_22 ?_
          refine A_iconst X dX10_soonest_23 ?_
          refine A_icmp_lt (t := 33) X (by omega) (by omega) dX10_soonest_24 (fun c24 => ?_) (fun c24 => ?_)
          · refine A_iconst X dX10_soonest_33 ?_
            exact A_ret X dX10_soonest_34 rfl ⟨congrArg (fun t => some (aI t)) (by rw [qSoon, if_neg (by omega)]), rfl, rfl⟩
          · refine A_il3 X dX10_soonest_27 ?_
            refine A_bipush X dX10_soonest_28 ?_
            refine A_icmp_le (t := 35) X (by omega) (by omega) dX10_soonest_30 (fun c30 => ?_) (fun c30 => ?_)
            · refine A_bipush X dX10_soonest_35 ?_
              refine A_is4 X dX10_soonest_37 ?_
              refine A_iconst X dX10_soonest_39 ?_
              refine A_is5 X dX10_soonest_40 ?_
              have hsn : okSn m a b := by omega
              have eQ : qSoon fs m a b = fnd (okS (fs 2) a b m) 60 := by rw [qSoon, if_pos hsn]
              rw [eQ] at X
              obtain ⟨hm1, ha1, hb1⟩ := hsn
              refine lp_0 (P := fun i => ∀ s : Int, (-9 ≤ s ∧ s ≤ 60) → sI (fs 2 + 1) m a b i s → AW x 0 0 n h 42 [some (.ref xa), some (aI m), some (aI a), some (aI b), some (aI s), some (aI (i : Int)), none, none, none] []) 61 ?_ ?_ (-9) (by omega) (Or.inl ⟨rfl, fun j q => by omega⟩)
              · intro s hsb hs
                refine A_il5 X dX10_soonest_42 ?_
                refine A_bipush X dX10_soonest_44 ?_
                refine A_icmp_gt (t := 129) X (by omega) (by omega) dX10_soonest_46 (fun c46 => ?_) (fun c46 => by exfalso; omega)
                refine A_il4 X dX10_soonest_129 ?_
                exact A_ret X dX10_soonest_131 rfl ⟨congrArg (fun t => some (aI t)) (by exact soon_f h2 ha1.1 hb1.1 hm1.1 (sI_all hs (fun j q v => by have := rt_0 (m := m) (a := a) hb1.1 v.1; have := v.2.2.1; omega))), rfl, rfl⟩
              · intro i hi ih s hsb hs
                have mb := mul_b ha1 (i : Int) (by omega)
                have late : m < (i : Int) * a → s = fnd (okS (fs 2) a b m) 60 := fun q => soon_f h2 ha1.1 hb1.1 hm1.1 (sI_all hs (fun j z v => by
                  have := v.1
                  have : (i : Int) * a ≤ (j : Int) * a := Int.mul_le_mul_of_nonneg_right (by omega) (by omega)
                  omega))
                have r0 := fun (q : 0 ≤ m - (i : Int) * a) => rt_0 (m := m) (a := a) (j := i) hb1.1 q
                have r1 := fun (q : 0 ≤ m - (i : Int) * a) => Int.ediv_le_self b q
                have e : (m - (i : Int) * a) / b = rt m a b i := rfl
                refine A_il5 X dX10_soonest_42 ?_
                refine A_bipush X dX10_soonest_44 ?_
                refine A_icmp_gt (t := 129) X (by omega) (by omega) dX10_soonest_46 (fun c46 => by exfalso; omega) (fun c46 => ?_)
                refine A_il5 X dX10_soonest_49 ?_
                refine A_il2 X dX10_soonest_51 ?_
                refine A_imul X dX10_soonest_52 ?_
                refine A_il1 X dX10_soonest_53 ?_
                refine A_icmp_gt (t := 129) X (by omega) (by omega) dX10_soonest_54 (fun c54 => ?_) (fun c54 => ?_)
                · refine A_il4 X dX10_soonest_129 ?_
                  exact A_ret X dX10_soonest_131 rfl ⟨congrArg (fun t => some (aI t)) (by exact late (by omega)), rfl, rfl⟩
                · refine A_il1 X dX10_soonest_57 ?_
                  refine A_il5 X dX10_soonest_58 ?_
                  refine A_il2 X dX10_soonest_60 ?_
                  refine A_imul X dX10_soonest_61 ?_
                  refine A_isub X dX10_soonest_62 ?_
                  refine A_is6 X dX10_soonest_63 ?_
                  refine A_il6 X dX10_soonest_65 ?_
                  refine A_il3 X dX10_soonest_67 ?_
                  refine A_idiv X (by omega) (by omega) dX10_soonest_68 ?_
                  rw [e]
                  have r0 := r0 (by omega)
                  have r1 := r1 (by omega)
                  rw [e] at r1
                  have mb2 := mul_b hb1 (rt m a b i) (by omega)
                  refine A_is7 X dX10_soonest_69 ?_
                  refine A_il5 X dX10_soonest_71 ?_
                  refine A_il7 X dX10_soonest_73 ?_
                  refine A_iadd X dX10_soonest_75 ?_
                  refine A_is8 X dX10_soonest_76 ?_
                  refine A_il7 X dX10_soonest_78 ?_
                  refine A_il3 X dX10_soonest_80 ?_
                  refine A_imul X dX10_soonest_81 ?_
                  refine A_il6 X dX10_soonest_82 ?_
                  refine A_icmp_ne (t := 123) X (by omega) (by omega) dX10_soonest_84 (fun c84 => ?_) (fun c84 => ?_)
                  · refine A_ii5 X dX10_soonest_123 ?_
                    refine A_goto (t := 42) X dX10_soonest_126 ?_
                    exact A_fg6 (A_fg7 (A_fg8 (ih s hsb (sI_no hs (fun v => by have := v.2.1; omega)))))
                  · refine A_il8 X dX10_soonest_87 ?_
                    refine A_bipush X dX10_soonest_89 ?_
                    refine A_icmp_gt (t := 123) X (by omega) (by omega) dX10_soonest_91 (fun c91 => ?_) (fun c91 => ?_)
                    · refine A_ii5 X dX10_soonest_123 ?_
                      refine A_goto (t := 42) X dX10_soonest_126 ?_
                      exact A_fg6 (A_fg7 (A_fg8 (ih s hsb (sI_no hs (fun v => by have := v.2.2.1; omega)))))
                    · refine A_al0 X dX10_soonest_94 ?_
                      refine A_il5 X dX10_soonest_95 ?_
                      refine A_il7 X dX10_soonest_97 ?_
                      refine A_dVi2 X (x_canBe (by omega) (by omega) hIq hWq) h_this knX10_canBeWalked mlX10_238 dX10_soonest_99 ?_
                      refine A_ifb_eq (t := 123) X dX10_soonest_102 (fun c102 => ?_) (fun c102 => ?_)
                      · refine A_ii5 X dX10_soonest_123 ?_
                        refine A_goto (t := 42) X dX10_soonest_126 ?_
                        exact A_fg6 (A_fg7 (A_fg8 (ih s hsb (sI_no hs (fun v => c102 v.2.2.2)))))
                      · refine A_il4 X dX10_soonest_105 ?_
                        refine A_bipush X dX10_soonest_107 ?_
                        refine A_icmp_eq (t := 119) X (by omega) (by omega) dX10_soonest_109 (fun c109 => ?_) (fun c109 => ?_)
                        · refine A_il8 X dX10_soonest_119 ?_
                          refine A_is4 X dX10_soonest_121 ?_
                          refine A_ii5 X dX10_soonest_123 ?_
                          refine A_goto (t := 42) X dX10_soonest_126 ?_
                          exact A_fg6 (A_fg7 (A_fg8 (ih _ (by omega) (sI_new hb1.1 hs ⟨by omega, by omega, by omega, c102⟩ (by omega)))))
                        · refine A_il8 X dX10_soonest_112 ?_
                          refine A_il4 X dX10_soonest_114 ?_
                          refine A_icmp_ge (t := 123) X (by omega) (by omega) dX10_soonest_116 (fun c116 => ?_) (fun c116 => ?_)
                          · refine A_ii5 X dX10_soonest_123 ?_
                            refine A_goto (t := 42) X dX10_soonest_126 ?_
                            exact A_fg6 (A_fg7 (A_fg8 (ih s hsb (sI_old hs (by omega) (by omega)))))
                          · refine A_il8 X dX10_soonest_119 ?_
                            refine A_is4 X dX10_soonest_121 ?_
                            refine A_ii5 X dX10_soonest_123 ?_
                            refine A_goto (t := 42) X dX10_soonest_126 ?_
                            exact A_fg6 (A_fg7 (A_fg8 (ih _ (by omega) (sI_new hb1.1 hs ⟨by omega, by omega, by omega, c102⟩ (by omega)))))
            · refine A_iconst X dX10_soonest_33 ?_
              exact A_ret X dX10_soonest_34 rfl ⟨congrArg (fun t => some (aI t)) (by rw [qSoon, if_neg (by omega)]), rfl, rfl⟩
