/-! the class: the soonest -/
def Ev (R u v : Int) : Prop := 1 ≤ u ∧ v ≤ u * R ∧ u ≤ (v + 1) * R
theorem anyB_c {p : Int → Bool} : ∀ j : Nat, anyB p j = true ↔ ∃ q : Int, 1 ≤ q ∧ q ≤ (j : Int) ∧ p q = true
  | 0 => ⟨fun h => by simp [anyB] at h, fun ⟨q, a, b, c⟩ => by omega⟩
  | j + 1 => by
    rw [anyB, Bool.or_eq_true, anyB_c j]
    constructor
    · rintro (⟨q, a, b, c⟩ | h)
      · exact ⟨q, a, by omega, c⟩
      · exact ⟨(j : Int) + 1, by omega, by omega, h⟩
    · rintro ⟨q, a, b, c⟩
      by_cases e : q = (j : Int) + 1
      · subst e; exact Or.inr c
      · exact Or.inl ⟨q, a, by omega, c⟩
def Wk (R r u v : Int) : Prop := r ≤ R ∧ r ≤ u ∧ ((v = 0 ∧ u = r) ∨ (1 ≤ v ∧ Ev R v (u - r)))
theorem wk_e {R u v : Int} (hR : 1 ≤ R ∧ R ≤ 4) (hu : 0 ≤ u) (hv : 0 ≤ v) : (∃ q : Int, 1 ≤ q ∧ q ≤ R ∧ Wk R q u v) ↔ Ev R u v := by
  unfold Wk Ev
  constructor
  · rintro ⟨q, a, b, c, d, e⟩
    rcases (show R = 1 ∨ R = 2 ∨ R = 3 ∨ R = 4 by omega) with rfl | rfl | rfl | rfl <;> omega
  · rintro ⟨a, b, c⟩
    by_cases h : v = 0
    · subst h
      exact ⟨u, a, by omega, by omega, by omega, Or.inl ⟨rfl, rfl⟩⟩
    · by_cases h2 : u - v * R ≤ 1
      · refine ⟨1, by omega, by omega, by omega, by omega, Or.inr ⟨by omega, by omega, by omega, ?_⟩⟩
        rw [show u - 1 + 1 = u by omega]; exact b
      · refine ⟨u - v * R, by omega, ?_, ?_, ?_, Or.inr ⟨by omega, by omega, by omega, ?_⟩⟩
        all_goals rcases (show R = 1 ∨ R = 2 ∨ R = 3 ∨ R = 4 by omega) with rfl | rfl | rfl | rfl <;> omega
theorem yd_b {a b f : Int} (ha : 1 ≤ a) (hb : 1 ≤ b) : 1 ≤ yd a b f := by unfold yd; split <;> assumption
theorem rc_0 {hp a b f y : Int} {k : Nat} : rc hp a b k f 0 y = true ↔ k = 0 ∧ y = 0 := by
  cases k with
  | zero => simp [rc]
  | succ k => simp [rc]
theorem rc_c {hp a b : Int} (hh : 0 ≤ hp ∧ hp ≤ 3) (ha : 1 ≤ a) (hb : 1 ≤ b) : ∀ (k : Nat) (f r y : Int), 1 ≤ r → (rc hp a b k f r y = true ↔ ∃ u v : Int, 0 ≤ v ∧ u + v = (k : Int) ∧ u * yd a b f + v * yd a b (1 - f) = y ∧ Wk (hp + 1) r u v)
  | 0, f, r, y, hr => by
    constructor
    · intro h; simp [rc] at h; omega
    · rintro ⟨u, v, h1, h2, h3, h4, h5, h6⟩; omega
  | k + 1, f, r, y, hr => by
    have A1 := yd_b (f := f) ha hb
    have B1 := yd_b (f := 1 - f) ha hb
    have ff : 1 - (1 - f) = f := by omega
    rw [rc, Bool.and_eq_true, decide_eq_true_eq]
    generalize hA : yd a b f = A at *
    generalize hB : yd a b (1 - f) = B at *
    have pos : ∀ u v : Int, 1 ≤ u → 0 ≤ v → u * A + v * B = y → A ≤ y ∧ (u - 1) * A + v * B = y - A := fun u v h1 h2 h3 => by
      have e : (u - 1) * A = u * A - A := by rw [Int.sub_mul, Int.one_mul]
      have p1 : 0 ≤ (u - 1) * A := Int.mul_nonneg (by omega) (by omega)
      have p2 : 0 ≤ v * B := Int.mul_nonneg h2 (by omega)
      omega
    by_cases h1 : r = 1
    · subst h1
      rw [if_pos rfl, Bool.or_eq_true, rc_0, anyB_c]
      constructor
      · rintro ⟨⟨h1, h2, h3⟩, ⟨h4, h5⟩ | ⟨q, h4, h5, h6⟩⟩
        · exact ⟨1, 0, by omega, by omega, by omega, by omega, by omega, Or.inl ⟨rfl, rfl⟩⟩
        · obtain ⟨u, v, g1, g2, g3, g4⟩ := (rc_c hh ha hb k (1 - f) q (y - A) h4).mp h6
          rw [ff, hA, hB] at g3
          have ev := (wk_e (R := hp + 1) (u := u) (v := v) (by omega) (by have := g4.2.1; omega) g1).mp ⟨q, h4, by omega, g4⟩
          have e : (v + 1) * A = v * A + A := by rw [Int.add_mul, Int.one_mul]
          refine ⟨v + 1, u, by have := ev.1; omega, by omega, by omega, by omega, by omega, Or.inr ⟨ev.1, ?_⟩⟩
          rw [show v + 1 - 1 = v by omega]; exact ev
      · rintro ⟨u, v, g1, g2, g3, g4, g5, g6⟩
        obtain ⟨p1, p2⟩ := pos u v (by omega) g1 g3
        refine ⟨⟨by omega, by omega, p1⟩, ?_⟩
        rcases g6 with ⟨g6, g7⟩ | ⟨g6, g7⟩
        · subst g6; subst g7
          exact Or.inl ⟨by omega, by omega⟩
        · obtain ⟨q, q1, q2, q3⟩ := (wk_e (R := hp + 1) (u := v) (v := u - 1) (by omega) g1 (by omega)).mpr g7
          refine Or.inr ⟨q, q1, by omega, (rc_c hh ha hb k (1 - f) q (y - A) q1).mpr ⟨v, u - 1, by omega, by omega, ?_, q3⟩⟩
          rw [ff, hA, hB]; omega
    · rw [if_neg h1, rc_c hh ha hb k f (r - 1) (y - A) (by omega), hA, hB]
      constructor
      · rintro ⟨⟨h1, h2, h3⟩, u, v, g1, g2, g3, g4, g5, g6⟩
        have e : (u + 1) * A = u * A + A := by rw [Int.add_mul, Int.one_mul]
        refine ⟨u + 1, v, g1, by omega, by omega, by omega, by omega, ?_⟩
        rcases g6 with ⟨g6, g7⟩ | ⟨g6, g7⟩
        · exact Or.inl ⟨g6, by omega⟩
        · rw [show u - (r - 1) = u + 1 - r by omega] at g7
          exact Or.inr ⟨g6, g7⟩
      · rintro ⟨u, v, g1, g2, g3, g4, g5, g6⟩
        obtain ⟨p1, p2⟩ := pos u v (by omega) g1 g3
        refine ⟨⟨by omega, g4, p1⟩, u - 1, v, g1, by omega, p2, by omega, by omega, ?_⟩
        rcases g6 with ⟨g6, g7⟩ | ⟨g6, g7⟩
        · exact Or.inl ⟨g6, by omega⟩
        · rw [show u - r = u - 1 - (r - 1) by omega] at g7
          exact Or.inr ⟨g6, g7⟩
def cbw (R l r : Int) : Prop := l ≤ (r + 1) * R ∧ r ≤ (l + 1) * R
theorem okS_c {hp a b m : Int} (hh : 0 ≤ hp ∧ hp ≤ 3) (ha : 1 ≤ a) (hb : 1 ≤ b) {k : Nat} (hk : 1 ≤ k) : okS hp a b m k = true ↔ ∃ l r : Int, 0 ≤ l ∧ 0 ≤ r ∧ l + r = (k : Int) ∧ l * a + r * b = m ∧ cbw (hp + 1) l r := by
  have e0 : yd a b 0 = a := rfl
  have e1 : yd a b 1 = b := rfl
  have ee : ((((hp + 1).toNat : Nat)) : Int) = hp + 1 := by omega
  have side : ∀ f, anyB (fun q => rc hp a b k f q m) (hp + 1).toNat = true ↔ ∃ u v : Int, 0 ≤ u ∧ 0 ≤ v ∧ u + v = (k : Int) ∧ u * yd a b f + v * yd a b (1 - f) = m ∧ Ev (hp + 1) u v := by
    intro f
    rw [anyB_c, ee]
    constructor
    · rintro ⟨q, q1, q2, q3⟩
      obtain ⟨u, v, g1, g2, g3, g4⟩ := (rc_c hh ha hb k f q m q1).mp q3
      have hu : 0 ≤ u := by have := g4.2.1; omega
      exact ⟨u, v, hu, g1, g2, g3, (wk_e (by omega) hu g1).mp ⟨q, q1, q2, g4⟩⟩
    · rintro ⟨u, v, g0, g1, g2, g3, g4⟩
      obtain ⟨q, q1, q2, q3⟩ := (wk_e (R := hp + 1) (by omega) g0 g1).mpr g4
      exact ⟨q, q1, q2, (rc_c hh ha hb k f q m q1).mpr ⟨u, v, g1, g2, g3, q3⟩⟩
  unfold okS
  rw [Bool.or_eq_true, side, side]
  have x0 : yd a b (1 - 0) = b := rfl
  have x1 : yd a b (1 - 1) = a := rfl
  rw [e0, e1, x0, x1]
  unfold Ev cbw
  constructor
  · rintro (⟨u, v, g0, g1, g2, g3, g4, g5, g6⟩ | ⟨u, v, g0, g1, g2, g3, g4, g5, g6⟩)
    · refine ⟨u, v, g0, g1, g2, g3, g6, ?_⟩
      rcases (show hp = 0 ∨ hp = 1 ∨ hp = 2 ∨ hp = 3 by omega) with rfl | rfl | rfl | rfl <;> omega
    · refine ⟨v, u, g1, g0, by omega, by omega, ?_, g6⟩
      rcases (show hp = 0 ∨ hp = 1 ∨ hp = 2 ∨ hp = 3 by omega) with rfl | rfl | rfl | rfl <;> omega
  · rintro ⟨l, r, g0, g1, g2, g3, g4, g5⟩
    by_cases q : 1 ≤ l ∧ r ≤ l * (hp + 1)
    · exact Or.inl ⟨l, r, g0, g1, g2, g3, q.1, q.2, g4⟩
    · refine Or.inr ⟨r, l, g1, g0, by omega, by omega, ?_, ?_, g5⟩
      all_goals rcases (show hp = 0 ∨ hp = 1 ∨ hp = 2 ∨ hp = 3 by omega) with rfl | rfl | rfl | rfl <;> omega
theorem fnd_c (p : Nat → Bool) : ∀ j : Nat, (fnd p j = -9 ∧ ∀ k, 1 ≤ k → k ≤ j → p k = false) ∨ (∃ k, (1 ≤ k ∧ k ≤ j) ∧ p k = true ∧ fnd p j = (k : Int) ∧ ∀ k', 1 ≤ k' → k' < k → p k' = false)
  | 0 => Or.inl ⟨rfl, fun k a b => by omega⟩
  | j + 1 => by
    rcases fnd_c p j with ⟨h1, h2⟩ | ⟨k, h1, h2, h3, h4⟩
    · rw [fnd, if_pos h1]
      cases hq : p (j + 1) with
      | true => exact Or.inr ⟨j + 1, ⟨by omega, by omega⟩, hq, by simp, fun k a b => h2 k a (by omega)⟩
      | false =>
        refine Or.inl ⟨by simp, fun k a b => ?_⟩
        by_cases e : k = j + 1
        · subst e; exact hq
        · exact h2 k a (by omega)
    · rw [fnd, if_neg (by omega)]
      exact Or.inr ⟨k, ⟨h1.1, by omega⟩, h2, h3, h4⟩
