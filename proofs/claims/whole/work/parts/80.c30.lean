/-! the law: frames, the loop's invariant -/
theorem xin (v : Int32) : inR v.toInt := ⟨Int32.le_toInt v, Int32.toInt_lt v⟩
theorem xW_fr {G : aG} {xa : Nat} {h h' : AH} {fs fn fp fi fk ft fe : Int → Int} {un sz sm tr : Int} (hW : xW G xa h fs fn fp fi fk ft fe un sz sm tr) (hq : ∀ q, xa ≤ q → q < xa + 37 → h' q = h q) : xW G xa h' fs fn fp fi fk ft fe un sz sm tr := by
  obtain ⟨su, dr, pl, ts, tk, nu, hT, cT, fo, ga, li, fd, e1, e2, e3, g1, g2, g3, hsd, b0, b1, b2, b3, b4, b5, b6, b7, b8, b9, b10, b11, b12, b13, b14, b15, b16, b17, b18, b19, j0, j1, j2, j3, j4, j5⟩ := hW
  exact ⟨su, dr, pl, ts, tk, nu, hT, cT, fo, ga, li, fd, e1, e2, e3, g1, g2, g3, hsd, (hq _ (by omega) (by omega)).trans b0, b1, (hq _ (by omega) (by omega)).trans b2, (hq _ (by omega) (by omega)).trans b3, suC_fr b4 (fun q _ _ => hq q (by omega) (by omega)), suX_fr b5 (fun q _ _ => hq q (by omega) (by omega)), nowC_fr b6 (fun q _ _ => hq q (by omega) (by omega)), imC_fr b7 (fun q _ _ => hq q (by omega) (by omega)), imC_fr b8 (fun q _ _ => hq q (by omega) (by omega)), (hq _ (by omega) (by omega)).trans b9, (hq _ (by omega) (by omega)).trans b10, (hq _ (by omega) (by omega)).trans b11, (hq _ (by omega) (by omega)).trans b12, (hq _ (by omega) (by omega)).trans b13, (hq _ (by omega) (by omega)).trans b14, b15, (hq _ (by omega) (by omega)).trans b16, (hq _ (by omega) (by omega)).trans b17, (hq _ (by omega) (by omega)).trans b18, b19, (hq _ (by omega) (by omega)).trans j0, (hq _ (by omega) (by omega)).trans j1, (hq _ (by omega) (by omega)).trans j2, (hq _ (by omega) (by omega)).trans j3, (hq _ (by omega) (by omega)).trans j4, (hq _ (by omega) (by omega)).trans j5⟩
theorem mW_fr {G : aG} {tm : Nat} {h h' : AH} {fs fn fp fi fk ft fe : Int → Int} {un sz sm tr : Int} (hW : mW G tm h fs fn fp fi fk ft fe un sz sm tr) (hq : ∀ q, tm ≤ q → q < tm + 14 → h' q = h q) : mW G tm h' fs fn fp fi fk ft fe un sz sm tr := by
  obtain ⟨ak, bg, mt, fr, f9, f10, f11, f12, f13, t0, t1, t2, t3, t4, t5, t6, t7, t8, t9, t10, t11, t12, t13⟩ := hW
  exact ⟨ak, bg, mt, fr, f9, f10, f11, f12, f13, (hq _ (by omega) (by omega)).trans t0, (hq _ (by omega) (by omega)).trans t1, (hq _ (by omega) (by omega)).trans t2, (hq _ (by omega) (by omega)).trans t3, (hq _ (by omega) (by omega)).trans t4, (hq _ (by omega) (by omega)).trans t5, (hq _ (by omega) (by omega)).trans t6, (hq _ (by omega) (by omega)).trans t7, (hq _ (by omega) (by omega)).trans t8, (hq _ (by omega) (by omega)).trans t9, (hq _ (by omega) (by omega)).trans t10, (hq _ (by omega) (by omega)).trans t11, (hq _ (by omega) (by omega)).trans t12, (hq _ (by omega) (by omega)).trans t13⟩
theorem xW_t {G : aG} {xa : Nat} {h : AH} {fs fn fp fi fk ft fe : Int → Int} {un sz sm tr : Int} (hW : xW G xa h fs fn fp fi fk ft fe un sz sm tr) : ∃ xo : List Value, h xa = some (aOb 10 xo) := by
  obtain ⟨su, dr, pl, ts, tk, nu, hT, cT, fo, ga, li, fd, e1, e2, e3, g1, g2, g3, hsd, b0, -⟩ := hW
  exact ⟨_, b0⟩
theorem mW_t {G : aG} {tm : Nat} {h : AH} {fs fn fp fi fk ft fe : Int → Int} {un sz sm tr : Int} (hW : mW G tm h fs fn fp fi fk ft fe un sz sm tr) : ∃ xo : List Value, h tm = some (aOb 11 xo) := by
  obtain ⟨ak, bg, mt, fr, f9, f10, f11, f12, f13, t0, -⟩ := hW
  exact ⟨_, t0⟩
theorem xW_k {G : aG} {xa : Nat} {h : AH} {fs fn fp fi fk ft fe : Int → Int} {un sz sm tr : Int} (hW : xW G xa h fs fn fp fi fk ft fe un sz sm tr) : ∀ k : Int, 0 ≤ k → k < 2 → fk k = 0 ∨ fk k = 1 := by
  obtain ⟨su, dr, pl, ts, tk, nu, hT, cT, fo, ga, li, fd, e1, e2, e3, g1, g2, g3, hsd, b0, b1, b2, b3, b4, b5, b6, b7, b8, -⟩ := hW
  intro k h1 h2
  rcases (show k = 0 ∨ k = 1 by omega) with rfl | rfl
  · rcases b7 with ⟨a, -⟩ | ⟨a, -⟩
    · exact Or.inr a
    · exact Or.inl a
  · rcases b8 with ⟨a, -⟩ | ⟨a, -⟩
    · exact Or.inr a
    · exact Or.inl a
/-- both worlds at one state -/
def lwI (G : aG) (xa : Nat) (h : AH) : Prop := ∃ (fs fn fp fi fk ft fe : Int → Int) (un sz sm tr : Int), xI fs fn fe ft un sz sm ∧ xW G xa h fs fn fp fi fk ft fe un sz sm tr ∧ mW G (xa + 37) h fs fn fp fi fk ft fe un sz sm tr
theorem xI_0 : xI clF bgF z0F z0F 0 0 0 := ⟨sOK_clF, nK_bg, fun k _ _ => ⟨Int.le_refl 0, (by decide : (0 : Int) ≤ 60)⟩, ⟨by decide, by decide⟩, ⟨0, rfl, by decide, fun k h1 h2 => absurd h2 (by omega)⟩, ⟨by decide, by decide⟩, fun k h1 h2 => absurd h2 (by omega)⟩
/-- the law's locals -/
abbrev lwV (b xa : Nat) (i : Int) : List (Option Value) := [some (.ref b), some (.ref xa), some (.ref (xa + 37)), some (aI i)]
