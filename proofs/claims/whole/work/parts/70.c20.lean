/-! what stands stays -/
theorem I_type {fs fn fe ft : Int → Int} {un sz sm l : Int} (hI : xI fs fn fe ft un sz sm) : xI fs fn fe (if okTy l sz then aiu ft sz l else ft) un (if okTy l sz then sz + 1 else sz) sm := by
  obtain ⟨h1, h2, h3, h4, ⟨z, h5, h6, h7⟩, h8, h9⟩ := hI
  by_cases q : okTy l sz
  · rw [if_pos q, if_pos q]
    refine ⟨h1, h2, h3, h4, ⟨z + 1, by omega, by omega, fun k a b => ?_⟩, h8, h9⟩
    unfold aiu
    split
    · exact q.1
    · exact h7 k a (by omega)
  · rw [if_neg q, if_neg q]
    exact ⟨h1, h2, h3, h4, ⟨z, h5, h6, h7⟩, h8, h9⟩
theorem I_clear {fs fn fe ft : Int → Int} {un sz sm : Int} (hI : xI fs fn fe ft un sz sm) : xI fs fn fe ft un 0 sm := by
  obtain ⟨h1, h2, h3, h4, -, h8, h9⟩ := hI
  exact ⟨h1, h2, h3, h4, ⟨0, rfl, by omega, fun k a b => by omega⟩, h8, h9⟩
theorem I_forget {fs fn fe ft : Int → Int} {un sz sm : Int} (hI : xI fs fn fe ft un sz sm) : xI fs fn fe ft un sz 0 := by
  obtain ⟨h1, h2, h3, h4, h5, h8, h9⟩ := hI
  exact ⟨h1, h2, h3, h4, h5, by omega, fun k a b => by omega⟩
theorem I_saw {fs fn fe ft : Int → Int} {un sz sm foot cell v : Int} (hI : xI fs fn fe ft un sz sm) : xI fs fn (if okSaw fs foot cell v ∧ sm ≠ 6 then aiu (aiu (aiu fe (3 * sm) foot) (3 * sm + 1) cell) (3 * sm + 2) v else fe) ft un sz (if okSaw fs foot cell v ∧ sm ≠ 6 then sm + 1 else sm) := by
  have hI0 := hI
  obtain ⟨h1, h2, h3, h4, h5, h8, h9⟩ := hI
  have hc := h1.2.2.2.1
  by_cases q : okSaw fs foot cell v ∧ sm ≠ 6
  · rw [if_pos q, if_pos q]
    obtain ⟨⟨q1, q2, q3⟩, q4⟩ := q
    refine ⟨h1, h2, fun k a b => ?_, h4, h5, by omega, fun k a b => ?_⟩
    · unfold aiu
      split
      · omega
      · split
        · omega
        · split
          · omega
          · exact h3 k a b
    · by_cases z : k = sm
      · subst z
        rw [aiu_n (by omega), aiu_n (by omega), aiu_s, aiu_n (by omega), aiu_s]
        omega
      · rw [aiu_n (by omega), aiu_n (by omega), aiu_n (by omega), aiu_n (by omega), aiu_n (by omega), aiu_n (by omega)]
        exact h9 k a (by omega)
  · rw [if_neg q, if_neg q]; exact hI0
theorem rmU_b {un : Int} (h : 0 ≤ un ∧ un ≤ 10) : 0 ≤ rmU un ∧ rmU un ≤ 10 := by unfold rmU; split <;> omega
theorem I_gives {fs fn fe ft : Int → Int} {un sz sm g to : Int} (hI : xI fs fn fe ft un sz sm) : xI fs (if okGv fs g to then aiu fn (0 + g) to else fn) fe ft (if okGv fs g to then rmU un else un) sz sm := by
  have hI0 := hI
  obtain ⟨h1, h2, h3, h4, h5, h8, h9⟩ := hI
  have hg := h1.1
  by_cases q : okGv fs g to
  · rw [if_pos q, if_pos q]
    exact ⟨h1, gv_nK h2 (by omega) q.2, h3, rmU_b h4, h5, h8, h9⟩
  · rw [if_neg q, if_neg q]; exact hI0
theorem I_steps {fs fn fe ft : Int → Int} {un sz sm foot : Int} (hI : xI fs fn fe ft un sz sm) : xI fs (if okSt fn foot then stF fn foot else fn) fe ft (if okSt fn foot then rmU un else un) sz sm := by
  have hI0 := hI
  obtain ⟨h1, h2, h3, h4, h5, h8, h9⟩ := hI
  have h6 := h2.1.2.1
  by_cases q : okSt fn foot
  · rw [if_pos q, if_pos q]
    exact ⟨h1, st_nK h2 (by omega) (by omega), h3, rmU_b h4, h5, h8, h9⟩
  · rw [if_neg q, if_neg q]; exact hI0
theorem I_undo {G : aG} {h : AH} {xa : Nat} {fs fn fp fi fk fe ft : Int → Int} {un sz sm tr : Int} (hI : xI fs fn fe ft un sz sm) (hW : xW G xa h fs fn fp fi fk ft fe un sz sm tr) : xI fs (if un = 0 then fn else cpF fp fn (9 * (un - 1))) fe ft (if un = 0 then 0 else un - 1) sz sm := by
  obtain ⟨h1, h2, h3, h4, h5, h8, h9⟩ := hI
  obtain ⟨su, dr, pl, ts, tk, nu, hT, cT, fo, ga, li, fd, e1, e2, e3, g1, g2, g3, hsd, h_this, hnu, h_this_text, h_this_text_letters, hC, hXd, hNw, hI0, hI1, h_this_partings, h_this_partings_own, h_this_partings_ahead, h_this_partings_sum, h_this_kinds, h_this_deeds, hHs, h_this_seenFoot, h_this_seenCell, h_this_seenWear, hSe, hJd⟩ := hW
  by_cases q : un = 0
  · rw [if_pos q, if_pos q]
    exact ⟨h1, h2, h3, by omega, h5, h8, h9⟩
  · rw [if_neg q, if_neg q]
    have := hHs (un - 1) (by omega) (by omega)
    exact ⟨h1, nK_9 (hs_un (by omega) hHs).2 this.2, h3, by omega, h5, h8, h9⟩
theorem I_back {G : aG} {h : AH} {xa : Nat} {fs fn fp fi fk fe ft : Int → Int} {un sz sm tr i : Int} (hI : xI fs fn fe ft un sz sm) (hW : xW G xa h fs fn fp fi fk ft fe un sz sm tr) : xI fs (if isT i ∧ fk i ≠ 0 then cpF fi fn (9 * i) else fn) fe ft (if isT i ∧ fk i ≠ 0 then 0 else un) sz sm := by
  have hIq := hI
  obtain ⟨h1, h2, h3, h4, h5, h8, h9⟩ := hI
  obtain ⟨su, dr, pl, ts, tk, nu, hT, cT, fo, ga, li, fd, e1, e2, e3, g1, g2, g3, hsd, h_this, hnu, h_this_text, h_this_text_letters, hC, hXd, hNw, hI0, hI1, h_this_partings, h_this_partings_own, h_this_partings_ahead, h_this_partings_sum, h_this_kinds, h_this_deeds, hHs, h_this_seenFoot, h_this_seenCell, h_this_seenWear, hSe, hJd⟩ := hW
  by_cases q : isT i ∧ fk i ≠ 0
  · rw [if_pos q, if_pos q]
    have e9 : eq9 (fun k => fi (9 * i + k)) (cpF fi fn (9 * i)) := fun k a b => by
      show fi (9 * i + k) = cpF fi fn (9 * i) k
      rw [cpF, cp9, if_pos (by omega)]; congr 1; omega
    have hK : nK (fun k => fi (9 * i + k)) := by
      rcases (show i = 0 ∨ i = 1 by omega) with z | z
      · subst z
        rcases hI0 with ⟨a, b, c⟩ | ⟨a, b⟩
        · exact c
        · exact absurd a q.2
      · subst z
        rcases hI1 with ⟨a, b, c⟩ | ⟨a, b⟩
        · exact c
        · exact absurd a q.2
    exact ⟨h1, nK_9 e9 hK, h3, by omega, h5, h8, h9⟩
  · rw [if_neg q, if_neg q]; exact hIq
theorem nK_bg : nK bgF := by
  refine ⟨⟨fun k a b => by rw [bgF, if_pos b]; omega, by decide, by decide, by decide⟩, fun i a b => ?_⟩
  unfold mF
  have e : bgF (7 + (i : Int) / 30) = 0 := by rw [bgF, if_neg (by omega)]
  rw [e]; simp
theorem I_suit {fs fn fe ft : Int → Int} {un sz sm : Int} {z : Nat} (hI : xI fs fn fe ft un sz sm) : xI (sF (psR ft z) fs) (if isR (psR ft z) = true then bgF else fn) fe ft (if isR (psR ft z) = true then 0 else un) (if isR (psR ft z) = true then 0 else sz) (if isR (psR ft z) = true then 0 else sm) := by
  have hok := psR_ok (ft := ft) (z := z) hI.1
  obtain ⟨h1, h2, h3, h4, h5, h8, h9⟩ := hI
  cases hQ : psR ft z with
  | inl f => exact ⟨h1, h2, h3, h4, h5, h8, h9⟩
  | inr w =>
    rw [hQ] at hok
    exact ⟨hok, nK_bg, h3, ⟨Int.le_refl 0, show (0 : Int) ≤ 10 by decide⟩, ⟨0, rfl, by omega, fun k a b => by omega⟩, ⟨Int.le_refl 0, show (0 : Int) ≤ 6 by decide⟩, fun k a b => by exfalso; change k < 0 at b; omega⟩
