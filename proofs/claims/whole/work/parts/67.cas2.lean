theorem nI_in1 {x c : Int32} {n : Nat} (h : inB x 1 c = true) (hc : c = nI n) (hn : n < 1000) : ∃ k, 1 ≤ k ∧ k ≤ n ∧ x = nI k := by
  obtain ⟨j, h1, h2, h3⟩ := inB_natL (a := 1) (b := n) (by rw [← hc]; exact h) (by omega) (by omega)
  exact ⟨j, h1, h2, h3⟩
/-- the castle that both have read -/
theorem good_CR {Y N Y' : IM} {it : Nat} (h : DQ Y N it) (hY : ∀ r, it ≤ r → r ≤ it + 6 → Y' r = Y r) : ∃ W T S D, 2 ≤ W ∧ CR Y' (zL N) it W T S D := by
  obtain ⟨W, T, S, h2, ⟨w1, w2, w3, w4⟩, ⟨t1, t2, t3, t4⟩, ⟨v1, v2, v3, v4⟩, hP⟩ := h
  have e0 := hY it (by omega) (by omega)
  have hpos : 0 < N 126 0 := by
    rw [w2]
    exact (nI_ltI (a := 0) (by omega) (by omega)).mpr (by omega)
  have c126 : ∀ j, zC N 126 j = N 126 j := fun j => by rw [zC_row (by decide)]
  have hD : ∃ D P, 1 ≤ D ∧ D ≤ 30 ∧ P ≤ 99 ∧ Y it 9 = nI P ∧ Y it 10 = nI D ∧ zD (zC N) 126 3 = nI P ∧ zD (zC N) 126 4 = nI D := by
    rcases hP with ⟨-, b2, b3, b4⟩ | ⟨-, b2, b3, b4, b5⟩
    · have ez : zD (zC N) = st (st (zC N) 126 3 1) 126 4 1 := by rw [zD, if_pos ⟨by rw [c126]; exact hpos, by rw [c126]; exact b4⟩]
      refine ⟨1, 1, by omega, by omega, by omega, b2, b3, ?_, ?_⟩
      · rw [ez, st_ne (by omega), st_same]
        rfl
      · rw [ez, st_same]
        rfl
    · obtain ⟨P, p1, p2, p3⟩ := nI_in1 b4 (cI 99) (by omega)
      obtain ⟨D, d1, d2, d3⟩ := nI_in1 b5 (cI 30) (by omega)
      have hn : ¬ N 126 3 = 0 := fun z => in_pos b4 (by rw [z]; decide)
      have ez : zD (zC N) = zC N := by rw [zD, if_neg (fun z => hn (by rw [← c126]; exact z.2))]
      exact ⟨D, P, d1, d2, p2, b2.trans p3, b3.trans d3, by rw [ez, c126]; exact p3, by rw [ez, c126]; exact d3⟩
  obtain ⟨D, P, g1, g2, g3, g4, g5, g6, g7⟩ := hD
  have z126 : ∀ j, j < 3 → zD (zC N) 126 j = N 126 j := fun j hj => by
    unfold zD
    split
    · rw [st_ne (by omega), st_ne (by omega), c126]
    · exact c126 j
  have l122 : ∀ j, j < 5 → zL N 122 j = zD (zC N) 126 j := fun j hj => by rw [zL_row (by decide) (by decide) (by decide), zE_122 hj]
  have l123 : ∀ j, j < 8 → zL N 123 j = N 127 j := fun j hj => by rw [zL_row (by decide) (by decide) (by decide), zE_123 hj, zD_row (by decide), zC_row (by decide)]
  have l124 : ∀ j, j < 18 → zL N 124 j = N 128 j := fun j hj => by rw [zL_row (by decide) (by decide) (by decide), zE_124 hj, zD_row (by decide), zC_row (by decide)]
  have l125 : ∀ j, j < 10 → zL N 125 j = N 129 j := fun j hj => by rw [zL_row (by decide) (by decide) (by decide), zE_125 hj, zD_row (by decide), zC_row (by decide)]
  refine ⟨W, T, S, D, h2, ?_⟩
  unfold CR
  rw [e0, hY (it + 1) (by omega) (by omega), hY (it + 2) (by omega) (by omega), hY (it + 3) (by omega) (by omega), hY (it + 4) (by omega) (by omega), hY (it + 5) (by omega) (by omega), hY (it + 6) (by omega) (by omega), l122 0 (by omega), l122 1 (by omega), l122 2 (by omega), l122 3 (by omega), l122 4 (by omega), z126 0 (by omega), z126 1 (by omega), z126 2 (by omega), g6, g7, g4, g5]
  refine ⟨w1, w2, w3, t1, t2, t3, v1, v2, v3, rfl, rfl, rfl, g2, ⟨P, rfl, g3⟩, fun z => absurd z (by omega), fun _ => g1, fun j hj => ?_, fun j hj => ?_, fun j hj => ?_⟩
  · rw [l123 j (by omega)]
    obtain ⟨k1, k2⟩ := w4 j hj
    obtain ⟨r, r1, r2, r3⟩ := nI_in1 k2 (cI 999) (by omega)
    exact ⟨k1, r, r3, r1, r2⟩
  · rw [l124 (3 * j) (by omega), l124 (3 * j + 1) (by omega), l124 (3 * j + 2) (by omega)]
    obtain ⟨k1, k2, k3, k4, -, k6, k7⟩ := t4 j hj
    exact ⟨k1, k2, k3, k4, k6, k7⟩
  · rw [l125 (2 * j) (by omega), l125 (2 * j + 1) (by omega)]
    obtain ⟨k1, k2, k3, -, k5⟩ := v4 j hj
    exact ⟨k1, k2, k3, k5⟩
