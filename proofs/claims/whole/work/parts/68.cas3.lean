theorem zS_else {G : IM} {j : Nat} (h : j < 6 ∨ j % 3 ≠ 0) : ∀ t, zS G t 130 j = G 130 j
  | 0 => rfl
  | t + 1 => by
    rw [zS, st_ne (by omega)]
    exact zS_else h t
theorem zS_says {G : IM} {s : Nat} : ∀ t, s < t → zS G t 130 (6 + 3 * s) = G 125 (2 * s)
  | 0, h => absurd h (by omega)
  | t + 1, h => by
    rw [zS]
    by_cases e : s = t
    · subst e
      rw [st_same]
    · rw [st_ne (by omega)]
      exact zS_says t (by omega)
theorem zG_0 {E : IM} {j : Nat} (h : j < 21) (h2 : j ≠ 2) (h3 : j ≠ 3) : zG E 130 j = 0 := by
  unfold zG
  rw [st_ne (by omega), st_ne (by omega)]
  unfold zW
  rw [if_pos ⟨rfl, h⟩]
theorem zG_2 {E : IM} : zG E 130 2 = bI (decide (0 < E 122 0)) ∧ zG E 130 3 = bI (decide (0 < E 122 0)) := by
  unfold zG
  exact ⟨by rw [st_ne (by omega), st_same], by rw [st_same]⟩
theorem zL_130 {N : IM} : zL N 130 = zS (zG (zE (zD (zC N)))) (tn (zE (zD (zC N)) 122 2)) 130 := by
  unfold zL zK
  rw [st_row (by decide), st_row (by decide), st_row (by decide), st_row (by decide), st_row (by decide)]
theorem bn_low {Y : IM} {it r : Nat} (h : r = 17 ∨ r = 18 ∨ r = 19 ∨ r = 20) : bnX Y it r = bgT Y it 5 r := by
  unfold bnX
  rw [st_row (by omega), st_row (by omega), st_row (by omega), st_row (by omega), st_row (by omega)]
/-- what is so begins anew for both -/
theorem new_AR {Y N : IM} {it W T S D : Nat} (hI : isC it) (hC : CR Y (zL N) it W T S D) : AR (bnX Y it) 17 (zL N 130) S D := by
  obtain ⟨a1, a2, a3, -, -, -, c1, c2, c3, -, -, -, -, -, cz, cd, -, -, v⟩ := hC
  have e2 : zE (zD (zC N)) 122 2 = nI S := by rw [← c2, zL_row (by decide) (by decide) (by decide)]
  have e0 : zE (zD (zC N)) 122 0 = nI W := by rw [← a2, zL_row (by decide) (by decide) (by decide)]
  have e125 : ∀ j, zL N 125 j = zE (zD (zC N)) 125 j := fun j => by rw [zL_row (by decide) (by decide) (by decide)]
  rw [zL_130, e2, tn_nI (by omega)]
  generalize zE (zD (zC N)) = E at *
  have g2 := zG_2 (E := E)
  rw [e0] at g2
  refine ⟨fun j hj => ?_, ?_, ⟨?_, ?_⟩, fun s hs => ?_⟩
  · rw [bn_low (by omega), zS_else (by omega)]
    unfold bgT
    rw [if_pos ⟨rfl, hj⟩, a1]
    by_cases q : j = 2 ∨ j = 3
    · rw [if_pos q]
      rcases q with rfl | rfl
      · exact g2.1.symm
      · exact g2.2.symm
    · rw [if_neg q, zG_0 (by omega) (by omega) (by omega)]
  · rw [zS_else (by omega), g2.1]
    exact b01_bI _
  · rw [zS_else (by omega), g2.2]
    exact b01_bI _
  · intro z
    rw [zS_else (by omega), g2.1]
    have hW0 : W = 0 := by
      apply Classical.byContradiction
      intro y
      have := cd (by omega)
      omega
    rw [hW0]
    rfl
  · have hD1 : 1 ≤ D := by
      apply cd
      apply Nat.pos_of_ne_zero
      intro z
      have := (cz z).2.1
      omega
    rw [bn_low (by omega), bn_low (by omega), bn_low (by omega), zS_says S hs, zS_else (by omega), zS_else (by omega), zG_0 (by omega) (by omega) (by omega), zG_0 (by omega) (by omega) (by omega), zG_row (by decide), ← e125, ← (v s hs).1]
    unfold bgT
    refine ⟨?_, ?_, ?_, 0, rfl, by omega⟩
    · rw [if_neg (by omega), if_pos (by omega)]
    · rw [if_neg (by omega), if_neg (by omega), if_pos (by omega)]
    · rw [if_neg (by omega), if_neg (by omega), if_neg (by omega), if_pos (by omega)]
