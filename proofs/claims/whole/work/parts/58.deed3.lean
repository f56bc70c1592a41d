theorem AR.setS {X : IM} {a S D s i : Nat} {f : Nat → Int32} {v : Int32} (h : AR X a f S D) (hs : s < S) (hi : 1 ≤ i ∧ i ≤ 3) (hv : i = 3 → ∃ k, v = nI k ∧ k < D) : AR (st X (a + i) s v) a (fun k => if k = 6 + 3 * s + (i - 1) then v else f k) S D := by
  obtain ⟨h1, h2, h3, h5⟩ := h
  refine ⟨fun k hk => ?_, ?_, ?_, fun t ht => ?_⟩
  · dsimp only
    rw [st_row (by omega), if_neg (by omega)]
    exact h1 k hk
  · dsimp only
    rw [if_neg (by omega)]
    exact h2
  · dsimp only
    rw [if_neg (by omega), if_neg (by omega)]
    exact h3
  · dsimp only
    obtain ⟨b1, b2, b3, b4⟩ := h5 t ht
    have hi' : i = 1 ∨ i = 2 ∨ i = 3 := by omega
    rcases hi' with rfl | rfl | rfl
    · rw [st_at1, st_row (by omega), st_row (by omega), if_neg (show ¬ 6 + 3 * t + 1 = 6 + 3 * s + (1 - 1) by omega), if_neg (show ¬ 6 + 3 * t + 2 = 6 + 3 * s + (1 - 1) by omega)]
      by_cases e : t = s
      · rw [if_pos e, if_pos (by omega)]
        exact ⟨rfl, b2, b3, b4⟩
      · rw [if_neg e, if_neg (by omega)]
        exact ⟨b1, b2, b3, b4⟩
    · rw [st_row (show a + 1 ≠ a + 2 by omega), st_at1, st_row (show a + 3 ≠ a + 2 by omega), if_neg (show ¬ 6 + 3 * t = 6 + 3 * s + (2 - 1) by omega), if_neg (show ¬ 6 + 3 * t + 2 = 6 + 3 * s + (2 - 1) by omega)]
      by_cases e : t = s
      · rw [if_pos e, if_pos (by omega)]
        exact ⟨b1, rfl, b3, b4⟩
      · rw [if_neg e, if_neg (by omega)]
        exact ⟨b1, b2, b3, b4⟩
    · rw [st_row (show a + 1 ≠ a + 3 by omega), st_row (show a + 2 ≠ a + 3 by omega), st_at1, if_neg (show ¬ 6 + 3 * t = 6 + 3 * s + (3 - 1) by omega), if_neg (show ¬ 6 + 3 * t + 1 = 6 + 3 * s + (3 - 1) by omega)]
      by_cases e : t = s
      · rw [if_pos e, if_pos (by omega)]
        exact ⟨b1, b2, rfl, hv rfl⟩
      · rw [if_neg e, if_neg (by omega)]
        exact ⟨b1, b2, b3, b4⟩
