/-- a day passes for both -/
theorem pd_sim {X M : IM} {pl W T S D : Nat} (hC : CR X M pl W T S D) (hA : AR X 17 (M 130) S D) : AR (pdX X pl) 17 (psX M 130) S D := by
  obtain ⟨-, -, -, -, -, -, c1, c2, c3, c4, c5, c6, c7, -⟩ := hC
  obtain ⟨h1, h2, h3, h5⟩ := hA
  have tX : tn (X pl 6) = S := by rw [c1, tn_nI (by omega)]
  have tM : tn (M 122 2) = S := by rw [c2, tn_nI (by omega)]
  unfold pdX psX
  rw [tX, tM]
  refine ⟨?_, ?_, ?_, ?_⟩
  · intro j hj
    have hj' : j = 0 ∨ j = 1 ∨ j = 2 ∨ j = 3 ∨ j = 4 ∨ j = 5 := by omega
    rcases hj' with rfl | rfl | rfl | rfl | rfl | rfl
    · show X 17 0 + 1 = M 130 0 + 1
      rw [h1 0 (by omega)]
    · show (if X 17 2 = 0 then X 17 1 else X 17 1 + 1) = M 130 1 + M 130 2
      rw [h1 1 (by omega), h1 2 (by omega)]
      rcases h2 with z | z
      · rw [if_pos z, z, Int32.add_zero]
      · rw [if_neg (by rw [z]; decide), z]
    · exact h1 2 (by omega)
    · exact h1 3 (by omega)
    · exact h1 4 (by omega)
    · exact h1 5 (by omega)
  · exact h2
  · exact h3
  · intro s hs
    obtain ⟨b1, b2, b3, k, b4, b5⟩ := h5 s hs
    have hS : ∀ i, i = 0 ∨ i = 1 ∨ i = 2 → psT M S 130 (6 + 3 * s + i) = if i = 1 then psG M s else if i = 2 then psS M s else M 130 (6 + 3 * s + i) := by
      intro i hi
      unfold psT
      rcases hi with rfl | rfl | rfl
      · rw [if_neg (by omega), if_neg (by omega), if_neg (by omega), if_neg (by omega), if_neg (by omega), if_neg (by omega)]
      · rw [if_neg (by omega), if_neg (by omega), if_pos (by omega), if_pos rfl, show (6 + 3 * s + 1) / 3 - 2 = s by omega]
      · rw [if_neg (by omega), if_neg (by omega), if_neg (by omega), if_pos (by omega), if_neg (by omega), if_pos rfl, show (6 + 3 * s + 2) / 3 - 2 = s by omega]
    have e0 := hS 0 (by omega)
    rw [Nat.add_zero, if_neg (by omega), if_neg (by omega)] at e0
    rw [e0, hS 1 (by omega), hS 2 (by omega), if_pos rfl, if_neg (by omega), if_pos rfl]
    have x18 : pdT X pl S (17 + 1) s = X (17 + 1) s := by
      unfold pdT
      rw [if_neg (by omega), if_neg (by omega), if_neg (by omega), if_neg (by omega)]
    have x19 : pdT X pl S (17 + 2) s = pdG X pl s := by
      unfold pdT
      rw [if_neg (by omega), if_neg (by omega), if_pos (by omega)]
    have x20 : pdT X pl S (17 + 3) s = pdS X pl s := by
      unfold pdT
      rw [if_neg (by omega), if_neg (by omega), if_neg (by omega), if_pos (by omega)]
    rw [x18, x19, x20]
    have e5 : X 17 5 = M 130 5 := h1 5 (by omega)
    have es : siM M s = nI k := b4
    have eg : goM M s = X 19 s := b2.symm
    have es' : X 20 s = nI k := b3.trans b4
    unfold pdG psG pdS psS
    rw [e5, es, eg, es', c5, c6, c4, nI_1]
    cases q : hasB (M 130 5) (nI s) with
    | false =>
      rw [if_neg (by decide), if_neg (by decide), if_neg (by decide), if_neg (by decide)]
      exact ⟨b1, rfl, rfl, k, rfl, b5⟩
    | true =>
      rw [if_pos rfl, if_pos rfl, if_pos rfl, if_pos rfl]
      by_cases z : k + 1 = D
      · have z1 : ¬ nI (k + 1) < nI D := fun y => absurd ((nI_ltI (by omega) (by omega)).mp y) (by omega)
        have z2 : nI (k + 1) = nI D := by rw [z]
        rw [if_neg z1, if_neg z1, if_pos z2, if_pos z2, mn_gt]
        exact ⟨b1, rfl, rfl, 0, rfl, by omega⟩
      · have z1 : nI (k + 1) < nI D := (nI_ltI (by omega) (by omega)).mpr (by omega)
        have z2 : ¬ nI (k + 1) = nI D := fun y => z ((nI_eq (by omega) (by omega)).mp y)
        rw [if_pos z1, if_pos z1, if_neg z2, if_neg z2]
        exact ⟨b1, rfl, rfl, k + 1, rfl, by omega⟩
/-- both take back -/
theorem un_sim {X M : IM} {S D : Nat} (hS : S ≤ 5) (h : HR X M S D) (hA : AR X 17 (M 130) S D) : HR (rcX X) (unM M) S D ∧ AR (rcX X) 17 (unM M 130) S D ∧ unV X = unVm M := by
  obtain ⟨e, E, a1, a2, a3, a4, a5, a6⟩ := id h
  have ht : tn (X 21 1) = e := by rw [a1, tn_nI (by omega)]
  have hte : tn (M 120 13) = E := by rw [a4, tn_nI (by omega)]
  unfold rcX unM unV unVm
  by_cases q : E = 0
  · subst q
    have z1 : X 21 2 = 0 := a3
    have z2 : M 120 13 = 0 := a4
    rw [if_pos z1, if_pos z2, if_pos z1, if_pos z2]
    exact ⟨h, hA, rfl⟩
  · have z1 : ¬ X 21 2 = 0 := fun z => q ((nI_eq (b := 0) (by omega) (by omega)).mp (a3.symm.trans z))
    have z2 : ¬ M 120 13 = 0 := fun z => q ((nI_eq (b := 0) (by omega) (by omega)).mp (a4.symm.trans z))
    rw [if_neg z1, if_neg z2, if_neg z1, if_neg z2, a3, a4, ht, tn_nI (by omega), show nI E - 1 = nI (E - 1) from pk_sub (b := 1) (by omega)]
    refine ⟨⟨(e + 19) % 20, E - 1, ?_, by omega, ?_, ?_, by omega, ?_⟩, ?_, rfl⟩
    · rw [cpA_row (by omega), st_ne (by omega), st_same]
    · rw [cpA_row (by omega), st_same]
    · unfold cyT
      rw [if_neg (by omega), st_same]
    · intro i hi
      rw [show ((e + 19) % 20 + 20 - (E - 1) + i) % 20 = (e + 20 - E + i) % 20 by omega]
      refine (a6 i (by omega)).congr hS (fun r g1 g2 => ?_) (fun j hj => ?_)
      · rw [cpA_row (by omega), st_row (by omega), st_row (by omega)]
      · unfold cyT
        rw [if_neg (by omega), st_row (by decide)]
    · have hs := a6 (E - 1) (by omega)
      rw [show (e + 20 - E + (E - 1)) % 20 = (e + 19) % 20 by omega] at hs
      refine hs.copy hS ?_ ?_ ?_
      · intro j hj
        rw [cpA_at, if_pos ⟨rfl, hj⟩, st_row (by omega), st_row (by omega)]
      · intro i g1 g2 j hj
        rw [cpA_at]
        have : i = 1 ∨ i = 2 ∨ i = 3 := by omega
        rcases this with rfl | rfl | rfl
        · rw [if_neg (by omega), if_pos (by omega), st_row (by omega), st_row (by omega)]
        · rw [if_neg (by omega), if_neg (by omega), if_pos (by omega), st_row (by omega), st_row (by omega)]
        · rw [if_neg (by omega), if_neg (by omega), if_neg (by omega), if_pos (by omega), st_row (by omega), st_row (by omega)]
      · intro j hj
        unfold cyT
        rw [if_pos (by omega), st_row (by decide), Nat.sub_zero]
