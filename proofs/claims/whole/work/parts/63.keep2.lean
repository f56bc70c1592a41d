/-- keep -/
theorem kp_sim {X M : IM} {S D : Nat} (hS : S ≤ 5) (h : HR X M S D) (hA : AR X 17 (M 130) S D) (hD : DRR X M) (hi : IR X M S D) (i : Int32) : AR (kpX X i) 17 (kpM M i 130) S D ∧ HR (kpX X i) (kpM M i) S D ∧ DRR (kpX X i) (kpM M i) ∧ IR (kpX X i) (kpM M i) S D := by
  unfold kpX kpM
  cases q : inB i 0 1 with
  | false =>
    simp only [if_true]
    exact ⟨hA, h, hD, hi⟩
  | true =>
    obtain ⟨k, hk, rfl⟩ := nI_of_in q (cI 1) (by decide)
    have hk2 : k < 2 := by omega
    simp only [Bool.true_eq_false, if_false]
    rw [tn_nI (by omega)]
    obtain ⟨e1, E, p1, p2, -⟩ := id h
    obtain ⟨n, d1, d2, d3⟩ := id hD
    refine ⟨?_, ?_, ?_, ?_⟩
    · refine hA.congr hS (fun r g1 g2 => ?_) (fun j hj => ?_)
      · rw [st_row (by omega), st_row (by omega), cpA_row (by omega), st_row (by omega)]
      · rw [st_row (by decide), st_row (by decide), st_row (by decide), cyT_row (by decide)]
    · refine HR.empty (e := e1) ?_ p2 (st_same _ _ _ _) (st_same _ _ _ _)
      rw [st_ne (by omega), st_row (by omega), cpA_row (by omega), st_row (by omega)]
      exact p1
    · refine hD.congr ?_ ?_
      · rw [st_row (by omega), st_row (by omega), cpA_row (by omega), st_row (by omega)]
      · rw [st_ne (by omega), st_row (by decide), st_row (by decide), cyT_row (by decide)]
    · intro t ht
      by_cases e : t = k
      · subst e
        refine ⟨?_, ?_, fun _ => ⟨?_, ?_, n, ?_, d3⟩⟩
        · rw [st_row (by omega), st_ne (by omega), cpA_row (by omega), st_same, st_row (by decide), st_same]
        · rw [st_row (by decide), st_same]
          exact Or.inr rfl
        · refine hA.copy hS (fun j hj => ?_) (fun i' g1 g2 j hj => ?_) (fun j hj => ?_)
          · rw [st_row (by omega), st_row (by omega), cpA_at, if_pos ⟨rfl, hj⟩, st_row (by omega)]
          · rw [st_row (by omega), st_row (by omega), cpA_at]
            have : i' = 1 ∨ i' = 2 ∨ i' = 3 := by omega
            rcases this with rfl | rfl | rfl
            · rw [if_neg (by omega), if_pos (by omega), st_row (by omega)]
            · rw [if_neg (by omega), if_neg (by omega), if_pos (by omega), st_row (by omega)]
            · rw [if_neg (by omega), if_neg (by omega), if_neg (by omega), if_pos (by omega), st_row (by omega)]
          · rw [st_row (by decide), st_row (by decide), st_row (by decide)]
            unfold cyT
            rw [if_pos (by omega), show 0 + (21 * t + j - 21 * t) = j by omega]
        · rw [st_row (by omega), st_same, st_row (by decide), st_row (by decide), st_same, d1, d2]
        · rw [st_row (by decide), st_row (by decide), st_same]
          exact d2
      · obtain ⟨a, b, c⟩ := hi t ht
        have m134 : ∀ u v : Int32, st (st (st (cyT M 130 0 132 (21 * k) 21) 133 k u) 134 k 1) 120 13 v 134 t = M 134 t := fun u v => by rw [st_row (by decide), st_ne (by omega), st_row (by decide), cyT_row (by decide)]
        have m133 : ∀ u v : Int32, st (st (st (cyT M 130 0 132 (21 * k) 21) 133 k u) 134 k 1) 120 13 v 133 t = M 133 t := fun u v => by rw [st_row (by decide), st_row (by decide), st_ne (by omega), cyT_row (by decide)]
        rw [m134, m133, st_row (by omega), st_row (by omega), cpA_row (by omega), st_row (by omega)]
        refine ⟨a, b, fun z => ?_⟩
        obtain ⟨d, f, g⟩ := c z
        refine ⟨d.congr hS (fun r g1 g2 => ?_) (fun j hj => ?_), f, g⟩
        · rw [st_row (by omega), st_row (by omega), cpA_row (by omega), st_row (by omega)]
        · rw [st_row (by decide), st_row (by decide), st_row (by decide)]
          unfold cyT
          rw [if_neg (by omega)]
