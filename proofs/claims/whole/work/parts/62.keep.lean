/-- the past is forgotten by both -/
theorem HR.empty {X M : IM} {S D e : Nat} (h1 : X 21 1 = nI e) (he : e < 20) (h2 : X 21 2 = 0) (h3 : M 120 13 = 0) : HR X M S D := ⟨e, 0, h1, he, h2, h3, by omega, fun i hi => absurd hi (by omega)⟩
theorem cyT_row {M : IM} {f a t b n k : Nat} (h : k ≠ t) : cyT M f a t b n k = M k := by
  funext j
  unfold cyT
  rw [if_neg (fun z => h z.1)]
/-- goBack -/
theorem gb_sim {X M : IM} {S D : Nat} (hS : S ≤ 5) (h : HR X M S D) (hA : AR X 17 (M 130) S D) (hD : DRR X M) (hi : IR X M S D) (i : Int32) : gbV X i = gbVm M i ∧ AR (gbX X i) 17 (gbM M i 130) S D ∧ HR (gbX X i) (gbM M i) S D ∧ DRR (gbX X i) (gbM M i) ∧ IR (gbX X i) (gbM M i) S D := by
  unfold gbV gbVm gbX gbM
  cases q : inB i 0 1 with
  | false =>
    simp only [if_true]
    exact ⟨trivial, hA, h, hD, hi⟩
  | true =>
    obtain ⟨k, hk, rfl⟩ := nI_of_in q (cI 1) (by decide)
    have hk2 : k < 2 := by omega
    obtain ⟨a, b, c⟩ := hi k hk2
    simp only [Bool.true_eq_false, if_false]
    rw [tn_nI (by omega), a]
    by_cases z : M 134 k = 0
    · simp only [if_pos z]
      exact ⟨trivial, hA, h, hD, hi⟩
    · simp only [if_neg z]
      obtain ⟨d, e, n, f, g⟩ := c z
      obtain ⟨e1, E, p1, p2, -⟩ := id h
      refine ⟨trivial, ?_, ?_, ?_, ?_⟩
      · refine d.copy hS (fun j hj => ?_) (fun i' g1 g2 j hj => ?_) (fun j hj => ?_)
        · rw [st_row (by omega), st_row (by omega), cpA_at, if_pos ⟨rfl, hj⟩]
        · rw [st_row (by omega), st_row (by omega), cpA_at]
          have : i' = 1 ∨ i' = 2 ∨ i' = 3 := by omega
          rcases this with rfl | rfl | rfl
          · rw [if_neg (by omega), if_pos (by omega)]
          · rw [if_neg (by omega), if_neg (by omega), if_pos (by omega)]
          · rw [if_neg (by omega), if_neg (by omega), if_neg (by omega), if_pos (by omega)]
        · rw [st_row (by decide), st_row (by decide)]
          unfold cyT
          rw [if_pos (by omega), Nat.sub_zero]
      · refine HR.empty (e := e1) ?_ p2 (st_same _ _ _ _) (st_same _ _ _ _)
        rw [st_ne (by omega), st_row (by decide), cpA_row (by omega)]
        exact p1
      · refine ⟨n, ?_, ?_, g⟩
        · rw [st_row (by decide), st_same, e]
          exact f
        · rw [st_ne (by omega), st_same]
          exact f
      · refine hi.congr hS (fun r g1 g2 => ?_) ?_ ?_ ?_
        · rw [st_row (by omega), st_row (by omega), cpA_row (by omega)]
        · rw [st_row (by decide), st_row (by decide), cyT_row (by decide)]
        · rw [st_row (by decide), st_row (by decide), cyT_row (by decide)]
        · rw [st_row (by decide), st_row (by decide), cyT_row (by decide)]
