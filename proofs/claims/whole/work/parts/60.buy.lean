/-- buy -/
theorem by_sim {X M : IM} {pl W T S D : Nat} (hC : CR X M pl W T S D) (h : HR X M S D) (hA : AR X 17 (M 130) S D) (x w m : Int32) : byV X pl x w m = byVm M x w m ∧ AR (byX X pl x w m) 17 (byM M x w m 130) S D ∧ HR (byX X pl x w m) (byM M x w m) S D := by
  have hS : S ≤ 5 := hC.2.2.2.2.2.2.2.2.1
  have s1 : X pl 6 = nI S := hC.2.2.2.2.2.2.1
  have s2 : M 122 2 = nI S := hC.2.2.2.2.2.2.2.1
  obtain ⟨a1, a2, a3, -, -, -, -, -, -, -, -, -, -, -, -, -, -, -, v⟩ := id hC
  unfold byV byVm byX byM
  rw [s1, s2, a1, a2, ways_eq a3]
  cases q : inB x 0 (nI S - 1) with
  | false =>
    simp only [if_true]
    exact ⟨trivial, hA, h⟩
  | true =>
    obtain ⟨j, hj, rfl⟩ := inB_nat q (by omega)
    simp only [Bool.true_eq_false, if_false]
    cases q1 : inB w 0 (alS (nI W)) with
    | false =>
      simp only [if_true]
      exact ⟨trivial, hA, h⟩
    | true =>
      simp only [Bool.true_eq_false, if_false]
      by_cases q2 : w = 0
      · simp only [if_pos q2]
        exact ⟨trivial, hA, h⟩
      · simp only [if_neg q2]
        cases q3 : inB m 0 9999 with
        | false =>
          simp only [if_true]
          exact ⟨trivial, hA, h⟩
        | true =>
          simp only [Bool.true_eq_false, if_false]
          rw [tn_nI (by omega), (v j hj).2.1]
          by_cases q4 : M 125 (2 * j + 1) ≤ m
          · simp only [if_pos q4]
            have h04 : inB (nI j) 0 4 = true := inB_iff.mpr ⟨nI_le (a := 0) (by omega) (by omega), nI_le (b := 4) (by omega) (by omega)⟩
            have eg : X 19 j = goM M j := (hA.2.2.2 j hj).2.1
            have ex : giX (st (rmX X) 18 j w) (nI j) m = st (st (rmX X) 18 j w) 19 j (gtV (goM M j + m)) := by
              unfold giX
              rw [if_pos h04, tn_nI (by omega), st_row (by decide), rmX_low (by omega), eg, mn_gt]
            have em : geM (st (ntM M) 130 (6 + 3 * j) w) j m = st (st (ntM M) 130 (6 + 3 * j) w) 130 (6 + 3 * j + 1) (gtV (goM M j + m)) := by
              have e0 : goM (st (ntM M) 130 (6 + 3 * j) w) j = goM M j := by
                show st (ntM M) 130 (6 + 3 * j) w 130 (6 + 3 * j + 1) = M 130 (6 + 3 * j + 1)
                rw [st_ne (by omega), ntM_130]
              unfold geM
              rw [e0]
            rw [ex, em]
            refine ⟨by rw [eg, mn_gt], ?_, ?_⟩
            · have k1 := (hA.rem hS).setS (s := j) (i := 1) (v := w) hj (by omega) (fun z => absurd z (by omega))
              have k2 := k1.setS (s := j) (i := 2) (v := gtV (goM M j + m)) hj (by omega) (fun z => absurd z (by omega))
              simp only [Nat.sub_self, Nat.add_zero, Nat.reduceSub] at k2
              rw [st_fun, st_fun]
              exact k2
            · refine (rm_sim hS h hA).congr hS (fun r g1 g2 => ?_) ?_ ?_
              · rw [st_row (by omega), st_row (by omega)]
              · rw [st_row (by decide), st_row (by decide)]
              · rw [st_row (by decide), st_row (by decide)]
          · simp only [if_neg q4]
            exact ⟨trivial, hA, h⟩
