theorem dmV_nat {n d : Nat} (hn : n < 2147483648) (h0 : 0 < d) (hd : d < 1000) : dmV (nI n) (nI d) = nI (n / 65536 % d) := by
  unfold dmV
  rw [show (65536 : Int32) = nI 65536 from rfl, pk_div (by omega) (by omega) (by omega), pk_rem (by omega) h0 (by omega)]
/-- a drifting day's deed -/
theorem dw_sim {X M : IM} {pl W T S D : Nat} (hI : isC pl) (hC : CR X M pl W T S D) (hA : AR X 17 (M 130) S D) (hD : DRR X M) : AR (dwX X pl) 17 (dwM M 130) S D ∧ DRR (dwX X pl) (dwM M) := by
  have hS : S ≤ 5 := hC.2.2.2.2.2.2.2.2.1
  have t1 : X pl 2 = nI T := hC.2.2.2.1
  have t2 : M 122 1 = nI T := hC.2.2.2.2.1
  have t3 : T ≤ 6 := hC.2.2.2.2.2.1
  have s1 : X pl 6 = nI S := hC.2.2.2.2.2.2.1
  have s2 : M 122 2 = nI S := hC.2.2.2.2.2.2.2.1
  have hd := hC.2.2.2.2.2.2.2.2.2.2.2.2.2.2.2.2.2.1
  have h2 : X 17 2 = M 130 2 := hA.1 2 (by omega)
  have h3 : X 17 3 = M 130 3 := hA.1 3 (by omega)
  have h4 : X 17 4 = M 130 4 := hA.1 4 (by omega)
  have h5 : X 17 5 = M 130 5 := hA.1 5 (by omega)
  obtain ⟨n, d1, d2, d3⟩ := hD
  have e1 : drS (nI n) = dmS (nI n) := dr_dm d3
  obtain ⟨n1, f1, g1⟩ : ∃ n1, dmS (nI n) = nI n1 ∧ n1 < 2147483648 := ⟨_, by rw [← e1, dr_nat d3], Nat.mod_lt _ (by decide)⟩
  have e2 : drS (nI n1) = dmS (nI n1) := dr_dm g1
  obtain ⟨n2, f2, g2⟩ : ∃ n2, dmS (nI n1) = nI n2 ∧ n2 < 2147483648 := ⟨_, by rw [← e2, dr_nat g1], Nat.mod_lt _ (by decide)⟩
  have v8 : drV (nI n1) 8 = dmV (nI n1) 8 := drV_dm (by decide)
  unfold dwX dwM
  rw [d1, d2, e1, f1, e2, f2, v8, t1, t2, s1, s2, h5, h4, h3]
  by_cases q1 : dmV (nI n1) 8 = 0 ∧ ¬ nI T ≤ 0
  · rw [if_pos q1, if_pos q1]
    have hT : 0 < T := Nat.pos_of_ne_zero (fun z => q1.2 (by rw [z]; decide))
    rw [drV_dm q1.2, dmV_nat g2 hT (by omega)]
    have hj : n2 / 65536 % T < T := Nat.mod_lt _ hT
    generalize n2 / 65536 % T = j at hj
    have hin : inB (nI j) 0 (nI T - 1) = true := by
      rw [show nI T - 1 = nI (T - 1) from pk_sub (b := 1) (by omega)]
      exact inB_iff.mpr ⟨nI_le (a := 0) (by omega) (by omega), nI_le (by omega) (by omega)⟩
    have e : cmB X pl (nI j) = cbB M (nI j) := by
      unfold cmB cbB shM
      rw [t1, hin, h2, h3, h4, tn_nI (by omega), (hd j hj).2.1, Bool.true_and]
      rcases hA.2.1 with z | z
      · rw [z]
        cases hasB (M 130 4) (nI j) <;> rfl
      · rw [z]
        cases hasB (M 130 4) (nI j) <;> rfl
    rw [e]
    have hA0 : AR (st X 108 0 (nI n2)) 17 (M 130) S D := hA.congr hS (fun r g1 g2 => st_row (by omega)) (fun _ _ => rfl)
    cases cbB M (nI j) with
    | false =>
      simp only [Bool.false_eq_true, if_false]
      rw [show M 130 4 ||| 0 = M 130 4 from or0 _]
      refine ⟨hA0.congr hS (fun _ _ _ => rfl) (fun i _ => ?_), n2, st_same _ _ _ _, ?_, g2⟩
      · rw [st_at1]
        split
        · next z => rw [z]
        · rw [st_row (by decide)]
      · rw [st_row (by decide), st_same]
    | true =>
      simp only [if_true]
      refine ⟨?_, n2, ?_, ?_, g2⟩
      · rw [st_fun, st_row (by decide)]
        exact hA0.set (by omega) (fun z => absurd z (by omega)) (fun z => absurd z (by omega))
      · rw [st_row (by decide), st_same]
      · rw [st_row (by decide), st_same]
  · rw [if_neg q1, if_neg q1]
    by_cases q2 : dmV (nI n1) 8 = 1 ∧ ¬ nI S ≤ 0
    · rw [if_pos q2, if_pos q2]
      have hS0 : 0 < S := Nat.pos_of_ne_zero (fun z => q2.2 (by rw [z]; decide))
      have hDp := hC.Dpos hS0
      rw [drV_dm q2.2, dmV_nat g2 hS0 (by omega)]
      have hj : n2 / 65536 % S < S := Nat.mod_lt _ hS0
      generalize n2 / 65536 % S = j at hj
      have h04 : inB (nI j) 0 4 = true := inB_iff.mpr ⟨nI_le (a := 0) (by omega) (by omega), nI_le (b := 4) (by omega) (by omega)⟩
      have hA0 : AR (st X 108 0 (nI n2)) 17 (M 130) S D := hA.congr hS (fun r g1 g2 => st_row (by omega)) (fun _ _ => rfl)
      unfold shX hrM
      rw [if_pos h04, tn_nI (by omega)]
      constructor
      · rw [st_row (k := 108) (a := 17) (by decide), st_row (k := 120) (a := 130) (by decide), h5]
        have k1 := hA0.set (j := 5) (v := hrV (M 130 5) (nI j) (if hasB (M 130 5) (nI j) = true then 0 else 1)) (by omega) (fun z => absurd z (by omega)) (fun z => absurd z (by omega))
        have k2 := k1.setS (s := j) (i := 3) (v := 0) hj (by omega) (fun _ => ⟨0, rfl, by omega⟩)
        rw [st_fun, st_fun, st_row (k := 120) (a := 130) (by decide)]
        exact k2
      · exact ⟨n2, by rw [st_row (by decide), st_row (by decide), st_same], by rw [st_row (by decide), st_row (by decide), st_same], g2⟩
    · rw [if_neg q2, if_neg q2]
      have hA0 : AR (st X 108 0 (nI n1)) 17 (M 130) S D := hA.congr hS (fun r g1 g2 => st_row (by omega)) (fun _ _ => rfl)
      by_cases q3 : dmV (nI n1) 8 = 2
      · rw [if_pos q3, if_pos q3]
        have ev : (if M 130 3 = 0 then (1 : Int32) else 0) = 1 - M 130 3 := by
          rcases hA.2.2.1.1 with z | z
          · rw [if_pos z, z]
            rfl
          · rw [if_neg (by rw [z]; decide), z]
            rfl
        have hb : b01 (1 - M 130 3) := by
          rcases hA.2.2.1.1 with z | z
          · rw [z]
            exact Or.inr rfl
          · rw [z]
            exact Or.inl rfl
        rw [ev]
        constructor
        · rw [st_fun, st_row (k := 120) (a := 130) (by decide)]
          exact hA0.set (by omega) (fun _ => hb) (fun z => absurd z (by omega))
        · exact ⟨n1, by rw [st_row (by decide), st_same], by rw [st_row (by decide), st_same], g1⟩
      · rw [if_neg q3, if_neg q3]
        refine ⟨?_, n1, st_same _ _ _ _, st_same _ _ _ _, g1⟩
        rw [st_row (k := 120) (a := 130) (by decide)]
        exact hA0
theorem iw_sim {X M : IM} {pl W T S D : Nat} (hI : isC pl) (hC : CR X M pl W T S D) (hA : AR X 17 (M 130) S D) (hD : DRR X M) : ∀ t, AR (itV pl t X) 17 (itW t M 130) S D ∧ DRR (itV pl t X) (itW t M)
  | 0 => ⟨hA, hD⟩
  | t + 1 => by
    have hp : pl + 6 < 17 := by rcases hI with rfl | rfl <;> omega
    obtain ⟨k1, k2⟩ := iw_sim hI hC hA hD t
    have hC1 : CR (itV pl t X) (itW t M) pl W T S D := hC.congr (fun r g1 g2 => itV_row (by omega) (by omega) (by omega) (by omega) t) (fun r g1 g2 => itW_row (by omega) (by omega) t)
    obtain ⟨m1, m2⟩ := dw_sim hI hC1 k1 k2
    have hC2 : CR (dwX (itV pl t X) pl) (dwM (itW t M)) pl W T S D := hC1.congr (fun r g1 g2 => dwX_row (by omega) (by omega) (by omega)) (fun r g1 g2 => dwM_row (by omega) (by omega))
    exact ⟨pd_sim hC2 m1, m2.congr (pdX_row ⟨by decide, by decide, by decide⟩) (by show psX (dwM (itW t M)) 120 17 = _; rw [psX_row (by decide)])⟩
/-- drift -/
theorem df_sim {X M : IM} {pl W T S D : Nat} (hI : isC pl) (hC : CR X M pl W T S D) (h : HR X M S D) (hA : AR X 17 (M 130) S D) (hD : DRR X M) (n : Int32) : dfV X pl n = dfVm M n ∧ AR (dfX X pl n) 17 (dfM M n 130) S D ∧ HR (dfX X pl n) (dfM M n) S D ∧ DRR (dfX X pl n) (dfM M n) := by
  have hS : S ≤ 5 := hC.2.2.2.2.2.2.2.2.1
  have hp : pl + 6 < 17 := by rcases hI with rfl | rfl <;> omega
  have hC' : CR (rmX X) (ntM M) pl W T S D := hC.congr (fun r g1 g2 => rmX_low (by omega)) (fun r g1 g2 => ntM_row (by omega) (by omega))
  have hE : ∃ e, tn (X 21 1) = e ∧ e < 20 := by
    obtain ⟨e, E, a1, a2, -⟩ := h
    exact ⟨e, by rw [a1, tn_nI (by omega)], a2⟩
  obtain ⟨e, ht, he⟩ := hE
  have hD' : DRR (rmX X) (ntM M) := by
    refine hD.congr ?_ ?_
    · unfold rmX
      rw [st_row (by decide), st_row (by decide), ht, cpA_row (by omega)]
    · unfold ntM
      split
      · rw [st_ne (by omega), cyT_row (by decide), st_ne (by omega)]
        unfold shT
        rw [if_neg (by omega)]
      · rw [st_ne (by omega), cyT_row (by decide)]
  obtain ⟨k1, k2⟩ := iw_sim hI hC' (hA.rem hS) hD' (tn n)
  have hH := (rm_sim hS h hA).congr (X' := itV pl (tn n) (rmX X)) (M' := itW (tn n) (ntM M)) hS (fun r g1 g2 => itV_row (by omega) (by omega) (by omega) (by omega) _) ?_ (itW_row (by decide) (by decide) _)
  · unfold dfV dfVm dfX dfM
    rw [rf_eq hC hA n, lf_eq hC]
    by_cases q : brM M n = 0
    · simp only [if_pos q]
      exact ⟨by rw [k1.1 4 (by omega)], k1, hH, k2⟩
    · simp only [if_neg q]
      exact ⟨trivial, hA, h, hD⟩
  · have key : ∀ t (N : IM), itW t N 120 13 = N 120 13 := by
      intro t
      induction t with
      | zero => intro N; rfl
      | succ t ih =>
        intro N
        show psX (dwM (itW t N)) 120 13 = _
        rw [psX_row (by decide), ← ih N]
        unfold dwM hrM
        split
        · rw [st_row (by decide), st_ne (by omega)]
        · split
          · rw [st_row (by decide), st_row (by decide), st_ne (by omega)]
          · split
            · rw [st_row (by decide), st_ne (by omega)]
            · rw [st_ne (by omega)]
    exact key _ _
