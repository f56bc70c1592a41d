theorem itDrow {X : IM} {c k : Nat} (h : k ≠ 17 ∧ k ≠ 19 ∧ k ≠ 20) : ∀ t, itD c t X k = X k
  | 0 => rfl
  | t + 1 => (pdX_row h).trans (itDrow h t)
theorem it_sim {X M : IM} {pl W T S D : Nat} (hI : isC pl) (hC : CR X M pl W T S D) (hA : AR X 17 (M 130) S D) : ∀ t, AR (itD pl t X) 17 (itM t M 130) S D
  | 0 => hA
  | t + 1 => by
    have hp : pl + 6 < 17 := by rcases hI with rfl | rfl <;> omega
    have hC' : CR (itD pl t X) (itM t M) pl W T S D := hC.congr (fun r g1 g2 => itDrow ⟨by omega, by omega, by omega⟩ t) (fun r g1 g2 => itM_row (by omega) t)
    exact pd_sim hC' (it_sim hI hC hA t)
theorem rf_eq {X M : IM} {pl W T S D : Nat} (hC : CR X M pl W T S D) (hA : AR X 17 (M 130) S D) (n : Int32) : rfD X pl n = brM M n := by
  have h0 : X 17 0 = M 130 0 := hA.1 0 (by omega)
  unfold rfD brM
  rw [ic_eq hC.1 hC.2.1, h0]
/-- day -/
theorem dy_sim {X M : IM} {pl W T S D : Nat} (hI : isC pl) (hC : CR X M pl W T S D) (h : HR X M S D) (hA : AR X 17 (M 130) S D) (n : Int32) : dyV X pl n = dyVm M n ∧ AR (dyX X pl n) 17 (dyM M n 130) S D ∧ HR (dyX X pl n) (dyM M n) S D := by
  have hS : S ≤ 5 := hC.2.2.2.2.2.2.2.2.1
  have hp : pl + 6 < 17 := by rcases hI with rfl | rfl <;> omega
  have hC' : CR (rmX X) (ntM M) pl W T S D := hC.congr (fun r g1 g2 => rmX_low (by omega)) (fun r g1 g2 => ntM_row (by omega) (by omega))
  have hA' := it_sim hI hC' (hA.rem hS) (tn n)
  have hH := (rm_sim hS h hA).congr (X' := itD pl (tn n) (rmX X)) (M' := itM (tn n) (ntM M)) hS (fun r g1 g2 => itDrow ⟨by omega, by omega, by omega⟩ _) (by rw [itM_row (by decide)]) (itM_row (by decide) _)
  unfold dyV dyVm dyX dyM
  rw [rf_eq hC hA n]
  by_cases q : brM M n = 0
  · simp only [if_pos q]
    exact ⟨hA'.1 0 (by omega), hA', hH⟩
  · simp only [if_neg q]
    exact ⟨trivial, hA, h⟩
