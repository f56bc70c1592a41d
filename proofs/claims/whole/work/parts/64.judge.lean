theorem foF_c {f g : Nat → Int32} {x : Int32} : ∀ m t, (∀ j, t ≤ j → j < t + m → f j = g j) → foF f x t m = foF g x t m
  | 0, _, _ => rfl
  | m + 1, t, h => by rw [foF, foF, h t (by omega) (by omega), foF_c m (t + 1) (fun j g1 g2 => h j (by omega) (by omega))]
/-- judge -/
theorem jd_eq {X M : IM} (h : BKR X M) (x : Int32) : foF (X 107) x 0 (tn (X 106 1)) = foF (M 136) x 0 (tn (M 120 21)) := by
  obtain ⟨B, h1, h2, h3, h4⟩ := h
  rw [h1, h2, tn_nI (by omega)]
  exact foF_c B 0 (fun j _ hj => h4 j (by omega))
