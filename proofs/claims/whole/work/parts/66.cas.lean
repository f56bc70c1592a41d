theorem cy_at {M : IM} {f t n j : Nat} : cyT M f 0 t 0 n t j = if j < n then M f j else M t j := by
  unfold cyT
  by_cases h : j < n
  · rw [if_pos (by omega), if_pos h, Nat.zero_add, Nat.sub_zero]
  · rw [if_neg (by omega), if_neg h]
/-- the model's castle after a good text -/
theorem zE_122 {M : IM} {j : Nat} (h : j < 5) : zE M 122 j = M 126 j := by
  unfold zE
  rw [cyT_row (by decide), cyT_row (by decide), cyT_row (by decide), cy_at, if_pos h]
theorem zE_123 {M : IM} {j : Nat} (h : j < 8) : zE M 123 j = M 127 j := by
  unfold zE
  rw [cyT_row (by decide), cyT_row (by decide), cy_at, if_pos h, cyT_row (by decide)]
theorem zE_124 {M : IM} {j : Nat} (h : j < 18) : zE M 124 j = M 128 j := by
  unfold zE
  rw [cyT_row (by decide), cy_at, if_pos h, cyT_row (by decide), cyT_row (by decide)]
theorem zE_125 {M : IM} {j : Nat} (h : j < 10) : zE M 125 j = M 129 j := by
  unfold zE
  rw [cy_at, if_pos h, cyT_row (by decide), cyT_row (by decide), cyT_row (by decide)]
theorem zL_row {M : IM} {r : Nat} (h : r ≠ 130) (h2 : r ≠ 120) (h3 : r ≠ 134) : zL M r = zE (zD (zC M)) r := by
  unfold zL zK
  rw [st_row h3, st_row h3, st_row h2, st_row h2, st_row h2, zS_row h, zG_row h]
theorem zC_row {M : IM} {r : Nat} (h : r ≠ 120) : zC M r = M r := by
  unfold zC
  rw [st_row h, st_row h]
theorem zD_row {M : IM} {r : Nat} (h : r ≠ 126) : zD M r = M r := by
  unfold zD
  split
  · rw [st_row h, st_row h]
  · rfl
