theorem zsk_23 {im : IM} : zsk im 120 23 = im 120 23 := by
  unfold zsk
  split
  · exact st_ne (by omega)
  · rfl
theorem zfl_23 {im : IM} {k : Int32} (hk : ¬ k = 0) : ¬ zfl im k 120 23 = 0 := by
  unfold zfl
  rw [st_same]
  split
  · exact hk
  · assumption
theorem zww_ms {im : IM} {L a n : Nat} (h : MZ im L a) (hm : 9 ≤ tn (im 126 0) + (n + 1)) : ¬ zsk (zww im) 120 23 = 0 ∨ 9 ≤ tn (zsk (zww im) 126 0) + n := by
  obtain ⟨W, T, S, hW, hW8, -⟩ := h.2
  rw [hW, tn_nI (by omega)] at hm
  rw [zsk_23, zsk_row (by decide)]
  unfold zww
  split
  · right
    unfold zww2
    rw [st_same, znm_row (by decide), st_row (by decide), hW, nI_1, tn_nI (by omega)]
    omega
  · exact Or.inl (zfl_23 (by decide))
theorem zwv_go {n : Nat} {im : IM} (h : im 120 23 = 0) (h2 : zlk im = 44 ∨ im 126 0 = 1) : zwv (n + 1) im = zwv n (zsk (zww im)) := by rw [zwv, if_pos ⟨h, h2⟩]
theorem zwv_st {n : Nat} {im : IM} (h : ¬ (im 120 23 = 0 ∧ (zlk im = 44 ∨ im 126 0 = 1))) : zwv n im = im := by
  cases n with
  | zero => rfl
  | succ n => rw [zwv, if_neg h]
theorem zww_f {im : IM} (h : ¬ (zlk im = 44 ∧ ¬ im 126 0 = 8)) : zww im = zfl im 1 := by rw [zww, if_neg h]
theorem zrd_go {n : Nat} {im : IM} (h : im 120 23 = 0) (h2 : ¬ zlk im = -1) : zrd (n + 1) im = zrd n (zsk (zcl im)) := by rw [zrd, if_pos ⟨h, h2⟩]
theorem zrd_st {n : Nat} {im : IM} (h : ¬ (im 120 23 = 0 ∧ ¬ zlk im = -1)) : zrd n im = im := by
  cases n with
  | zero => rfl
  | succ n => rw [zrd, if_neg h]
theorem MZ.end {im : IM} {L a : Nat} (h : MZ im L a) (ha : L ≤ a) (h0 : im 120 23 = 0) : zlk im = -1 := by
  obtain ⟨hL, hL2, p, hp, hp2, hpa⟩ := h.1
  rw [zlk_lt hL hL2 hp hp2, if_neg]
  have := hpa h0
  omega
theorem MZ.weak {im : IM} {L a : Nat} (h : MZ im L (a + 1)) : MZ im L a := ⟨h.1.weak, h.2⟩
/-- the draft is emptied -/
def zZ (im : IM) : Nat → IM
  | 0 => im
  | t + 1 => st (st (st (st (zZ im t) 126 (t % 5) 0) 127 (t % 8) 0) 128 t 0) 129 (t % 10) 0
def zA (im : IM) : IM := zZ (st (st im 120 22 0) 120 23 0) 18
def zB (im : IM) : IM := zrd 240 (zsk (zA im))
def zC (im : IM) : IM := st (st im 120 1 0) 120 2 (if im 120 23 = 0 then -1 else im 120 22)
def zD (im : IM) : IM := if 0 < im 126 0 ∧ im 126 3 = 0 then st (st im 126 3 1) 126 4 1 else im
def zE (im : IM) : IM := cyT (cyT (cyT (cyT im 126 0 122 0 5) 127 0 123 0 8) 128 0 124 0 18) 129 0 125 0 10
def zW (im : IM) (t : Nat) : IM := fun k j => if k = 130 ∧ j < t then 0 else im k j
def zG (im : IM) : IM := st (st (zW im 21) 130 2 (bI (decide (0 < im 122 0)))) 130 3 (bI (decide (0 < im 122 0)))
def zS (im : IM) : Nat → IM
  | 0 => im
  | t + 1 => st (zS im t) 130 (6 + 3 * t) (im 125 (2 * t))
def zK (im : IM) : IM := st (st (st (st (st im 120 13 0) 120 19 0) 120 21 0) 134 0 0) 134 1 0
def zL (im : IM) : IM := zK (zS (zG (zE (zD (zC im)))) (tn (zE (zD (zC im)) 122 2)))
def zcM (im : IM) : IM := if zB im 120 23 = 0 then zL (zB im) else zC (zB im)
def zcV (im : IM) : Int32 := if zB im 120 23 = 0 then zE (zD (zC (zB im))) 122 0 else -10 - zB im 120 23
