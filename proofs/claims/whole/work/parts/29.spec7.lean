theorem RD.keep {im im' : IM} (h : RD im) (h1 : im' 1 2 = im 1 2) (h2 : im' 1 3 = im 1 3) : RD im' := by
  obtain ⟨L, p, hL, hL2, hp, hp2⟩ := h
  exact ⟨L, p, h1.trans hL, hL2, h2.trans hp, hp2⟩
theorem RD.sto {im : IM} {k j : Nat} {x : Int32} (h : RD im) (hk : k ≠ 1 ∨ (j ≠ 2 ∧ j ≠ 3)) : RD (st im k j x) := h.keep (st_ne (by omega)) (st_ne (by omega))
theorem RD.rf {im : IM} {k a : Int32} (h : RD im) : RD (rfX im k a) := (h.sto (by omega)).sto (by omega)
theorem skX_L {im : IM} {L p : Nat} (hL : im 1 2 = nI L) (hL2 : L ≤ 240) (hp : im 1 3 = nI p) (hp2 : p ≤ L) : skX im = st im 1 3 (nI (sk (im 2) L p)) := by
  rw [skX, hL, hp, tn_nI (by omega), tn_nI (by omega)]
theorem RD.skp {im : IM} (h : RD im) : RD (skX im) := by
  obtain ⟨L, p, hL, hL2, hp, hp2⟩ := h
  rw [skX_L hL hL2 hp hp2]
  exact ⟨L, sk (im 2) L p, (st_ne (by omega)).trans hL, hL2, st_same _ _ _ _, (sk_stop (im 2) L p).2.2 hp2⟩
theorem RD.tk {im : IM} {c : Int32} (h : RD im) (hc : ¬ c = -1) : RD (tkF im c).2 := by
  obtain ⟨L, p, hL, hL2, hp, hp2⟩ := id h
  unfold tkF
  split
  · next q =>
    rw [lxX_lt hL hL2 hp hp2] at q
    have hlt : p < L := by
      apply Nat.lt_of_not_le
      intro z
      rw [if_neg (by omega)] at q
      exact hc q.symm
    exact RD.skp ⟨L, p + 1, (st_ne (by omega)).trans hL, hL2, by rw [st_same, hp]; exact nI_1 p, by omega⟩
  · exact h.rf
theorem RD.dg {im : IM} (h : RD im) : RD (dgX im (dgN im)) := by
  obtain ⟨L, p, hL, hL2, hp, hp2⟩ := id h
  have e : dgN im = nd (im 2) L p - p := by unfold dgN; rw [hL, hp, tn_nI (by omega), tn_nI (by omega)]
  have h1 := nd_le (im 2) L p
  have h2 := h1.2 hp2
  refine ⟨L, p + dgN im, by unfold dgX; rw [st_ne (by omega), st_ne (by omega), st_ne (by omega)]; exact hL, hL2, by unfold dgX; rw [st_same, hp, tn_nI (by omega)], by omega⟩
theorem RD.rn {im : IM} {lo hi : Int32} (h : RD im) : RD (rnF im lo hi).2 := by
  unfold rnF
  split
  · exact h.rf
  · split
    · exact h.dg.rf
    · split
      · exact h.dg.rf
      · exact h.dg.skp
theorem isC_ne2 {it : Nat} (h : isC it) : it ≠ 1 := by rcases h with rfl | rfl <;> decide
def wsF (im : IM) (it : Nat) (lo : Int32) : Bool × IM :=
  if (rnF im lo 255).1 = false then (false, (rnF im lo 255).2) else if decide ((rnF im lo 255).2 1 6 &&& (alS (im it 0) ^^^ (-1)) = 0) = true then (true, (rnF im lo 255).2) else (false, rfX (rnF im lo 255).2 2 ((rnF im lo 255).2 1 7))
theorem wsF_row {im : IM} {it : Nat} {lo : Int32} {r : Nat} (h : r ≠ 1) : (wsF im it lo).2 r = im r := by
  unfold wsF
  split
  · exact rnF_row h
  · split
    · exact rnF_row h
    · exact (rfX_row h).trans (rnF_row h)
theorem RD.ws {im : IM} {it : Nat} {lo : Int32} (h : RD im) : RD (wsF im it lo).2 := by
  unfold wsF
  split
  · exact h.rn
  · split
    · exact h.rn
    · exact h.rn.rf
def rwF (im : IM) (it : Nat) : Bool × IM := if im it 0 < 8 then (if (rnF im 1 999).1 = false then (false, (rnF im 1 999).2) else (true, st (st (rnF im 1 999).2 (it + 1) (tn (im it 0)) ((rnF im 1 999).2 1 6)) it 0 (im it 0 + 1))) else (false, rfX im 1 (im 1 3))
def ryI (it : Nat) (J : IM) : Bool × IM := if (rnF J 1 30).1 = false then (false, (rnF J 1 30).2) else tkF (st (rnF J 1 30).2 it 10 ((rnF J 1 30).2 1 6)) 59
def ryH (it : Nat) (J : IM) : Bool × IM := if (rnF J 1 99).1 = false then (false, (rnF J 1 99).2) else ryI it (st (rnF J 1 99).2 it 9 ((rnF J 1 99).2 1 6))
def ryF (im : IM) (it : Nat) : Bool × IM := if im 1 5 = 0 then (if (tkF (st im 1 5 1) 112).1 = false then (false, (tkF (st im 1 5 1) 112).2) else ryH it (tkF (st im 1 5 1) 112).2) else (false, rfX im 3 (im 1 3))
def rsI (it : Nat) (n : Int32) (J : IM) : Bool × IM := if (rnF J 0 999).1 = false then (false, (rnF J 0 999).2) else tkF (st (st (rnF J 0 999).2 (it + 6) (tn n) ((rnF J 0 999).2 1 6)) it 6 (n + 1)) 59
def rsF (im : IM) (it : Nat) : Bool × IM := if im it 6 < 5 then (if (tkF im 115).1 = false then (false, (tkF im 115).2) else if (wsF (tkF im 115).2 it 1).1 = false then (false, (wsF (tkF im 115).2 it 1).2) else rsI it (im it 6) (st (wsF (tkF im 115).2 it 1).2 (it + 5) (tn (im it 6)) ((wsF (tkF im 115).2 it 1).2 1 6))) else (false, rfX im 3 (im 1 3))
def rtI (it : Nat) (n : Int32) (J : IM) : Bool × IM := if (rnF J 0 999).1 = false then (false, (rnF J 0 999).2) else tkF (st (st (rnF J 0 999).2 (it + 4) (tn n) ((rnF J 0 999).2 1 6)) it 2 (n + 1)) 59
def rtH (it : Nat) (n : Int32) (J : IM) : Bool × IM := if (rnF J 0 63).1 = false then (false, (rnF J 0 63).2) else rtI it n (st (rnF J 0 63).2 (it + 3) (tn n) ((rnF J 0 63).2 1 6))
def rtG (it : Nat) (n : Int32) (J : IM) : Bool × IM := if hasB (J 1 6) 0 = true then (false, rfX J 2 (J 1 7)) else rtH it n (st J (it + 2) (tn n) (J 1 6))
def rtF (im : IM) (it : Nat) : Bool × IM := if im it 2 < 6 then (if (tkF im 116).1 = false then (false, (tkF im 116).2) else if (wsF (tkF im 116).2 it 0).1 = false then (false, (wsF (tkF im 116).2 it 0).2) else rtG it (im it 2) (wsF (tkF im 116).2 it 0).2) else (false, rfX im 3 (im 1 3))
def rcF (im : IM) (it : Nat) : Bool × IM := if lxX im = nI 119 then (false, rfX im 3 (im 1 3)) else if lxX im = nI 116 then rtF im it else if lxX im = nI 115 then rsF im it else if lxX im = nI 112 then ryF im it else (false, rfX im 1 (im 1 3))
/-- the ways from the third on: so many at most -/
def wmF (it : Nat) : Nat → IM → Bool × IM
  | 0, im => tkF im 59
  | n + 1, im => if lxX im = 44 then (if (tkF im 44).1 = false then (false, (tkF im 44).2) else if (rwF (tkF im 44).2 it).1 = false then (false, (rwF (tkF im 44).2 it).2) else wmF it n (rwF (tkF im 44).2 it).2) else tkF im 59
def waI (it : Nat) (J : IM) : Bool × IM := if (tkF J 44).1 = false then (false, (tkF J 44).2) else if (rwF (tkF J 44).2 it).1 = false then (false, (rwF (tkF J 44).2 it).2) else wmF it 6 (rwF (tkF J 44).2 it).2
def waF (im : IM) (it : Nat) : Bool × IM := if (tkF im 119).1 = false then (false, (tkF im 119).2) else if (rwF (tkF im 119).2 it).1 = false then (false, (rwF (tkF im 119).2 it).2) else waI it (rwF (tkF im 119).2 it).2
/-- what keeps the reader safe -/
def RC (im : IM) (it : Nat) : Prop := RD im ∧ CA im it
theorem RC.row2 {im im' : IM} {it : Nat} (h : RC im it) (hr : RD im') (hrow : ∀ r, r ≠ 1 → im' r = im r) : RC im' it := ⟨hr, h.2.keepR (hrow it (isC_ne2 h.2.1))⟩
theorem RC.tk {im : IM} {it : Nat} {c : Int32} (h : RC im it) (hc : ¬ c = -1) : RC (tkF im c).2 it := h.row2 (h.1.tk hc) (fun _ q => tkF_row q)
theorem RC.rn {im : IM} {it : Nat} {lo hi : Int32} (h : RC im it) : RC (rnF im lo hi).2 it := h.row2 h.1.rn (fun _ q => rnF_row q)
theorem RC.ws {im : IM} {it : Nat} {lo : Int32} (h : RC im it) : RC (wsF im it lo).2 it := h.row2 h.1.ws (fun _ q => wsF_row q)
theorem RC.rf {im : IM} {it : Nat} {k a : Int32} (h : RC im it) : RC (rfX im k a) it := h.row2 h.1.rf (fun _ q => rfX_row q)
theorem RC.arr {im : IM} {it i j : Nat} {x : Int32} (h : RC im it) (hi : 1 ≤ i) : RC (st im (it + i) j x) it := ⟨h.1.sto (Or.inl (by have := h.2.1; rcases this with rfl | rfl <;> omega)), h.2.keepR (st_row (by omega))⟩
theorem RC.fld {im : IM} {it j : Nat} {x : Int32} (h : RC im it) (hj : j = 9 ∨ j = 10) : RC (st im it j x) it := ⟨h.1.sto (Or.inl (isC_ne2 h.2.1)), h.2.keep (st_ne (by omega)) (st_ne (by omega)) (st_ne (by omega))⟩
theorem RC.cnt {im : IM} {it : Nat} (h : RC im it) {j n m : Nat} {x : Int32} (hj : (j = 0 ∧ m = 8) ∨ (j = 2 ∧ m = 6) ∨ (j = 6 ∧ m = 5)) (hx : x = nI n) (hn : n ≤ m) : RC (st im it j x) it := by
  refine ⟨h.1.sto (Or.inl (isC_ne2 h.2.1)), ?_⟩
  obtain ⟨hC, W, T, S, hW, hW8, hT, hT6, hS, hS5⟩ := h.2
  rcases hj with ⟨rfl, rfl⟩ | ⟨rfl, rfl⟩ | ⟨rfl, rfl⟩
  · exact ⟨hC, n, T, S, by rw [st_same]; exact hx, hn, by rw [st_ne (by omega)]; exact hT, hT6, by rw [st_ne (by omega)]; exact hS, hS5⟩
  · exact ⟨hC, W, n, S, by rw [st_ne (by omega)]; exact hW, hW8, by rw [st_same]; exact hx, hn, by rw [st_ne (by omega)]; exact hS, hS5⟩
  · exact ⟨hC, W, T, n, by rw [st_ne (by omega)]; exact hW, hW8, by rw [st_ne (by omega)]; exact hT, hT6, by rw [st_same]; exact hx, hn⟩
theorem RC.rwy {im : IM} {it : Nat} (h : RC im it) : RC (rwF im it).2 it := by
  unfold rwF
  split
  · next q =>
    split
    · exact h.rn
    · obtain ⟨hC, W, T, S, hW, hW8, -⟩ := h.2
      have hl : W < 8 := lt_of_nI hW (cI 8) q (by omega) (by omega)
      exact (h.rn.arr (by omega)).cnt (Or.inl ⟨rfl, rfl⟩) (n := W + 1) (by rw [hW]; exact nI_1 W) (by omega)
  · exact h.rf
