theorem bnX_row {Y : IM} {it r : Nat} (h : r < 17 ∨ 20 < r) (h1 : r ≠ 21) (h2 : r ≠ 103) (h3 : r ≠ 106) (h4 : r ≠ 110) (h5 : r ≠ 115) : bnX Y it r = Y r := by
  unfold bnX
  rw [st_row h5, st_row h4, st_row h3, st_row h2, st_row h1]
  funext j
  unfold bgT
  rw [if_neg (by omega), if_neg (by omega), if_neg (by omega), if_neg (by omega)]
theorem bgT_row {Y : IM} {it r t : Nat} (h : r < 17 ∨ 20 < r) : bgT Y it t r = Y r := by
  funext j
  unfold bgT
  rw [if_neg (by omega), if_neg (by omega), if_neg (by omega), if_neg (by omega)]
theorem zE_row {M : IM} {r : Nat} (h : r < 122 ∨ 125 < r) : zE M r = M r := by
  unfold zE
  rw [cyT_row (by omega), cyT_row (by omega), cyT_row (by omega), cyT_row (by omega)]
theorem zL_120 {N : IM} {j : Nat} (h : j ≠ 13) (h1 : j ≠ 19) (h2 : j ≠ 21) : zL N 120 j = zC N 120 j := by
  unfold zL zK
  rw [st_row (by decide), st_row (by decide), st_ne (by omega), st_ne (by omega), st_ne (by omega), zS_row (by decide), zG_row (by decide), zE_row (by omega), zD_row (by decide)]
theorem zL_z {N : IM} : zL N 120 13 = 0 ∧ zL N 120 19 = 0 ∧ zL N 120 21 = 0 ∧ zL N 134 0 = 0 ∧ zL N 134 1 = 0 := by
  unfold zL zK
  refine ⟨?_, ?_, ?_, ?_, ?_⟩
  · rw [st_row (by decide), st_row (by decide), st_ne (by omega), st_ne (by omega), st_same]
  · rw [st_row (by decide), st_row (by decide), st_ne (by omega), st_same]
  · rw [st_row (by decide), st_row (by decide), st_same]
  · rw [st_ne (by omega), st_same]
  · rw [st_same]
/-- a text without a fault: all begins anew -/
theorem cs_new {X M Y N : IM} {pl it W T S D : Nat} (h : Rel X M pl it) (hx : XG it X Y) (hm : ZF M N) (hz : N 120 23 = 0) (hC : CR (st Y 0 0 (-1)) (zL N) it W T S D) : Rel (bnX (st Y 0 0 (-1)) it) (zL N) it pl ∧ bnX (st Y 0 0 (-1)) it it 0 = zE (zD (zC N)) 122 0 := by
  obtain ⟨hp, hi, hne, hZ, hT, hH, hB, hD, W0, T0, S0, D0, hC0, hA0, hR0, hI0⟩ := h
  have p6 : pl + 6 < 17 ∧ 3 ≤ pl := by rcases hp with rfl | rfl <;> omega
  have i6 : it + 6 < 17 ∧ 3 ≤ it := by rcases hi with rfl | rfl <;> omega
  have hAn := new_AR hi hC
  have y0 : st Y 0 0 (-1) 1 1 = 0 ∧ st Y 0 0 (-1) 0 0 = -1 := ⟨by rw [st_row (by decide), hx.2 (by omega)], st_same _ _ _ _⟩
  have yr : ∀ r, r ≠ 0 → r ≠ 1 → (r < it ∨ it + 6 < r) → st Y 0 0 (-1) r = X r := fun r h0 h1 h2 => by rw [st_row h0, hx.1 r h1 h2]
  generalize st Y 0 0 (-1) = Z at *
  have br : ∀ r, r ≠ 1 → it + 6 < r → 20 < r → r ≠ 21 → r ≠ 103 → r ≠ 106 → r ≠ 110 → r ≠ 115 → bnX Z it r = X r := fun r a1 a2 a3 a4 a5 a6 a7 a8 => by rw [bnX_row (by omega) a4 a5 a6 a7 a8, yr r (by omega) a1 (by omega)]
  have b1 : bnX Z it 1 = Z 1 := bnX_row (by omega) (by omega) (by omega) (by omega) (by omega) (by omega)
  have b0 : bnX Z it 0 = Z 0 := bnX_row (by omega) (by omega) (by omega) (by omega) (by omega) (by omega)
  have bC : ∀ r, it ≤ r → r ≤ it + 6 → bnX Z it r = Z r := fun r a1 a2 => bnX_row (by omega) (by omega) (by omega) (by omega) (by omega) (by omega)
  obtain ⟨l1, l2, l3, l4, l5⟩ := zL_z (N := N)
  have lr : ∀ r, r ≠ 130 → r ≠ 120 → r ≠ 134 → (r < 122 ∨ 129 < r) → zL N r = M r := fun r a1 a2 a3 a4 => by rw [zL_row a1 a2 a3, zE_row (by omega), zD_row (by omega), zC_row a2, hm.1 r a2 (by omega)]
  refine ⟨⟨hi, hp, hne.symm, ?_, ?_, ?_, ?_, ?_, W, T, S, D, ?_, hAn, ?_, ?_⟩, ?_⟩
  · intro a ha
    rcases isA_lo ha with rfl | q
    · rw [bn_low (by omega)]
      unfold bgT
      rw [if_pos ⟨rfl, by omega⟩, if_pos (by omega), if_pos ⟨rfl, by omega⟩, if_pos (by omega)]
      exact ⟨b01_bI _, b01_bI _⟩
    · rw [br a (by omega) (by omega) (by omega) (by omega) (by omega) (by omega) (by omega) (by omega)]
      exact hZ a ha
  · refine ⟨?_, ?_, 0, ?_, ?_, by omega, fun j hj => absurd hj (by omega)⟩
    · rw [bnX_row (by omega) (by omega) (by omega) (by omega) (by omega) (by omega), yr 2 (by omega) (by omega) (by omega), lr 121 (by omega) (by omega) (by omega) (by omega)]
      exact hT.1
    · rw [b0, y0.2, zL_120 (by omega) (by omega) (by omega)]
      unfold zC
      rw [st_same, if_pos hz]
    · rw [b1, y0.1]
      rfl
    · rw [zL_120 (by omega) (by omega) (by omega)]
      unfold zC
      rw [st_ne (by omega), st_same]
      rfl
  · refine ⟨0, ?_, l2, by omega, fun j hj => absurd hj (by omega)⟩
    unfold bnX
    rw [st_row (by decide), st_row (by decide), st_row (by decide), st_same]
    rfl
  · refine ⟨0, ?_, l3, by omega, fun j hj => absurd hj (by omega)⟩
    unfold bnX
    rw [st_row (by decide), st_row (by decide), st_same]
    rfl
  · refine hD.congr (br 108 (by omega) (by omega) (by omega) (by omega) (by omega) (by omega) (by omega) (by omega)) ?_
    rw [zL_120 (by omega) (by omega) (by omega)]
    unfold zC
    rw [st_ne (by omega), st_ne (by omega), hm.2 17 (by omega) (by omega)]
  · exact hC.congr bC (fun _ _ _ => rfl)
  · obtain ⟨e, E, a1, a2, -⟩ := hR0
    refine HR.empty (e := e) ?_ a2 ?_ l1
    · unfold bnX
      rw [st_row (by decide), st_row (by decide), st_row (by decide), st_row (by decide), st_ne (by omega), bgT_row (by omega), yr 21 (by omega) (by omega) (by omega)]
      exact a1
    · unfold bnX
      rw [st_row (by decide), st_row (by decide), st_row (by decide), st_row (by decide), st_same]
  · intro i h2
    have hi2 : i = 0 ∨ i = 1 := by omega
    rcases hi2 with rfl | rfl
    · refine ⟨?_, ?_, fun z => absurd l4 z⟩
      · rw [l4]
        unfold bnX
        rw [st_row (by decide), st_same]
      · rw [l4]
        exact Or.inl rfl
    · refine ⟨?_, ?_, fun z => absurd l5 z⟩
      · rw [l5]
        unfold bnX
        rw [st_same]
      · rw [l5]
        exact Or.inl rfl
  · rw [bC it (by omega) (by omega), hC.1, ← hC.2.1, zL_row (by decide) (by decide) (by decide)]
/-- an empty text -/
theorem empty_CR {X M : IM} {it : Nat} (hI : isC it) : CR (st (txB X it) 0 0 (-1)) (zL (zsk (zA M))) it 0 0 0 0 := by
  have i6 : it + 6 < 17 ∧ 3 ≤ it := by rcases hI with rfl | rfl <;> omega
  have hx : ∀ j, j = 0 ∨ j = 2 ∨ j = 6 ∨ j = 9 ∨ j = 10 → st (txB X it) 0 0 (-1) it j = 0 := by
    intro j hj
    rw [st_row (by omega)]
    unfold txB
    rw [skX_row (by omega)]
    unfold txA clC
    rcases hj with rfl | rfl | rfl | rfl | rfl
    · rw [st_ne (by omega), st_ne (by omega), st_ne (by omega), st_ne (by omega), st_same]
    · rw [st_ne (by omega), st_ne (by omega), st_ne (by omega), st_same]
    · rw [st_ne (by omega), st_ne (by omega), st_same]
    · rw [st_ne (by omega), st_same]
    · rw [st_same]
  have hn : ∀ j, j < 5 → zC (zsk (zA M)) 126 j = 0 := by
    intro j hj
    rw [zC_row (by decide), zsk_row (by decide), zA_eq]
    dsimp only
    rw [if_pos (by omega)]
  have hl : ∀ j, j < 5 → zL (zsk (zA M)) 122 j = 0 := by
    intro j hj
    rw [zL_row (by decide) (by decide) (by decide), zE_122 hj]
    unfold zD
    rw [if_neg (fun z => by rw [hn 0 (by omega)] at z; exact absurd z.1 (by decide))]
    exact hn j hj
  unfold CR
  rw [hx 0 (by omega), hx 2 (by omega), hx 6 (by omega), hx 9 (by omega), hx 10 (by omega), hl 0 (by omega), hl 1 (by omega), hl 2 (by omega), hl 3 (by omega), hl 4 (by omega)]
  refine ⟨rfl, rfl, by omega, rfl, rfl, by omega, rfl, rfl, by omega, rfl, rfl, rfl, by omega, ⟨0, rfl, by omega⟩, fun _ => ⟨rfl, rfl, rfl⟩, fun z => absurd z (by omega), fun j hj => absurd hj (by omega), fun j hj => absurd hj (by omega), fun j hj => absurd hj (by omega)⟩
/-- castle: both alike -/
theorem cs_sim {X M : IM} {pl it : Nat} (h : Rel X M pl it) :
    ((csU X it).1 = 0 ∧ zB M 120 23 = 0 ∧ Rel (bnX (st (csU X it).2 0 0 (-1)) it) (zL (zB M)) it pl ∧ bnX (st (csU X it).2 0 0 (-1)) it it 0 = zE (zD (zC (zB M))) 122 0)
    ∨ (¬ zB M 120 23 = 0 ∧ (csU X it).1 = zB M 120 23 ∧ Rel (st (csU X it).2 0 0 ((csU X it).2 1 9)) (zC (zB M)) pl it) := by
  have hT := h.2.2.2.2.1
  have hi : isC it := h.2.1
  have i6 : it + 6 < 17 ∧ 3 ≤ it := by rcases hi with rfl | rfl <;> omega
  obtain ⟨t1, t2, L, t3, t4, t5, t6⟩ := hT
  have hne : ∀ j, j < L → ¬ M 121 j = -1 := fun j hj z => by
    have := t6 j hj
    rw [z] at this
    exact absurd this (by decide)
  have hx : XG it X (csU X it).2 := XG.tx
  have hm : ZF M (zB M) := ZF.zb
  rcases tx_sim hi t1 t3 t4 t5 hne with ⟨a1, a2, a3⟩ | ⟨a1, a2, a3, a4⟩ | ⟨a1, a2, a3⟩
  · left
    obtain ⟨W, T, S, D, -, hC⟩ := good_CR (Y' := st (csU X it).2 0 0 (-1)) a3 (fun r g1 g2 => by rw [st_row (by omega)])
    exact ⟨a1, a2, cs_new h hx hm a2 hC⟩
  · left
    have hC := empty_CR (X := X) (M := M) hi
    rw [← a3, ← a4] at hC
    exact ⟨a1, a2, cs_new h hx hm a2 hC⟩
  · right
    exact ⟨a1, a2, cs_bad h a1 a3⟩
