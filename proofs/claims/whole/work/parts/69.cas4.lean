theorem ZF.za {M : IM} : ZF M (zA M) := by
  rw [zA_eq]
  constructor
  · intro r h1 h2
    funext j
    dsimp only
    rw [if_neg (by omega)]
  · intro j h1 h2
    dsimp only
    rw [if_neg (by omega)]
theorem ZF.zb {M : IM} : ZF M (zB M) := ZF.za.trans (ZF.skz.trans ZF.rd)
theorem isA_lo {a : Nat} (h : isA a) : a = 17 ∨ (23 ≤ a ∧ a ≤ 99) ∨ a = 111 ∨ a = 116 := by
  unfold isA affL at h
  simp only [List.mem_cons, List.not_mem_nil, or_false] at h
  omega
theorem HZ.congr {X X' : IM} (h : HZ X) (h1 : ∀ a, isA a → X' a = X a) : HZ X' := fun a ha => by
  rw [h1 a ha]
  exact h a ha
/-- a text with a fault: nothing changes but the text and the fault -/
theorem cs_bad {X M : IM} {pl it : Nat} (h : Rel X M pl it) (hz : ¬ zB M 120 23 = 0) (hk : (csU X it).2 1 9 = zB M 120 22) : Rel (st (csU X it).2 0 0 ((csU X it).2 1 9)) (zC (zB M)) pl it := by
  obtain ⟨hp, hi, hne, hZ, hT, hH, hB, hD, W, T, S, D, hC, hA, hR, hI⟩ := h
  have hS : S ≤ 5 := hC.2.2.2.2.2.2.2.2.1
  have p6 : pl + 6 < 17 ∧ 3 ≤ pl := by rcases hp with rfl | rfl <;> omega
  have i6 : it + 6 < 17 ∧ 3 ≤ it := by rcases hi with rfl | rfl <;> omega
  have hd : pl + 6 < it ∨ it + 6 < pl := by
    rcases hp with rfl | rfl <;> rcases hi with rfl | rfl <;> first | omega | exact absurd rfl hne
  have hx : XG it X (csU X it).2 := XG.tx
  have hm : ZF M (zB M) := ZF.zb
  generalize (csU X it).2 = Y at *
  have xr : ∀ r, r ≠ 0 → r ≠ 1 → (r < it ∨ it + 6 < r) → st Y 0 0 (Y 1 9) r = X r := fun r h0 h1 h2 => by rw [st_row h0, hx.1 r h1 h2]
  have mr : ∀ r, r ≠ 120 → (r < 126 ∨ 129 < r) → zC (zB M) r = M r := fun r h1 h2 => by rw [zC_row h1, hm.1 r h1 h2]
  have m120 : ∀ j, j ≠ 1 → j ≠ 2 → j ≠ 22 → j ≠ 23 → zC (zB M) 120 j = M 120 j := fun j h1 h2 h3 h4 => by
    unfold zC
    rw [st_ne (by omega), st_ne (by omega), hm.2 j h3 h4]
  refine ⟨hp, hi, hne, ?_, ?_, ?_, ?_, ?_, W, T, S, D, ?_, ?_, ?_, ?_⟩
  · exact hZ.congr (fun a ha => by have := isA_lo ha; exact xr a (by omega) (by omega) (by omega))
  · refine ⟨?_, ?_, 0, ?_, ?_, by omega, fun j hj => absurd hj (by omega)⟩
    · rw [xr 2 (by decide) (by decide) (by omega), mr 121 (by decide) (by decide)]
      exact hT.1
    · rw [st_same]
      unfold zC
      rw [st_same, if_neg hz]
      exact hk
    · rw [st_row (by decide), hx.2 (by omega)]
      rfl
    · unfold zC
      rw [st_ne (by omega), st_same]
      rfl
  · exact hH.congr (xr _ (by decide) (by decide) (by omega)) (xr _ (by decide) (by decide) (by omega)) (xr _ (by decide) (by decide) (by omega)) (m120 19 (by decide) (by decide) (by decide) (by decide)) (mr _ (by decide) (by decide))
  · exact hB.congr (xr _ (by decide) (by decide) (by omega)) (xr _ (by decide) (by decide) (by omega)) (m120 21 (by decide) (by decide) (by decide) (by decide)) (mr _ (by decide) (by decide))
  · exact hD.congr (xr _ (by decide) (by decide) (by omega)) (m120 17 (by decide) (by decide) (by decide) (by decide))
  · exact hC.congr (fun r g1 g2 => xr r (by omega) (by omega) (by omega)) (fun r g1 g2 => mr r (by omega) (by omega))
  · exact hA.congr hS (fun r g1 g2 => xr r (by omega) (by omega) (by omega)) (fun j _ => by rw [mr 130 (by decide) (by decide)])
  · exact hR.congr hS (fun r g1 g2 => xr r (by omega) (by omega) (by omega)) (m120 13 (by decide) (by decide) (by decide) (by decide)) (mr _ (by decide) (by decide))
  · exact hI.congr hS (fun r g1 g2 => xr r (by omega) (by omega) (by omega)) (mr _ (by decide) (by decide)) (mr _ (by decide) (by decide)) (mr _ (by decide) (by decide))
