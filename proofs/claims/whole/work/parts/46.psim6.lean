theorem skX_11 {X : IM} : skX X 1 1 = X 1 1 := by unfold skX; rw [st_ne (by omega)]
theorem rfX_11 {X : IM} {k a : Int32} : rfX X k a 1 1 = X 1 1 := by unfold rfX; rw [st_ne (by omega), st_ne (by omega)]
theorem dgX_11 {X : IM} {t : Nat} : dgX X t 1 1 = X 1 1 := by unfold dgX; rw [st_ne (by omega), st_ne (by omega), st_ne (by omega)]
theorem tkF_11 {X : IM} {c : Int32} : (tkF X c).2 1 1 = X 1 1 := by
  unfold tkF
  split
  · dsimp only
    rw [skX_11, st_ne (by omega)]
  · dsimp only
    exact rfX_11
theorem rnF_11 {X : IM} {lo hi : Int32} : (rnF X lo hi).2 1 1 = X 1 1 := by
  unfold rnF
  split
  · dsimp only
    exact rfX_11
  · split
    · dsimp only
      exact rfX_11.trans dgX_11
    · split
      · dsimp only
        exact rfX_11.trans dgX_11
      · dsimp only
        exact skX_11.trans dgX_11
theorem wsF_11 {X : IM} {it : Nat} {lo : Int32} : (wsF X it lo).2 1 1 = X 1 1 := by
  unfold wsF
  split
  · exact rnF_11
  · split
    · exact rnF_11
    · dsimp only
      exact rfX_11.trans rnF_11
/-- what the class's reader leaves as it was; the count of letters too -/
def XF (it : Nat) (X X' : IM) : Prop := (∀ r, r ≠ 1 → (r < it ∨ it + 6 < r) → X' r = X r) ∧ (2 ≤ it → X' 1 1 = X 1 1)
theorem XF.rfl' {it : Nat} {X : IM} : XF it X X := ⟨fun _ _ _ => rfl, fun _ => rfl⟩
theorem XF.trans {it : Nat} {X X' X2 : IM} (h : XF it X X') (h' : XF it X' X2) : XF it X X2 := ⟨fun r a b => (h'.1 r a b).trans (h.1 r a b), fun a => (h'.2 a).trans (h.2 a)⟩
theorem XF.arr {it k j : Nat} {X : IM} {x : Int32} (hk : it ≤ k ∧ k ≤ it + 6) : XF it X (st X k j x) := ⟨fun r _ b => st_row (by omega), fun a => st_ne (by omega)⟩
theorem XF.pos {it j : Nat} {X : IM} {x : Int32} (hj : j ≠ 1) : XF it X (st X 1 j x) := ⟨fun r a _ => st_row a, fun _ => st_ne (by omega)⟩
theorem XF.tk {it : Nat} {X : IM} {c : Int32} : XF it X (tkF X c).2 := ⟨fun _ a _ => tkF_row a, fun _ => tkF_11⟩
theorem XF.rn {it : Nat} {X : IM} {lo hi : Int32} : XF it X (rnF X lo hi).2 := ⟨fun _ a _ => rnF_row a, fun _ => rnF_11⟩
theorem XF.ws {it : Nat} {X : IM} {lo : Int32} : XF it X (wsF X it lo).2 := ⟨fun _ a _ => wsF_row a, fun _ => wsF_11⟩
theorem XF.rf {it : Nat} {X : IM} {k a : Int32} : XF it X (rfX X k a) := ⟨fun _ h _ => rfX_row h, fun _ => rfX_11⟩
theorem XF.rw1 {it : Nat} {X : IM} : XF it X (rwF X it).2 := by
  unfold rwF
  split
  · split
    · try dsimp only
      exact XF.rn
    · try dsimp only
      exact XF.rn.trans ((XF.arr (by omega)).trans (XF.arr (by omega)))
  · try dsimp only
    exact XF.rf
theorem XF.ry {it : Nat} {X : IM} : XF it X (ryF X it).2 := by
  unfold ryF
  split
  · split
    · try dsimp only
      exact (XF.pos (by decide)).trans XF.tk
    · unfold ryH
      split
      · try dsimp only
        exact (XF.pos (by decide)).trans (XF.tk.trans XF.rn)
      · unfold ryI
        split
        · try dsimp only
          exact (XF.pos (by decide)).trans (XF.tk.trans (XF.rn.trans ((XF.arr (by omega)).trans XF.rn)))
        · try dsimp only
          exact (XF.pos (by decide)).trans (XF.tk.trans (XF.rn.trans ((XF.arr (by omega)).trans (XF.rn.trans ((XF.arr (by omega)).trans XF.tk)))))
  · try dsimp only
    exact XF.rf
theorem XF.rs {it : Nat} {X : IM} : XF it X (rsF X it).2 := by
  unfold rsF
  split
  · split
    · try dsimp only
      exact XF.tk
    · split
      · try dsimp only
        exact XF.tk.trans XF.ws
      · unfold rsI
        split
        · try dsimp only
          exact XF.tk.trans (XF.ws.trans ((XF.arr (by omega)).trans XF.rn))
        · try dsimp only
          exact XF.tk.trans (XF.ws.trans ((XF.arr (by omega)).trans (XF.rn.trans ((XF.arr (by omega)).trans ((XF.arr (by omega)).trans XF.tk)))))
  · try dsimp only
    exact XF.rf
theorem XF.rt {it : Nat} {X : IM} : XF it X (rtF X it).2 := by
  unfold rtF
  split
  · split
    · try dsimp only
      exact XF.tk
    · split
      · try dsimp only
        exact XF.tk.trans XF.ws
      · unfold rtG
        split
        · try dsimp only
          exact XF.tk.trans (XF.ws.trans XF.rf)
        · unfold rtH
          split
          · try dsimp only
            exact XF.tk.trans (XF.ws.trans ((XF.arr (by omega)).trans XF.rn))
          · unfold rtI
            split
            · try dsimp only
              exact XF.tk.trans (XF.ws.trans ((XF.arr (by omega)).trans (XF.rn.trans ((XF.arr (by omega)).trans XF.rn))))
            · try dsimp only
              exact XF.tk.trans (XF.ws.trans ((XF.arr (by omega)).trans (XF.rn.trans ((XF.arr (by omega)).trans (XF.rn.trans ((XF.arr (by omega)).trans ((XF.arr (by omega)).trans XF.tk)))))))
  · try dsimp only
    exact XF.rf
theorem XF.rc {it : Nat} {X : IM} : XF it X (rcF X it).2 := by
  unfold rcF
  split
  · try dsimp only
    exact XF.rf
  · split
    · try dsimp only
      exact XF.rt
    · split
      · try dsimp only
        exact XF.rs
      · split
        · try dsimp only
          exact XF.ry
        · try dsimp only
          exact XF.rf
theorem XF.wm {it : Nat} : ∀ {n : Nat} {X : IM}, XF it X (wmF it n X).2
  | 0, _ => XF.tk
  | n + 1, X => by
    unfold wmF
    split
    · split
      · try dsimp only
        exact XF.tk
      · split
        · try dsimp only
          exact XF.tk.trans XF.rw1
        · try dsimp only
          exact XF.tk.trans (XF.rw1.trans XF.wm)
    · try dsimp only
      exact XF.tk
theorem XF.wa {it : Nat} {X : IM} : XF it X (waF X it).2 := by
  unfold waF
  split
  · try dsimp only
    exact XF.tk
  · split
    · try dsimp only
      exact XF.tk.trans XF.rw1
    · unfold waI
      split
      · try dsimp only
        exact XF.tk.trans (XF.rw1.trans XF.tk)
      · split
        · try dsimp only
          exact XF.tk.trans (XF.rw1.trans (XF.tk.trans XF.rw1))
        · try dsimp only
          exact XF.tk.trans (XF.rw1.trans (XF.tk.trans (XF.rw1.trans XF.wm)))
theorem XF.cl {it : Nat} : ∀ {n : Nat} {p : Bool × IM}, XF it p.2 (clF it n p)
  | 0, _ => XF.rfl'
  | n + 1, p => by
    unfold clF
    split
    · try dsimp only
      exact XF.rfl'
    · split
      · try dsimp only
        exact XF.rfl'
      · try dsimp only
        exact XF.rc.trans XF.cl
theorem XF.clear {it : Nat} {X : IM} : XF it X (clC X it) := ⟨fun r _ b => clC_row (by omega), fun a => by rw [clC_row (by omega)]⟩
theorem XF.sk {it : Nat} {X : IM} : XF it X (skX X) := ⟨fun _ a _ => skX_row a, fun _ => skX_11⟩
/-- what a reading leaves: all but the castle, the reader and its count, which is 0 then -/
def XG (it : Nat) (X X' : IM) : Prop := (∀ r, r ≠ 1 → (r < it ∨ it + 6 < r) → X' r = X r) ∧ (2 ≤ it → X' 1 1 = 0)
theorem XG.then {it : Nat} {X X' X2 : IM} (h : XG it X X') (h' : XF it X' X2) : XG it X X2 := ⟨fun r a b => (h'.1 r a b).trans (h.1 r a b), fun a => (h'.2 a).trans (h.2 a)⟩
theorem XG.zero {it : Nat} {X : IM} : XG it X (st (st X 1 2 (X 1 1)) 1 1 0) := ⟨fun r a _ => by rw [st_row a, st_row a], fun _ => st_same _ _ _ _⟩
theorem XG.tA {it : Nat} {X : IM} : XG it X (txA X it) := by
  unfold txA
  exact XG.zero.then ((XF.pos (by decide)).trans ((XF.pos (by decide)).trans ((XF.pos (by decide)).trans ((XF.pos (by decide)).trans XF.clear))))
theorem XG.tB {it : Nat} {X : IM} : XG it X (txB X it) := XG.tA.then XF.sk
theorem XG.tx {it : Nat} {X : IM} : XG it X (txF X it).2 := by
  unfold txF
  split
  · try dsimp only
    unfold txC
    exact XG.tB.then ((XF.arr (by omega)).trans ((XF.arr (by omega)).trans (XF.wa.trans XF.cl)))
  · exact XG.tB
/-- the start of a reading -/
theorem start_PS {X M : IM} {it L : Nat} (hI : isC it) (ht : X 2 = M 121) (hX : X 1 1 = nI L) (hM : M 120 1 = nI L) (hL : L ≤ 240) : PS (txB X it) (zsk (zA M)) L (sk (M 121) L 0) := by
  have hi2 : 1 ≠ it := (isC_ne2 hI).symm
  have hi0 : 3 ≤ it := by rcases hI with rfl | rfl <;> decide
  have e1 : txA X it 1 2 = nI L := by unfold txA; rw [clC_row hi2, st_ne (by omega), st_ne (by omega), st_ne (by omega), st_ne (by omega), st_ne (by omega), st_same, hX]
  have e2 : txA X it 1 3 = nI 0 := by unfold txA; rw [clC_row hi2, st_ne (by omega), st_ne (by omega), st_ne (by omega), st_same]; rfl
  have e7 : txA X it 1 8 = 0 := by unfold txA; rw [clC_row hi2, st_ne (by omega), st_same]
  have er : txA X it 2 = M 121 := by rw [← ht]; exact XG.tA.1 2 (by decide) (Or.inl (by omega))
  have zr : zA M 121 = M 121 := by
    rw [zA_eq]
    funext j
    dsimp only
    rw [if_neg (by omega)]
  have h : PS (txB X it) (zA M) L 0 := by
    unfold txB
    rw [skX_L e1 hL e2 (by omega), er]
    refine ⟨?_, ?_, ?_, hL, ?_, by omega, ?_, ?_, ?_⟩
    · rw [st_row (by decide), er, zr]
    · rw [st_ne (by omega)]
      exact e1
    · rw [zA_eq]
      dsimp only
      rw [if_neg (by omega)]
      exact hM
    · rw [zA_eq]
      rfl
    · rw [st_same, zr]
    · rw [zA_eq]
      rfl
    · rw [st_ne (by omega)]
      exact e7
  have h2 := h.skz.1
  rw [zr] at h2
  exact h2
/-- what castle() reads: a castle of nothing, a castle, or the same fault -/
theorem tx_sim {X M : IM} {it L : Nat} (hI : isC it) (ht : X 2 = M 121) (hX : X 1 1 = nI L) (hM : M 120 1 = nI L) (hL : L ≤ 240) (hne : ∀ j, j < L → ¬ M 121 j = -1) :
    ((csU X it).1 = 0 ∧ zB M 120 23 = 0 ∧ DQ (csU X it).2 (zB M) it) ∨ ((csU X it).1 = 0 ∧ zB M 120 23 = 0 ∧ (csU X it).2 = txB X it ∧ zB M = zsk (zA M)) ∨ (¬ zB M 120 23 = 0 ∧ (csU X it).1 = zB M 120 23 ∧ (csU X it).2 1 9 = zB M 120 22) := by
  have hi2 : it ≠ 1 := isC_ne2 hI
  have hi0 : 3 ≤ it := by rcases hI with rfl | rfl <;> decide
  have h := start_PS hI ht hX hM hL
  have zr : zsk (zA M) 121 = M 121 := by
    rw [zsk_row (by decide), zA_eq]
    funext j
    dsimp only
    rw [if_neg (by omega)]
  have hs : sk (zsk (zA M) 121) L (sk (M 121) L 0) = sk (M 121) L 0 := by rw [zr, sk_sk]
  have hz : MZ (zsk (zA M)) L 0 := (zA_MZ hM hL).skz
  have hw0 : zsk (zA M) 120 23 = 0 := h.2.2.2.2.2.2.2.1
  have hp2 := h.2.2.2.2.2.1
  have hx := h.2.2.2.2.2.2.1
  rw [hs] at hx
  have hz126 : ∀ j, j < 5 → zsk (zA M) 126 j = 0 := fun j hj => by
    rw [zsk_row (by decide), zA_eq]
    dsimp only
    rw [if_pos (by omega)]
  have hcr : txB X it it = txA X it it := by unfold txB; exact skX_row hi2
  unfold csU txF zB
  by_cases q : sk (M 121) L 0 < L
  · have hlt : txB X it 1 3 < txB X it 1 2 := by rw [hx, h.2.1]; exact (nI_ltI (by omega) (by omega)).mpr q
    rw [if_pos hlt]
    unfold txC
    have hl1 : ¬ zlk (zsk (zA M)) = -1 := by
      rw [zlk_lt h.2.2.1 hL h.2.2.2.2.1 hp2, if_pos q, zr]
      exact hne _ q
    have hlk := look_fix h hs
    have h' : PS (st (st (txB X it) it 9 1) it 10 1) (zsk (zA M)) L (sk (M 121) L 0) := h.congr (by rw [st_row (by omega), st_row (by omega)]) rfl (by rw [st_ne (by omega), st_ne (by omega)]) (by rw [st_ne (by omega), st_ne (by omega)]) (by rw [st_ne (by omega), st_ne (by omega)]) rfl
    have hlk' := look_fix h' hs
    have hx0 : ∀ j, j = 0 ∨ j = 2 ∨ j = 6 → st (st (txB X it) it 9 1) it 10 1 it j = nI 0 := fun j hj => by
      rw [st_ne (by omega), st_ne (by omega), hcr]
      unfold txA clC
      rcases hj with rfl | rfl | rfl
      · rw [st_ne (by omega), st_ne (by omega), st_ne (by omega), st_ne (by omega), st_same]; rfl
      · rw [st_ne (by omega), st_ne (by omega), st_ne (by omega), st_same]; rfl
      · rw [st_ne (by omega), st_ne (by omega), st_same]; rfl
    have h24 : st (st (txB X it) it 9 1) it 10 1 1 5 = 0 := by
      rw [st_row (by omega), st_row (by omega)]
      unfold txB
      rw [skX_24]
      unfold txA
      rw [clC_row (by omega), st_ne (by omega), st_ne (by omega), st_same]
    have h9 : st (st (txB X it) it 9 1) it 10 1 it 9 = 1 := by rw [st_ne (by omega), st_same]
    have h10 : st (st (txB X it) it 9 1) it 10 1 it 10 = 1 := st_same _ _ _ _
    generalize st (st (txB X it) it 9 1) it 10 1 = Y at *
    have hne' : ∀ j, j < L → ¬ zsk (zA M) 121 j = -1 := fun j hj => by rw [zr]; exact hne j hj
    generalize zsk (zA M) = N at *
    have hW : DW Y N it 0 := ⟨hx0 0 (by omega), hz126 0 (by omega), by omega, fun j hj => absurd hj (by omega)⟩
    rw [zrd_go hw0 hl1]
    by_cases q1 : lxX Y = 119
    · have ec : zcl N = zws N := by rw [zcl, if_pos (by rw [← hlk']; exact q1)]
      have hzc := hz.cl hl1
      rw [ec] at hzc ⊢
      have e121 : zsk (zws N) 121 = N 121 := by rw [zsk_row (by decide)]; exact ZF.ws.1 121 (by decide) (by decide)
      rcases wa_sim hI h' hs q1 hW with ⟨r1, ⟨p', r2⟩, ⟨W, hW2, r3⟩, r4⟩ | ⟨r1, r2⟩
      · have e : waF Y it = (true, (waF Y it).2) := by rw [← r1]
        rw [e]
        have hD : DQ (waF Y it).2 (zws N) it := by
          refine ⟨W, 0, 0, hW2, r3, ⟨?_, ?_, by omega, fun j hj => absurd hj (by omega)⟩, ⟨?_, ?_, by omega, fun j hj => absurd hj (by omega)⟩, Or.inl ⟨?_, ?_, ?_, ?_⟩⟩
          · rw [r4.1 2 (by decide)]
            exact hx0 2 (by omega)
          · rw [r4.2.2.1 1 (by decide)]
            exact hz126 1 (by omega)
          · rw [r4.1 6 (by decide)]
            exact hx0 6 (by omega)
          · rw [r4.2.2.1 2 (by decide)]
            exact hz126 2 (by omega)
          · rw [r4.2.1]
            exact h24
          · rw [r4.1 9 (by decide)]
            exact h9
          · rw [r4.1 10 (by decide)]
            exact h10
          · rw [r4.2.2.1 3 (by decide)]
            exact hz126 3 (by omega)
        rcases cl_sim hI 240 (waF Y it).2 (zsk (zws N)) 1 239 _ (by omega) (by omega) hzc.skz r2.skz.1 (by rw [zsk_row (by decide), sk_sk]) hD.skz (fun j hj => by rw [e121]; exact hne' j hj) with ⟨⟨p2, s1⟩, s2⟩ | s
        · exact Or.inl ⟨s1.2.2.2.2.2.2.2.2, s1.2.2.2.2.2.2.2.1, s2⟩
        · exact Or.inr (Or.inr s)
      · right
        right
        have e : waF Y it = (false, (waF Y it).2) := by rw [← r1]
        rw [e, clF_false rfl, zsk_bad r2.1, zrd_bad r2.1]
        exact r2
    · right
      right
      have ec : zcl N = zfl N 1 := by rw [zcl, if_neg (fun z => q1 (by rw [hlk']; exact z)), if_pos (hz126 0 (by omega))]
      have e : waF Y it = (false, rfX Y 1 (Y 1 3)) := by
        have e0 : tkF Y 119 = (false, rfX Y 1 (Y 1 3)) := by rw [tkF, if_neg q1]
        rw [waF, e0, if_pos rfl]
      have hf : FS (rfX Y 1 (Y 1 3)) (zfl N 1) := nofail h' hs (by decide)
      rw [ec, e, clF_false rfl, zsk_bad hf.1, zrd_bad hf.1]
      exact hf
  · have hpL : sk (M 121) L 0 = L := by omega
    have hnlt : ¬ txB X it 1 3 < txB X it 1 2 := by
      rw [hx, h.2.1, hpL]
      exact fun z => absurd ((nI_ltI (by omega) (by omega)).mp z) (by omega)
    have hl1 : zlk (zsk (zA M)) = -1 := by rw [zlk_lt h.2.2.1 hL h.2.2.2.2.1 hp2, if_neg q]
    rw [if_neg hnlt, zrd_st (fun z => z.2 hl1)]
    exact Or.inr (Or.inl ⟨rfl, hw0, rfl, rfl⟩)
