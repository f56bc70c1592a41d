/-- both readers stand well: the class behind the blanks that the model will skip -/
def PS (X M : IM) (L p : Nat) : Prop := X 2 = M 121 ∧ X 1 2 = nI L ∧ M 120 1 = nI L ∧ L ≤ 240 ∧ M 120 22 = nI p ∧ p ≤ L ∧ X 1 3 = nI (sk (M 121) L p) ∧ M 120 23 = 0 ∧ X 1 8 = 0
/-- both have refused, for the same reason, at the same place -/
def FS (X M : IM) : Prop := ¬ M 120 23 = 0 ∧ X 1 8 = M 120 23 ∧ X 1 9 = M 120 22
theorem PS.congr {X M X' M' : IM} {L p : Nat} (h : PS X M L p) (h1 : X' 2 = X 2) (h2 : M' 121 = M 121) (h3 : X' 1 2 = X 1 2) (h4 : X' 1 3 = X 1 3) (h5 : X' 1 8 = X 1 8) (h6 : M' 120 = M 120) : PS X' M' L p := by
  unfold PS at *
  rw [h1, h2, h3, h4, h5, h6]
  exact h
theorem FS.congr {X M X' M' : IM} (h : FS X M) (h5 : X' 1 8 = X 1 8) (h4 : X' 1 9 = X 1 9) (h6 : M' 120 = M 120) : FS X' M' := by
  unfold FS at *
  rw [h4, h5, h6]
  exact h
theorem zsk_bad {M : IM} (h : ¬ M 120 23 = 0) : zsk M = M := by rw [zsk, if_neg h]
theorem znm_bad {M : IM} {lo hi : Int32} (h : ¬ M 120 23 = 0) : znm M lo hi = (0, M) := by rw [znm, zsk_bad h, znn, if_neg h]
theorem zwd_bad {M : IM} {c : Int32} (h : ¬ M 120 23 = 0) : zwd M c = M := by rw [zwd, zsk_bad h, if_neg h]
theorem zwq_bad {x a : Int32} {q : Int32 × IM} (h : ¬ q.2 120 23 = 0) : zwq x a q = q := by rw [zwq, if_neg (fun z => h z.1)]
theorem zwy_bad {M : IM} {a lo : Int32} (h : ¬ M 120 23 = 0) : zwy M a lo = (0, M) := by
  rw [zwy, zsk_bad h, znm_bad h]
  exact zwq_bad h
/-- the model's blanks skipped -/
theorem PS.skz {X M : IM} {L p : Nat} (h : PS X M L p) : PS X (zsk M) L (sk (M 121) L p) ∧ zsk M = st M 120 22 (nI (sk (M 121) L p)) := by
  obtain ⟨h1, h2, h3, h4, h5, h6, h7, h8, h9⟩ := h
  have e : zsk M = st M 120 22 (nI (sk (M 121) L p)) := by rw [zsk_L h3 h4 h5 h6, if_pos h8]
  refine ⟨?_, e⟩
  rw [e]
  refine ⟨h1.trans (st_row (by decide)).symm, h2, by rw [st_ne (by omega)]; exact h3, h4, st_same _ _ _ _, (sk_stop (M 121) L p).2.2 h6, ?_, by rw [st_ne (by omega)]; exact h8, h9⟩
  rw [st_row (by decide), sk_sk]
  exact h7
theorem PS.look {X M : IM} {L p : Nat} (h : PS X M L p) : lxX X = zlk (zsk M) := by
  obtain ⟨⟨g1, g2, g3, g4, g5, g6, g7, g8, g9⟩, e⟩ := h.skz
  obtain ⟨h1, h2, h3, h4, h5, h6, h7, h8, h9⟩ := h
  have hs := (sk_stop (M 121) L p).2.2 h6
  rw [zlk_lt g3 g4 g5 g6, lxX_lt h2 h4 h7 hs, g1]
theorem PS.lookc {X M : IM} {L p : Nat} (h : PS X M L p) : lxX X = if sk (M 121) L p < L then M 121 (sk (M 121) L p) else -1 := by
  obtain ⟨h1, h2, h3, h4, h5, h6, h7, h8, h9⟩ := h
  rw [lxX_lt h2 h4 h7 ((sk_stop (M 121) L p).2.2 h6), h1]
theorem rf_FS {X M : IM} {k a : Int32} (hk : ¬ k = 0) (h0 : M 120 23 = 0) (ha : a = M 120 22) : FS (rfX X k a) (zfl M k) := by
  unfold rfX zfl
  rw [if_pos h0]
  refine ⟨by rw [st_same]; exact hk, by rw [st_ne (by omega), st_same, st_same], by rw [st_same, st_ne (by omega)]; exact ha⟩
/-- a word -/
theorem tk_sim {X M : IM} {L p : Nat} {c : Int32} (h : PS X M L p) (hc : ¬ c = -1) : ((tkF X c).1 = true ∧ (∃ p', PS (tkF X c).2 (zwd M c) L p') ∧ lxX X = c) ∨ ((tkF X c).1 = false ∧ FS (tkF X c).2 (zwd M c)) := by
  have hlk := h.look
  have hlc := h.lookc
  obtain ⟨⟨g1, g2, g3, g4, g5, g6, g7, g8, g9⟩, e⟩ := h.skz
  obtain ⟨h1, h2, h3, h4, h5, h6, h7, h8, h9⟩ := h
  have hs := (sk_stop (M 121) L p).2.2 h6
  unfold zwd tkF
  rw [if_pos g8, ← hlk]
  by_cases q : lxX X = c
  · left
    rw [if_pos q, if_pos q]
    have hlt : sk (M 121) L p < L := by
      apply Nat.lt_of_not_le
      intro z
      rw [if_neg (by omega)] at hlc
      exact hc (q.symm.trans hlc)
    refine ⟨rfl, ⟨sk (M 121) L p + 1, ?_⟩, q⟩
    have e5 : zsk M 120 22 = nI (sk (M 121) L p) := g5
    have e1 : X 1 3 + 1 = nI (sk (M 121) L p + 1) := by rw [h7]; exact nI_1 _
    show PS (skX (st X 1 3 (X 1 3 + 1))) (st (zsk M) 120 22 (zsk M 120 22 + 1)) L _
    rw [skX_L (L := L) (p := sk (M 121) L p + 1) (by rw [st_ne (by omega)]; exact h2) h4 (by rw [st_same]; exact e1) hlt]
    have er : (st (zsk M) 120 22 (zsk M 120 22 + 1)) 121 = M 121 := by rw [st_row (by decide), zsk_row (by decide)]
    refine ⟨?_, ?_, ?_, h4, ?_, hlt, ?_, ?_, ?_⟩
    · rw [er, st_row (by decide), st_row (by decide)]
      exact h1
    · rw [st_ne (by omega), st_ne (by omega)]
      exact h2
    · rw [st_ne (by omega)]
      exact g3
    · rw [st_same, e5]
      exact nI_1 _
    · rw [er, st_same, st_row (by decide), h1]
    · rw [st_ne (by omega)]
      exact g8
    · rw [st_ne (by omega), st_ne (by omega)]
      exact h9
  · right
    rw [if_neg q, if_neg q]
    exact ⟨rfl, rf_FS (by decide) g8 (h7.trans g5.symm)⟩
theorem vX_vM {tx : Nat → Int32} {p : Nat} : ∀ t, t ≤ 3 → vX tx p t = vM tx p t
  | 0, _ => rfl
  | t + 1, h => by
    rw [vX, vM, if_pos (by omega), if_pos (by omega), vX_vM t (by omega), Int32.mul_comm]
/-- a number -/
theorem rn_sim {X M : IM} {L p : Nat} {lo hi : Int32} (h : PS X M L p) : ((rnF X lo hi).1 = true ∧ (∃ p', PS (rnF X lo hi).2 (znm M lo hi).2 L p') ∧ (rnF X lo hi).2 1 6 = (znm M lo hi).1 ∧ (rnF X lo hi).2 1 7 = zsk M 120 22 ∧ inB (znm M lo hi).1 lo hi = true) ∨ ((rnF X lo hi).1 = false ∧ FS (rnF X lo hi).2 (znm M lo hi).2) := by
  have hlk := h.look
  obtain ⟨⟨g1, g2, g3, g4, g5, g6, g7, g8, g9⟩, e⟩ := h.skz
  obtain ⟨h1, h2, h3, h4, h5, h6, h7, h8, h9⟩ := h
  have hs := (sk_stop (M 121) L p).2.2 h6
  have em : zsk M 121 = M 121 := zsk_row (by decide)
  unfold znm
  generalize hJ : zsk M = J at *
  generalize hp1 : sk (M 121) L p = p1 at *
  have eX : dgN X = nd (M 121) L p1 - p1 := by unfold dgN; rw [h2, h7, h1, tn_nI (by omega), tn_nI (by omega)]
  have eM : zdn J = nd (M 121) L p1 - p1 := by unfold zdn; rw [g3, g5, em, tn_nI (by omega), tn_nI (by omega)]
  have tX : tn (X 1 3) = p1 := by rw [h7, tn_nI (by omega)]
  have tM : tn (J 120 22) = p1 := by rw [g5, tn_nI (by omega)]
  have n1 := nd_le (M 121) L p1
  have n2 := n1.2 hs
  unfold rnF znn
  rw [if_pos g8, ← hlk, eX, eM, tX, tM, em, h1]
  generalize hd : nd (M 121) L p1 - p1 = d
  by_cases q : inB (lxX X) 48 57 = false
  · right
    rw [if_pos q, if_pos q]
    exact ⟨rfl, rf_FS (by decide) g8 (h7.trans g5.symm)⟩
  · rw [if_neg q, if_neg q]
    by_cases q3 : 3 < d
    · right
      rw [if_pos q3]
      dsimp only
      rw [if_pos (Or.inl q3)]
      exact ⟨rfl, rf_FS (by decide) g8 (h7.trans g5.symm)⟩
    · rw [if_neg q3, vX_vM d (by omega)]
      by_cases q4 : inB (vM (M 121) p1 d) lo hi = false
      · right
        rw [if_pos q4]
        dsimp only
        rw [if_pos (Or.inr q4)]
        exact ⟨rfl, rf_FS (by decide) g8 (h7.trans g5.symm)⟩
      · left
        rw [if_neg q4]
        dsimp only
        rw [if_neg (fun z => z.elim q3 q4)]
        have eD : dgX X d 1 3 = nI (p1 + d) := by unfold dgX; rw [st_same, tX]
        have hL' : dgX X d 1 2 = nI L := by unfold dgX; rw [st_ne (by omega), st_ne (by omega), st_ne (by omega)]; exact h2
        refine ⟨rfl, ⟨p1 + d, ?_⟩, ?_, ?_, ?_⟩
        · rw [skX_L (L := L) (p := p1 + d) hL' h4 eD (by omega)]
          refine ⟨?_, ?_, ?_, h4, st_same _ _ _ _, by omega, ?_, ?_, ?_⟩
          · rw [st_row (by decide), st_row (by decide), dgX_row (by decide), em]
            exact h1
          · rw [st_ne (by omega)]
            exact hL'
          · rw [st_ne (by omega)]
            exact g3
          · rw [st_same, st_row (by decide), dgX_row (by decide), em, h1]
          · rw [st_ne (by omega)]
            exact g8
          · rw [st_ne (by omega)]
            unfold dgX
            rw [st_ne (by omega), st_ne (by omega), st_ne (by omega)]
            exact h9
        · rw [skX_L (L := L) (p := p1 + d) hL' h4 eD (by omega), st_ne (by omega)]
          unfold dgX
          rw [st_ne (by omega), st_same, tX, h1, vX_vM d (by omega)]
        · rw [skX_L (L := L) (p := p1 + d) hL' h4 eD (by omega), st_ne (by omega)]
          unfold dgX
          rw [st_ne (by omega), st_ne (by omega), st_same, h7, g5]
        · cases hb : inB (vM (M 121) p1 d) lo hi with
          | true => rfl
          | false => exact absurd hb q4
