theorem st_at1 {im : IM} {k j i : Nat} {x : Int32} : st im k j x k i = if i = j then x else im k i := by
  rw [st_at]
  simp only [true_and]
/-- a set of ways -/
theorem ws_sim {X M : IM} {it L p : Nat} {lo a : Int32} (h : PS X M L p) (ha : a = alS (X it 0)) : ((wsF X it lo).1 = true ∧ (∃ p', PS (wsF X it lo).2 (zwy M a lo).2 L p') ∧ (wsF X it lo).2 1 6 = (zwy M a lo).1 ∧ (zwy M a lo).1 &&& (a ^^^ (-1)) = 0 ∧ inB (zwy M a lo).1 lo 255 = true ∧ (wsF X it lo).2 1 7 = zsk M 120 22) ∨ ((wsF X it lo).1 = false ∧ FS (wsF X it lo).2 (zwy M a lo).2) := by
  obtain ⟨hJ, -⟩ := h.skz
  have e0 : zsk (zsk M) = zsk M := by
    obtain ⟨hJ2, e2⟩ := hJ.skz
    obtain ⟨-, e⟩ := h.skz
    rw [e2, zsk_row (by decide), sk_sk, e, st_st]
  have e1 : znm (zsk M) lo 255 = znm M lo 255 := by rw [znm, e0, znm]
  rw [zwy, e1]
  rcases rn_sim (lo := lo) (hi := 255) h with ⟨r1, ⟨p', hp'⟩, r3, r4, r5⟩ | ⟨r1, r2⟩
  · unfold wsF
    rw [if_neg (by rw [r1]; decide), ← ha, r3]
    have h0 : (znm M lo 255).2 120 23 = 0 := hp'.2.2.2.2.2.2.2.1
    by_cases q : (znm M lo 255).1 &&& (a ^^^ (-1)) = 0
    · left
      rw [decide_eq_true q, if_pos rfl, zwq, if_neg (fun z => z.2 q)]
      exact ⟨rfl, ⟨p', hp'⟩, r3, q, r5, r4⟩
    · right
      rw [decide_eq_false q, if_neg (by decide), zwq, if_pos ⟨h0, q⟩]
      refine ⟨rfl, ?_⟩
      refine rf_FS (by decide) (by rw [st_ne (by omega)]; exact h0) ?_
      rw [st_same]
      exact r4
  · right
    unfold wsF
    rw [if_pos r1]
    refine ⟨rfl, ?_⟩
    rw [zwq_bad r2.1]
    exact r2
/-- a clause's first letter, seen by both -/
theorem op_sim {X M : IM} {L p : Nat} {c : Int32} (h : PS X M L p) (hs : sk (M 121) L p = p) (hl : lxX X = c) (hc : ¬ c = -1) : (tkF X c).1 = true ∧ ∃ p', PS (tkF X c).2 (zop M false) L p' := by
  obtain ⟨g, e⟩ := h.skz
  have hM : zsk M = M := by rw [e, hs, ← h.2.2.2.2.1, st_same2 rfl]
  have hlk : zlk M = c := by rw [← hl, h.look, hM]
  have e2 : zop M false = zwd M c := by
    rw [zwd, hM, if_pos h.2.2.2.2.2.2.2.1, if_pos hlk]
    rfl
  rw [e2]
  rcases tk_sim h hc with ⟨r1, r2, -⟩ | ⟨r1, -⟩
  · exact ⟨r1, r2⟩
  · rw [tkF, if_pos hl] at r1
    cases r1
theorem op_full {X M : IM} {L p : Nat} (h : PS X M L p) (hs : sk (M 121) L p = p) : FS (rfX X 3 (X 1 3)) (zop M true) := by
  have h0 := h.2.2.2.2.2.2.2.1
  have e : zop M true = zfl M 3 := by
    show st (zfl M 3) 120 22 (M 120 22 + 0) = _
    rw [Int32.add_zero]
    exact st_same2 (by unfold zfl; rw [st_ne (by omega)])
  rw [e]
  exact rf_FS (by decide) h0 (by rw [h.2.2.2.2.2.2.1, hs, h.2.2.2.2.1])
def DW (X M : IM) (it W : Nat) : Prop := X it 0 = nI W ∧ M 126 0 = nI W ∧ W ≤ 8 ∧ ∀ j, j < W → X (it + 1) j = M 127 j ∧ inB (M 127 j) 1 999 = true
def DT (X M : IM) (it W T : Nat) : Prop := X it 2 = nI T ∧ M 126 1 = nI T ∧ T ≤ 6 ∧ ∀ j, j < T → X (it + 2) j = M 128 (3 * j) ∧ X (it + 3) j = M 128 (3 * j + 1) ∧ X (it + 4) j = M 128 (3 * j + 2) ∧ (M 128 (3 * j) &&& ((alS (nI W) &&& (-2)) ^^^ (-1)) = 0 ∧ inB (M 128 (3 * j)) 0 255 = true ∧ inB (M 128 (3 * j + 1)) 0 63 = true ∧ inB (M 128 (3 * j + 2)) 0 999 = true)
def DV (X M : IM) (it W S : Nat) : Prop := X it 6 = nI S ∧ M 126 2 = nI S ∧ S ≤ 5 ∧ ∀ j, j < S → X (it + 5) j = M 129 (2 * j) ∧ X (it + 6) j = M 129 (2 * j + 1) ∧ (M 129 (2 * j) &&& (alS (nI W) ^^^ (-1)) = 0 ∧ inB (M 129 (2 * j)) 1 255 = true ∧ inB (M 129 (2 * j + 1)) 0 999 = true)
def DP (X M : IM) (it : Nat) : Prop := (X 1 5 = 0 ∧ X it 9 = 1 ∧ X it 10 = 1 ∧ M 126 3 = 0) ∨ (X 1 5 = 1 ∧ X it 9 = M 126 3 ∧ X it 10 = M 126 4 ∧ inB (M 126 3) 1 99 = true ∧ inB (M 126 4) 1 30 = true)
theorem DW.congr {X M X' M' : IM} {it W : Nat} (h : DW X M it W) (h1 : X' it 0 = X it 0) (h2 : M' 126 0 = M 126 0) (h3 : X' (it + 1) = X (it + 1)) (h4 : M' 127 = M 127) : DW X' M' it W := by
  unfold DW at *
  rw [h1, h2, h3, h4]
  exact h
theorem DT.congr {X M X' M' : IM} {it W T : Nat} (h : DT X M it W T) (h1 : X' it 2 = X it 2) (h2 : M' 126 1 = M 126 1) (h3 : X' (it + 2) = X (it + 2)) (h5 : X' (it + 3) = X (it + 3)) (h6 : X' (it + 4) = X (it + 4)) (h4 : M' 128 = M 128) : DT X' M' it W T := by
  unfold DT at *
  rw [h1, h2, h3, h4, h5, h6]
  exact h
theorem DV.congr {X M X' M' : IM} {it W S : Nat} (h : DV X M it W S) (h1 : X' it 6 = X it 6) (h2 : M' 126 2 = M 126 2) (h3 : X' (it + 5) = X (it + 5)) (h5 : X' (it + 6) = X (it + 6)) (h4 : M' 129 = M 129) : DV X' M' it W S := by
  unfold DV at *
  rw [h1, h2, h3, h4, h5]
  exact h
theorem DP.congr {X M X' M' : IM} {it : Nat} (h : DP X M it) (h1 : X' 1 5 = X 1 5) (h2 : X' it 9 = X it 9) (h3 : X' it 10 = X it 10) (h5 : M' 126 3 = M 126 3) (h4 : M' 126 4 = M 126 4) : DP X' M' it := by
  unfold DP at *
  rw [h1, h2, h3, h4, h5]
  exact h
theorem skX_24 {X : IM} : skX X 1 5 = X 1 5 := by unfold skX; rw [st_ne (by omega)]
theorem rfX_24 {X : IM} {k a : Int32} : rfX X k a 1 5 = X 1 5 := by unfold rfX; rw [st_ne (by omega), st_ne (by omega)]
theorem dgX_24 {X : IM} {t : Nat} : dgX X t 1 5 = X 1 5 := by unfold dgX; rw [st_ne (by omega), st_ne (by omega), st_ne (by omega)]
theorem tkF_24 {X : IM} {c : Int32} : (tkF X c).2 1 5 = X 1 5 := by
  unfold tkF
  split
  · dsimp only
    rw [skX_24, st_ne (by omega)]
  · dsimp only
    exact rfX_24
theorem rnF_24 {X : IM} {lo hi : Int32} : (rnF X lo hi).2 1 5 = X 1 5 := by
  unfold rnF
  split
  · dsimp only
    exact rfX_24
  · split
    · dsimp only
      exact rfX_24.trans dgX_24
    · split
      · dsimp only
        exact rfX_24.trans dgX_24
      · dsimp only
        exact skX_24.trans dgX_24
theorem wsF_24 {X : IM} {it : Nat} {lo : Int32} : (wsF X it lo).2 1 5 = X 1 5 := by
  unfold wsF
  split
  · exact rnF_24
  · split
    · exact rnF_24
    · dsimp only
      exact rfX_24.trans rnF_24
theorem zsv3_bad {n : Nat} {r : Int32 × IM} (h : ¬ r.2 120 23 = 0) : zsv3 n r 120 = r.2 120 := by
  unfold zsv3 zsv4
  rw [zwd_bad (by rw [st_row (by decide)]; exact h), st_row (by decide), st_row (by decide)]
theorem zsv2_bad {n : Nat} {q : Int32 × IM} (h : ¬ q.2 120 23 = 0) : zsv2 n q 120 = q.2 120 := by
  have h2 : ¬ (st q.2 129 (2 * n) q.1) 120 23 = 0 := by rw [st_row (by decide)]; exact h
  unfold zsv2
  rw [znm_bad h2]
  exact (zsv3_bad (r := (0, st q.2 129 (2 * n) q.1)) h2).trans (st_row (im := q.2) (k := 129) (j := 2 * n) (x := q.1) (a := 120) (by decide))
/-- a servant -/
theorem sv_sim {X M : IM} {it L p W T S : Nat} (hI : isC it) (h : PS X M L p) (hs : sk (M 121) L p = p) (hl : lxX X = 115) (hW : DW X M it W) (hT : DT X M it W T) (hS : DV X M it W S) (hP : DP X M it) :
    ((rsF X it).1 = true ∧ (∃ p', PS (rsF X it).2 (zsv M) L p') ∧ DW (rsF X it).2 (zsv M) it W ∧ DT (rsF X it).2 (zsv M) it W T ∧ DV (rsF X it).2 (zsv M) it W (S + 1) ∧ DP (rsF X it).2 (zsv M) it) ∨ ((rsF X it).1 = false ∧ FS (rsF X it).2 (zsv M)) := by
  obtain ⟨a1, a2, a3, a4⟩ := id hS
  have hi1 : it ≠ 2 := by rcases hI with rfl | rfl <;> decide
  have hi2 : it ≠ 1 := isC_ne2 hI
  have hi0 : 3 ≤ it := by rcases hI with rfl | rfl <;> decide
  unfold rsF zsv
  by_cases q : S = 5
  · right
    subst q
    rw [if_neg (by rw [a1]; decide), if_pos (by rw [a2]; rfl)]
    exact ⟨rfl, op_full h hs⟩
  · have hS5 : S < 5 := by omega
    have hne : ¬ M 126 2 = 5 := fun z => q ((nI_eq (b := 5) (by omega) (by omega)).mp (a2.symm.trans z))
    have hlt : X it 6 < 5 := by rw [a1]; exact (nI_ltI (b := 5) (by omega) (by omega)).mpr hS5
    rw [if_pos hlt, if_neg hne]
    obtain ⟨o1, p1, o2⟩ := op_sim h hs hl (by decide)
    rw [if_neg (by rw [o1]; decide), a2, a1, tn_nI (by omega)]
    have eA : alS (M 126 0) = alS ((tkF X 115).2 it 0) := by rw [tkF_row hi2, hW.1, hW.2.1]
    have eAW : alS (M 126 0) = alS (nI W) := by rw [hW.2.1]
    have sK : ∀ r, r ≠ 1 → (wsF (tkF X 115).2 it 1).2 r = X r := fun r hr => by rw [wsF_row hr, tkF_row hr]
    have sK4 : (wsF (tkF X 115).2 it 1).2 1 5 = X 1 5 := by rw [wsF_24, tkF_24]
    have sN : ∀ r, r ≠ 120 → (zwy (zop M false) (alS (M 126 0)) 1).2 r = M r := fun r hr => by rw [zwy_row hr, zop_row hr]
    have sim := ws_sim (it := it) (lo := 1) o2 eA
    generalize wsF (tkF X 115).2 it 1 = K at *
    generalize zwy (zop M false) (alS (M 126 0)) 1 = qq at *
    rcases sim with ⟨s1, ⟨p2, s2⟩, s3, s4, s5, -⟩ | ⟨s1, s2⟩
    · rw [if_neg (by rw [s1]; decide)]
      unfold rsI zsv2
      rw [s3]
      have t1 : PS (st K.2 (it + 5) S qq.1) (st qq.2 129 (2 * S) qq.1) L p2 := s2.congr (st_row (by omega)) (st_row (by decide)) (st_ne (by omega)) (st_ne (by omega)) (st_ne (by omega)) (st_row (by decide))
      have sK' : ∀ r, r ≠ 1 → (rnF (st K.2 (it + 5) S qq.1) 0 999).2 r = (st K.2 (it + 5) S qq.1) r := fun r hr => rnF_row hr
      have sK4' : (rnF (st K.2 (it + 5) S qq.1) 0 999).2 1 5 = X 1 5 := by rw [rnF_24, st_row (by omega), sK4]
      have sN' : ∀ r, r ≠ 120 → (znm (st qq.2 129 (2 * S) qq.1) 0 999).2 r = (st qq.2 129 (2 * S) qq.1) r := fun r hr => znm_row hr
      rw [tn_nI (by omega)]
      have sim := rn_sim (lo := 0) (hi := 999) t1
      generalize rnF (st K.2 (it + 5) S qq.1) 0 999 = Q at *
      generalize znm (st qq.2 129 (2 * S) qq.1) 0 999 = rr at *
      rcases sim with ⟨u1, ⟨p3, u2⟩, u3, -, u5⟩ | ⟨u1, u2⟩
      · rw [if_neg (by rw [u1]; decide), u3]
        unfold zsv3
        have v1 : PS (st (st Q.2 (it + 6) S rr.1) it 6 (nI S + 1)) (st rr.2 129 (2 * S + 1) rr.1) L p3 := u2.congr (by rw [st_row (by omega), st_row (by omega)]) (st_row (by decide)) (by rw [st_ne (by omega), st_ne (by omega)]) (by rw [st_ne (by omega), st_ne (by omega)]) (by rw [st_ne (by omega), st_ne (by omega)]) (st_row (by decide))
        have xr : ∀ r, r ≠ 1 → (tkF (st (st Q.2 (it + 6) S rr.1) it 6 (nI S + 1)) 59).2 r = st (st Q.2 (it + 6) S rr.1) it 6 (nI S + 1) r := fun r hr => tkF_row hr
        have x4 : (tkF (st (st Q.2 (it + 6) S rr.1) it 6 (nI S + 1)) 59).2 1 5 = X 1 5 := by rw [tkF_24, st_row (by omega), st_row (by omega), sK4']
        have mr : ∀ r, r ≠ 120 → zwd (st rr.2 129 (2 * S + 1) rr.1) 59 r = st rr.2 129 (2 * S + 1) rr.1 r := fun r hr => zwd_row hr
        have sim := tk_sim (c := 59) v1 (by decide)
        generalize tkF (st (st Q.2 (it + 6) S rr.1) it 6 (nI S + 1)) 59 = Z at *
        generalize zwd (st rr.2 129 (2 * S + 1) rr.1) 59 = N at *
        unfold zsv4
        have m126 : N 126 = M 126 := by rw [mr _ (by decide), st_row (by decide), sN' _ (by decide), st_row (by decide), sN _ (by decide)]
        have hx5 : ∀ j, Z.2 (it + 5) j = if j = S then qq.1 else X (it + 5) j := fun j => by
          rw [xr _ (by omega), st_row (by omega), st_row (by omega), sK' _ (by omega), st_at1, sK _ (by omega)]
        have hx6 : ∀ j, Z.2 (it + 6) j = if j = S then rr.1 else X (it + 6) j := fun j => by
          rw [xr _ (by omega), st_row (by omega), st_at1, sK' _ (by omega), st_row (by omega), sK _ (by omega)]
        have hm : ∀ i, N 129 i = if i = 2 * S + 1 then rr.1 else if i = 2 * S then qq.1 else M 129 i := fun i => by
          rw [mr _ (by decide), st_at1, sN' _ (by decide), st_at1, sN _ (by decide)]
        rcases sim with ⟨w1, ⟨p4, w2⟩, -⟩ | ⟨w1, w2⟩
        · left
          refine ⟨w1, ⟨p4, w2.congr rfl (st_row (by decide)) rfl rfl rfl (st_row (by decide))⟩, ?_, ?_, ?_, ?_⟩
          · refine hW.congr ?_ ?_ ?_ ?_
            · rw [xr _ hi2, st_ne (by omega), st_row (by omega), sK' _ hi2, st_row (by omega), sK _ hi2]
            · rw [st_ne (by omega), m126]
            · rw [xr _ (by omega), st_row (by omega), st_row (by omega), sK' _ (by omega), st_row (by omega), sK _ (by omega)]
            · rw [st_row (by decide), mr _ (by decide), st_row (by decide), sN' _ (by decide), st_row (by decide), sN _ (by decide)]
          · refine hT.congr ?_ ?_ ?_ ?_ ?_ ?_
            · rw [xr _ hi2, st_ne (by omega), st_row (by omega), sK' _ hi2, st_row (by omega), sK _ hi2]
            · rw [st_ne (by omega), m126]
            · rw [xr _ (by omega), st_row (by omega), st_row (by omega), sK' _ (by omega), st_row (by omega), sK _ (by omega)]
            · rw [xr _ (by omega), st_row (by omega), st_row (by omega), sK' _ (by omega), st_row (by omega), sK _ (by omega)]
            · rw [xr _ (by omega), st_row (by omega), st_row (by omega), sK' _ (by omega), st_row (by omega), sK _ (by omega)]
            · rw [st_row (by decide), mr _ (by decide), st_row (by decide), sN' _ (by decide), st_row (by decide), sN _ (by decide)]
          · refine ⟨?_, ?_, by omega, ?_⟩
            · rw [xr _ hi2, st_same]
              exact nI_1 S
            · rw [st_same, m126, a2]
              exact nI_1 S
            · intro j hj
              rw [st_row (k := 126) (by decide), hx5, hx6, hm, hm]
              by_cases e : j = S
              · subst e
                rw [if_pos rfl, if_pos rfl, if_neg (by omega), if_pos rfl, if_pos rfl]
                exact ⟨rfl, rfl, by rw [← eAW]; exact s4, s5, u5⟩
              · rw [if_neg e, if_neg e, if_neg (by omega), if_neg (by omega), if_neg (by omega), if_neg (by omega)]
                exact a4 j (by omega)
          · refine hP.congr x4 ?_ ?_ ?_ ?_
            · rw [xr _ hi2, st_ne (by omega), st_row (by omega), sK' _ hi2, st_row (by omega), sK _ hi2]
            · rw [xr _ hi2, st_ne (by omega), st_row (by omega), sK' _ hi2, st_row (by omega), sK _ hi2]
            · rw [st_ne (by omega), m126]
            · rw [st_ne (by omega), m126]
        · right
          exact ⟨w1, w2.congr rfl rfl (st_row (by decide))⟩
      · right
        rw [if_pos u1]
        exact ⟨rfl, u2.congr rfl rfl (zsv3_bad u2.1)⟩
    · right
      rw [if_pos s1]
      exact ⟨rfl, s2.congr rfl rfl (zsv2_bad s2.1)⟩
