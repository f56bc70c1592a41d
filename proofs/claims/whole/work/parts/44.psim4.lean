theorem zpy3_bad {r : Int32 × IM} (h : ¬ r.2 120 23 = 0) : zpy3 r 120 = r.2 120 := by
  unfold zpy3
  rw [zwd_bad (by rw [st_row (by decide)]; exact h), st_row (by decide)]
theorem zpy2_bad {q : Int32 × IM} (h : ¬ q.2 120 23 = 0) : zpy2 q 120 = q.2 120 := by
  have h2 : ¬ (st q.2 126 3 q.1) 120 23 = 0 := by rw [st_row (by decide)]; exact h
  unfold zpy2
  rw [znm_bad h2]
  exact (zpy3_bad (r := (0, st q.2 126 3 q.1)) h2).trans (st_row (im := q.2) (k := 126) (j := 3) (x := q.1) (a := 120) (by decide))
theorem in_pos {x c : Int32} (h : inB x 1 c = true) : ¬ x ≤ 0 := by
  have h1 := (inB_iff.mp h).1
  intro h2
  have a1 : (1 : Int32).toInt ≤ x.toInt := Int32.le_iff_toInt_le.mp h1
  have a2 : x.toInt ≤ (0 : Int32).toInt := Int32.le_iff_toInt_le.mp h2
  rw [show (1 : Int32).toInt = 1 from rfl] at a1
  rw [show (0 : Int32).toInt = 0 from rfl] at a2
  omega
/-- the pay -/
theorem py_sim {X M : IM} {it L p W T S : Nat} (hI : isC it) (h : PS X M L p) (hs : sk (M 121) L p = p) (hl : lxX X = 112) (hW : DW X M it W) (hT : DT X M it W T) (hS : DV X M it W S) (hP : DP X M it) :
    ((ryF X it).1 = true ∧ (∃ p', PS (ryF X it).2 (zpy M) L p') ∧ DW (ryF X it).2 (zpy M) it W ∧ DT (ryF X it).2 (zpy M) it W T ∧ DV (ryF X it).2 (zpy M) it W S ∧ DP (ryF X it).2 (zpy M) it) ∨ ((ryF X it).1 = false ∧ FS (ryF X it).2 (zpy M)) := by
  have hi2 : it ≠ 1 := isC_ne2 hI
  have hi0 : 3 ≤ it := by rcases hI with rfl | rfl <;> decide
  unfold ryF zpy
  rcases hP with ⟨b1, b2, b3, b4⟩ | ⟨b1, b2, b3, b4, b5⟩
  · have hn0 : M 126 3 ≤ 0 := by rw [b4]; decide
    rw [if_pos b1, if_pos hn0]
    have h' : PS (st X 1 5 1) M L p := h.congr (st_row (by decide)) rfl (st_ne (by omega)) (st_ne (by omega)) (st_ne (by omega)) rfl
    have hl' : lxX (st X 1 5 1) = 112 := by
      rw [← hl]
      unfold lxX
      rw [st_ne (by omega), st_ne (by omega), st_row (by decide)]
    obtain ⟨o1, p1, o2⟩ := op_sim h' hs hl' (by decide)
    rw [if_neg (by rw [o1]; decide)]
    unfold ryH
    have sK : ∀ r, r ≠ 1 → (rnF (tkF (st X 1 5 1) 112).2 1 99).2 r = X r := fun r hr => by rw [rnF_row hr, tkF_row hr, st_row hr]
    have sK4 : (rnF (tkF (st X 1 5 1) 112).2 1 99).2 1 5 = 1 := by rw [rnF_24, tkF_24, st_same]
    have sN : ∀ r, r ≠ 120 → (znm (zop M false) 1 99).2 r = M r := fun r hr => by rw [znm_row hr, zop_row hr]
    have sim := rn_sim (lo := 1) (hi := 99) o2
    generalize rnF (tkF (st X 1 5 1) 112).2 1 99 = K at *
    generalize znm (zop M false) 1 99 = qq at *
    rcases sim with ⟨s1, ⟨p2, s2⟩, s3, -, s5⟩ | ⟨s1, s2⟩
    · rw [if_neg (by rw [s1]; decide), s3]
      unfold ryI zpy2
      have t1 : PS (st K.2 it 9 qq.1) (st qq.2 126 3 qq.1) L p2 := s2.congr (st_row (by omega)) (st_row (by decide)) (st_ne (by omega)) (st_ne (by omega)) (st_ne (by omega)) (st_row (by decide))
      have sK' : ∀ r, r ≠ 1 → (rnF (st K.2 it 9 qq.1) 1 30).2 r = (st K.2 it 9 qq.1) r := fun r hr => rnF_row hr
      have sK4' : (rnF (st K.2 it 9 qq.1) 1 30).2 1 5 = 1 := by rw [rnF_24, st_row (by omega), sK4]
      have sN' : ∀ r, r ≠ 120 → (znm (st qq.2 126 3 qq.1) 1 30).2 r = (st qq.2 126 3 qq.1) r := fun r hr => znm_row hr
      have sim := rn_sim (lo := 1) (hi := 30) t1
      generalize rnF (st K.2 it 9 qq.1) 1 30 = Q at *
      generalize znm (st qq.2 126 3 qq.1) 1 30 = rr at *
      rcases sim with ⟨u1, ⟨p3, u2⟩, u3, -, u5⟩ | ⟨u1, u2⟩
      · rw [if_neg (by rw [u1]; decide), u3]
        unfold zpy3
        have v1 : PS (st Q.2 it 10 rr.1) (st rr.2 126 4 rr.1) L p3 := u2.congr (st_row (by omega)) (st_row (by decide)) (st_ne (by omega)) (st_ne (by omega)) (st_ne (by omega)) (st_row (by decide))
        have xr : ∀ r, r ≠ 1 → (tkF (st Q.2 it 10 rr.1) 59).2 r = st Q.2 it 10 rr.1 r := fun r hr => tkF_row hr
        have x4 : (tkF (st Q.2 it 10 rr.1) 59).2 1 5 = 1 := by rw [tkF_24, st_row (by omega), sK4']
        have mr : ∀ r, r ≠ 120 → zwd (st rr.2 126 4 rr.1) 59 r = st rr.2 126 4 rr.1 r := fun r hr => zwd_row hr
        have sim := tk_sim (c := 59) v1 (by decide)
        generalize tkF (st Q.2 it 10 rr.1) 59 = Z at *
        generalize zwd (st rr.2 126 4 rr.1) 59 = N at *
        have m0 : ∀ r, r ≠ 120 → r ≠ 126 → N r = M r := fun r h1 h2 => by rw [mr _ h1, st_row h2, sN' _ h1, st_row h2, sN _ h1]
        have n0 : ∀ r, r ≠ 1 → r ≠ it → Z.2 r = X r := fun r h1 h2 => by rw [xr _ h1, st_row h2, sK' _ h1, st_row h2, sK _ h1]
        have n1 : ∀ j, Z.2 it j = if j = 10 then rr.1 else if j = 9 then qq.1 else X it j := fun j => by rw [xr _ hi2, st_at1, sK' _ hi2, st_at1, sK _ hi2]
        have m1 : ∀ j, N 126 j = if j = 4 then rr.1 else if j = 3 then qq.1 else M 126 j := fun j => by rw [mr _ (by decide), st_at1, sN' _ (by decide), st_at1, sN _ (by decide)]
        rcases sim with ⟨w1, ⟨p4, w2⟩, -⟩ | ⟨w1, w2⟩
        · left
          refine ⟨w1, ⟨p4, w2⟩, ?_, ?_, ?_, ?_⟩
          · exact hW.congr (n1 0) (m1 0) (n0 _ (by omega) (by omega)) (m0 _ (by decide) (by decide))
          · exact hT.congr (n1 2) (m1 1) (n0 _ (by omega) (by omega)) (n0 _ (by omega) (by omega)) (n0 _ (by omega) (by omega)) (m0 _ (by decide) (by decide))
          · exact hS.congr (n1 6) (m1 2) (n0 _ (by omega) (by omega)) (n0 _ (by omega) (by omega)) (m0 _ (by decide) (by decide))
          · right
            rw [x4, n1, n1, m1, m1]
            exact ⟨rfl, rfl, rfl, s5, u5⟩
        · right
          exact ⟨w1, w2⟩
      · right
        rw [if_pos u1]
        exact ⟨rfl, u2.congr rfl rfl (zpy3_bad u2.1)⟩
    · right
      rw [if_pos s1]
      exact ⟨rfl, s2.congr rfl rfl (zpy2_bad s2.1)⟩
  · right
    have hn : ¬ X 1 5 = 0 := by rw [b1]; decide
    rw [if_neg hn, if_neg (in_pos b4)]
    exact ⟨rfl, op_full h hs⟩
/-- what the ways leave as it was -/
def FW (X X' M M' : IM) (it : Nat) : Prop := (∀ j, j ≠ 0 → X' it j = X it j) ∧ X' 1 5 = X 1 5 ∧ (∀ j, j ≠ 0 → M' 126 j = M 126 j) ∧ M' 121 = M 121
theorem FW.trans {X X' X2 M M' M2 : IM} {it : Nat} (h : FW X X' M M' it) (h' : FW X' X2 M' M2 it) : FW X X2 M M2 it :=
  ⟨fun j hj => (h'.1 j hj).trans (h.1 j hj), h'.2.1.trans h.2.1, fun j hj => (h'.2.2.1 j hj).trans (h.2.2.1 j hj), h'.2.2.2.trans h.2.2.2⟩
theorem zsk_fix {X M : IM} {L p : Nat} (h : PS X M L p) (hs : sk (M 121) L p = p) : zsk M = M := by
  obtain ⟨g, e⟩ := h.skz
  rw [e, hs, ← h.2.2.2.2.1, st_same2 rfl]
theorem look_fix {X M : IM} {L p : Nat} (h : PS X M L p) (hs : sk (M 121) L p = p) : lxX X = zlk M := by rw [h.look, zsk_fix h hs]
theorem nofail {X M : IM} {L p : Nat} {k : Int32} (h : PS X M L p) (hs : sk (M 121) L p = p) (hk : ¬ k = 0) : FS (rfX X k (X 1 3)) (zfl M k) := rf_FS hk h.2.2.2.2.2.2.2.1 (by rw [h.2.2.2.2.2.2.1, hs, h.2.2.2.2.1])
/-- a way behind a letter that both saw -/
theorem w1_sim {X M : IM} {it L p W : Nat} (hI : isC it) (h : PS X M L p) (hW : DW X M it W) (hW8 : W < 8) :
    ((rwF X it).1 = true ∧ (∃ p', PS (rwF X it).2 (zww2 W (znm M 1 999)) L p') ∧ DW (rwF X it).2 (zww2 W (znm M 1 999)) it (W + 1) ∧ FW X (rwF X it).2 M (zww2 W (znm M 1 999)) it) ∨ ((rwF X it).1 = false ∧ FS (rwF X it).2 (zww2 W (znm M 1 999))) := by
  obtain ⟨a1, a2, a3, a4⟩ := id hW
  have hi2 : it ≠ 1 := isC_ne2 hI
  have hi0 : 3 ≤ it := by rcases hI with rfl | rfl <;> decide
  have hlt : X it 0 < 8 := by rw [a1]; exact (nI_ltI (b := 8) (by omega) (by omega)).mpr hW8
  unfold rwF
  rw [if_pos hlt, a1, tn_nI (by omega)]
  have sK : ∀ r, r ≠ 1 → (rnF X 1 999).2 r = X r := fun r hr => rnF_row hr
  have sK4 : (rnF X 1 999).2 1 5 = X 1 5 := rnF_24
  have sN : ∀ r, r ≠ 120 → (znm M 1 999).2 r = M r := fun r hr => znm_row hr
  have sim := rn_sim (lo := 1) (hi := 999) h
  generalize rnF X 1 999 = K at *
  generalize znm M 1 999 = qq at *
  unfold zww2
  rcases sim with ⟨s1, ⟨p2, s2⟩, s3, -, s5⟩ | ⟨s1, s2⟩
  · left
    rw [if_neg (by rw [s1]; decide), s3]
    dsimp only
    refine ⟨rfl, ⟨p2, s2.congr ?_ ?_ ?_ ?_ ?_ ?_⟩, ⟨?_, ?_, by omega, ?_⟩, ?_, ?_, ?_, ?_⟩
    · rw [st_row (by omega), st_row (by omega)]
    · rw [st_row (by omega), st_row (by omega)]
    · rw [st_row (by omega), st_row (by omega)]
    · rw [st_row (by omega), st_row (by omega)]
    · rw [st_row (by omega), st_row (by omega)]
    · rw [st_row (by omega), st_row (by omega)]
    · rw [st_same]
      exact nI_1 W
    · rw [st_same, sN _ (by decide), a2]
      exact nI_1 W
    · intro j hj
      rw [st_row (k := it) (by omega), st_row (k := 126) (by omega), st_at1, st_at1, sK _ (by omega), sN _ (by decide)]
      by_cases e : j = W
      · rw [if_pos e, if_pos e]
        exact ⟨rfl, s5⟩
      · rw [if_neg e, if_neg e]
        exact a4 j (by omega)
    · intro j hj
      rw [st_ne (by omega), st_row (by omega), sK _ hi2]
    · rw [st_row (by omega), st_row (by omega), sK4]
    · intro j hj
      rw [st_ne (by omega), st_row (by omega), sN _ (by decide)]
    · rw [st_row (by omega), st_row (by omega), sN _ (by decide)]
  · right
    rw [if_pos s1]
    exact ⟨rfl, s2.congr rfl rfl (by rw [st_row (by omega), st_row (by omega)])⟩
theorem FW.op {X M : IM} {it : Nat} {c : Int32} (hI : isC it) : FW X (tkF X c).2 M (zop M false) it :=
  ⟨fun j _ => by rw [tkF_row (isC_ne2 hI)], tkF_24, fun j _ => by rw [zop_row (by decide)], zop_row (by decide)⟩
theorem FW.skz {X M : IM} {it : Nat} : FW X X M (zsk M) it := ⟨fun _ _ => rfl, rfl, fun j _ => by rw [zsk_row (by decide)], zsk_row (by decide)⟩
theorem FW.end {X M : IM} {it : Nat} {c : Int32} (hI : isC it) : FW X (tkF X c).2 M (zwd M c) it :=
  ⟨fun j _ => by rw [tkF_row (isC_ne2 hI)], tkF_24, fun j _ => by rw [zwd_row (by decide)], zwd_row (by decide)⟩
theorem DW.op {X M : IM} {it W : Nat} {c : Int32} (hI : isC it) (h : DW X M it W) : DW (tkF X c).2 (zop M false) it W :=
  h.congr (by rw [tkF_row (isC_ne2 hI)]) (by rw [zop_row (by decide)]) (tkF_row (by rcases hI with rfl | rfl <;> decide)) (zop_row (by decide))
theorem DW.skz {X M : IM} {it W : Nat} (h : DW X M it W) : DW X (zsk M) it W := h.congr rfl (by rw [zsk_row (by decide)]) rfl (zsk_row (by decide))
theorem DW.end {X M : IM} {it W : Nat} {c : Int32} (hI : isC it) (h : DW X M it W) : DW (tkF X c).2 (zwd M c) it W :=
  h.congr (by rw [tkF_row (isC_ne2 hI)]) (by rw [zwd_row (by decide)]) (tkF_row (by rcases hI with rfl | rfl <;> decide)) (zwd_row (by decide))
/-- the outcome of the ways -/
def WO (X M : IM) (it L : Nat) (r : Bool × IM) (M' : IM) : Prop := (r.1 = true ∧ (∃ p', PS r.2 M' L p') ∧ (∃ W, 2 ≤ W ∧ DW r.2 M' it W) ∧ FW X r.2 M M' it) ∨ (r.1 = false ∧ FS r.2 M')
theorem WO.trans {X M X' M' M2 : IM} {it L : Nat} {r : Bool × IM} (h : FW X X' M M' it) (h2 : WO X' M' it L r M2) : WO X M it L r M2 := by
  rcases h2 with ⟨a, b, c, d⟩ | h2
  · exact Or.inl ⟨a, b, c, h.trans d⟩
  · exact Or.inr h2
theorem wend {X M : IM} {it L p W : Nat} (hI : isC it) (h : PS X M L p) (hW : DW X M it W) (h2 : 2 ≤ W) : WO X M it L (tkF X 59) (zwd M 59) := by
  rcases tk_sim (c := 59) h (by decide) with ⟨r1, r2, -⟩ | ⟨r1, r2⟩
  · exact Or.inl ⟨r1, r2, ⟨W, h2, hW.end hI⟩, FW.end hI⟩
  · exact Or.inr ⟨r1, r2⟩
theorem zbad_end {M : IM} {n : Nat} (h : ¬ M 120 23 = 0) : zwd (zwv n (zsk M)) 59 = M := by
  rw [zsk_bad h, zwv_st (fun z => h z.1), zwd_bad h]
theorem wm_sim {it L : Nat} (hI : isC it) : ∀ n X M p W, W + n = 8 → 2 ≤ W → PS X M L p → sk (M 121) L p = p → DW X M it W → WO X M it L (wmF it n X) (zwd (zwv (n + 2) M) 59) := by
  intro n
  induction n with
  | zero =>
    intro X M p W hn h2 h hs hW
    have hlk := look_fix h hs
    have hw0 : M 120 23 = 0 := h.2.2.2.2.2.2.2.1
    by_cases q : lxX X = 44
    · right
      have e : zww M = zfl M 1 := zww_f (fun z => z.2 (by have e8 : W = 8 := (by omega); rw [hW.2.1, e8]; rfl))
      rw [zwv_go hw0 (Or.inl (by rw [← hlk]; exact q)), e, zbad_end (zfl_23 (by decide))]
      show (tkF X 59).1 = false ∧ FS (tkF X 59).2 _
      rw [tkF, if_neg (by rw [q]; decide)]
      exact ⟨rfl, nofail h hs (by decide)⟩
    · rw [zwv_st (fun z => z.2.elim (fun y => q (by rw [hlk]; exact y)) (fun y => by have := (nI_eq (b := 1) (by omega) (by omega)).mp (hW.2.1.symm.trans y); omega))]
      exact wend hI h hW h2
  | succ n ih =>
    intro X M p W hn h2 h hs hW
    have hlk := look_fix h hs
    have hw0 : M 120 23 = 0 := h.2.2.2.2.2.2.2.1
    by_cases q : lxX X = 44
    · obtain ⟨o1, p1, o2⟩ := op_sim h hs q (by decide)
      have hne : ¬ M 126 0 = 8 := fun z => by have := (nI_eq (b := 8) (by omega) (by omega)).mp (hW.2.1.symm.trans z); omega
      have e : zww M = zww2 W (znm (zop M false) 1 999) := by
        rw [zww, if_pos ⟨by rw [← hlk]; exact q, hne⟩, hW.2.1, tn_nI (by omega)]
        rfl
      rw [zwv_go hw0 (Or.inl (by rw [← hlk]; exact q)), e, wmF, if_pos q, if_neg (by rw [o1]; decide)]
      have hfw : FW X (tkF X 44).2 M (zop M false) it := FW.op hI
      rcases w1_sim hI o2 (hW.op hI) (by omega) with ⟨r1, ⟨p2, r2⟩, r3, r4⟩ | ⟨r1, r2⟩
      · rw [if_neg (by rw [r1]; decide)]
        exact WO.trans ((hfw.trans r4).trans FW.skz) (ih _ _ _ (W + 1) (by omega) (by omega) r2.skz.1 (by rw [zsk_row (by decide), sk_sk]) r3.skz)
      · right
        rw [if_pos r1, zbad_end r2.1]
        exact ⟨rfl, r2⟩
    · rw [zwv_st (fun z => z.2.elim (fun y => q (by rw [hlk]; exact y)) (fun y => by have := (nI_eq (b := 1) (by omega) (by omega)).mp (hW.2.1.symm.trans y); omega)), wmF, if_neg q]
      exact wend hI h hW h2
theorem st_id {im : IM} {k j : Nat} {x y : Int32} (h : x = y) : st im k j x = st im k j y := by rw [h]
/-- the ways -/
theorem wa_sim {X M : IM} {it L p : Nat} (hI : isC it) (h : PS X M L p) (hs : sk (M 121) L p = p) (hl : lxX X = 119) (hW : DW X M it 0) : WO X M it L (waF X it) (zws M) := by
  obtain ⟨o1, p1, o2⟩ := op_sim h hs hl (by decide)
  have hfw : FW X (tkF X 119).2 M (zop M false) it := FW.op hI
  rw [zws, if_pos (by rw [hW.2.1]; decide), waF, if_neg (by rw [o1]; decide)]
  have e1 : ∀ q : Int32 × IM, q.2 126 0 = nI 0 → zws2 q = zwd (zwv 9 (zsk (zww2 0 q))) 59 := by
    intro q hq
    unfold zws2 zww2
    rw [hq]
    rfl
  rw [e1 _ (by rw [znm_row (by decide), zop_row (by decide)]; exact hW.2.1)]
  rcases w1_sim hI o2 (hW.op hI) (by omega) with ⟨r1, ⟨p2, r2⟩, r3, r4⟩ | ⟨r1, r2⟩
  · rw [if_neg (by rw [r1]; decide)]
    refine WO.trans ((hfw.trans r4).trans FW.skz) ?_
    have h' := r2.skz.1
    have hs' : sk (zsk (zww2 0 (znm (zop M false) 1 999)) 121) L (sk (zww2 0 (znm (zop M false) 1 999) 121) L p2) = sk (zww2 0 (znm (zop M false) 1 999) 121) L p2 := by rw [zsk_row (by decide), sk_sk]
    have hW' := r3.skz
    generalize zsk (zww2 0 (znm (zop M false) 1 999)) = N at *
    generalize sk (zww2 0 (znm (zop M false) 1 999) 121) L p2 = p3 at *
    generalize (rwF (tkF X 119).2 it).2 = Y at *
    have hlk := look_fix h' hs'
    have hw0 : N 120 23 = 0 := h'.2.2.2.2.2.2.2.1
    rw [zwv_go hw0 (Or.inr hW'.2.1)]
    unfold waI
    by_cases q : lxX Y = 44
    · obtain ⟨o1, p1, o2⟩ := op_sim h' hs' q (by decide)
      have hne : ¬ N 126 0 = 8 := by rw [hW'.2.1]; decide
      have e : zww N = zww2 1 (znm (zop N false) 1 999) := by
        rw [zww, if_pos ⟨by rw [← hlk]; exact q, hne⟩, hW'.2.1, tn_nI (by omega)]
        rfl
      rw [e, if_neg (by rw [o1]; decide)]
      have hfw : FW Y (tkF Y 44).2 N (zop N false) it := FW.op hI
      rcases w1_sim hI o2 (hW'.op hI) (by omega) with ⟨r1, ⟨p2, r2⟩, r3, r4⟩ | ⟨r1, r2⟩
      · rw [if_neg (by rw [r1]; decide)]
        exact WO.trans ((hfw.trans r4).trans FW.skz) (wm_sim hI 6 _ _ _ 2 (by omega) (by omega) r2.skz.1 (by rw [zsk_row (by decide), sk_sk]) r3.skz)
      · right
        rw [if_pos r1, zbad_end r2.1]
        exact ⟨rfl, r2⟩
    · right
      rw [zww_f (fun z => q (by rw [hlk]; exact z.1)), zbad_end (zfl_23 (by decide)), tkF, if_neg q]
      exact ⟨rfl, nofail h' hs' (by decide)⟩
  · right
    rw [if_pos r1, zbad_end r2.1]
    exact ⟨rfl, r2⟩
