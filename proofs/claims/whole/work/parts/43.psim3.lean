theorem inB_iff {x a c : Int32} : inB x a c = true ↔ a ≤ x ∧ x ≤ c := by
  unfold inB
  rw [Bool.and_eq_true, Bool.not_eq_true', Bool.not_eq_true', decide_eq_false_iff_not, decide_eq_false_iff_not, Int32.not_lt, Int32.not_lt]
theorem nI_of_in {x c : Int32} {n : Nat} (h : inB x 0 c = true) (hc : c = nI n) (hn : n < 2147483648) : ∃ k, k ≤ n ∧ x = nI k := by
  obtain ⟨h1, h2⟩ := inB_iff.mp h
  refine ⟨x.toInt.toNat, ?_, ?_⟩
  · have h1' : (0 : Int32).toInt ≤ x.toInt := Int32.le_iff_toInt_le.mp h1
    have h2' : x.toInt ≤ c.toInt := Int32.le_iff_toInt_le.mp h2
    rw [hc, nI_toInt hn] at h2'
    rw [show (0 : Int32).toInt = 0 from rfl] at h1'
    omega
  · have h1' : (0 : Int32).toInt ≤ x.toInt := Int32.le_iff_toInt_le.mp h1
    have h2' : x.toInt ≤ c.toInt := Int32.le_iff_toInt_le.mp h2
    rw [hc, nI_toInt hn] at h2'
    rw [show (0 : Int32).toInt = 0 from rfl] at h1'
    apply Int32.toInt_inj.mp
    rw [nI_toInt (by omega)]
    omega
theorem bits_test : ∀ n : Fin 256, ∀ W : Fin 9, decide (nI n.1 &&& ((alS (nI W.1) &&& (-2)) ^^^ (-1)) = 0) = (decide (nI n.1 &&& (alS (nI W.1) ^^^ (-1)) = 0) && !(hasB (nI n.1) 0)) := by decide +kernel
theorem bits_t {v : Int32} {W : Nat} (hv : inB v 0 255 = true) (hW : W ≤ 8) : (v &&& ((alS (nI W) &&& (-2)) ^^^ (-1)) = 0) ↔ (v &&& (alS (nI W) ^^^ (-1)) = 0 ∧ hasB v 0 = false) := by
  obtain ⟨n, hn, rfl⟩ := nI_of_in hv (cI 255) (by decide)
  have h := bits_test ⟨n, by omega⟩ ⟨W, by omega⟩
  dsimp only at h
  constructor
  · intro q
    rw [decide_eq_true q] at h
    have h := h.symm
    rw [Bool.and_eq_true, Bool.not_eq_true', decide_eq_true_iff] at h
    exact h
  · intro q
    rw [decide_eq_true q.1, q.2] at h
    exact decide_eq_true_iff.mp h
theorem wt_sim {X M : IM} {it L p W : Nat} {a : Int32} (h : PS X M L p) (hW : X it 0 = nI W) (hW8 : W ≤ 8) (ha : a = alS (nI W) &&& (-2)) :
    ((wsF X it 0).1 = true ∧ hasB ((wsF X it 0).2 1 6) 0 = false ∧ (∃ p', PS (wsF X it 0).2 (zwy M a 0).2 L p') ∧ (wsF X it 0).2 1 6 = (zwy M a 0).1 ∧ (zwy M a 0).1 &&& (a ^^^ (-1)) = 0 ∧ inB (zwy M a 0).1 0 255 = true)
    ∨ ((wsF X it 0).1 = true ∧ hasB ((wsF X it 0).2 1 6) 0 = true ∧ FS (rfX (wsF X it 0).2 2 ((wsF X it 0).2 1 7)) (zwy M a 0).2) ∨ ((wsF X it 0).1 = false ∧ FS (wsF X it 0).2 (zwy M a 0).2) := by
  obtain ⟨hJ, -⟩ := h.skz
  have e0 : zsk (zsk M) = zsk M := by
    obtain ⟨hJ2, e2⟩ := hJ.skz
    obtain ⟨-, e⟩ := h.skz
    rw [e2, zsk_row (by decide), sk_sk, e, st_st]
  have e1 : znm (zsk M) 0 255 = znm M 0 255 := by rw [znm, e0, znm]
  rw [zwy, e1]
  rcases rn_sim (lo := 0) (hi := 255) h with ⟨r1, ⟨p', hp'⟩, r3, r4, r5⟩ | ⟨r1, r2⟩
  · have h0 : (znm M 0 255).2 120 23 = 0 := hp'.2.2.2.2.2.2.2.1
    have hb := bits_t r5 hW8
    rw [← ha] at hb
    by_cases q1 : (znm M 0 255).1 &&& (alS (nI W) ^^^ (-1)) = 0
    · have ew : wsF X it 0 = (true, (rnF X 0 255).2) := by
        unfold wsF
        rw [if_neg (by rw [r1]; decide), r3, hW, decide_eq_true q1, if_pos rfl]
      rw [ew]
      dsimp only
      rw [r3]
      cases q2 : hasB (znm M 0 255).1 0 with
      | false =>
        left
        have q := hb.mpr ⟨q1, q2⟩
        rw [zwq, if_neg (fun z => z.2 q)]
        exact ⟨rfl, rfl, ⟨p', hp'⟩, rfl, q, r5⟩
      | true =>
        right
        left
        have q : ¬ (znm M 0 255).1 &&& (a ^^^ (-1)) = 0 := fun z => by
          have := (hb.mp z).2
          rw [q2] at this
          cases this
        rw [zwq, if_pos ⟨h0, q⟩]
        refine ⟨rfl, rfl, ?_⟩
        refine rf_FS (by decide) (by rw [st_ne (by omega)]; exact h0) ?_
        rw [st_same]
        exact r4
    · right
      right
      have q : ¬ (znm M 0 255).1 &&& (a ^^^ (-1)) = 0 := fun z => q1 (hb.mp z).1
      unfold wsF
      rw [if_neg (by rw [r1]; decide), r3, hW, decide_eq_false q1, if_neg (by decide), zwq, if_pos ⟨h0, q⟩]
      refine ⟨rfl, ?_⟩
      refine rf_FS (by decide) (by rw [st_ne (by omega)]; exact h0) ?_
      rw [st_same]
      exact r4
  · right
    right
    unfold wsF
    rw [if_pos r1]
    refine ⟨rfl, ?_⟩
    rw [zwq_bad r2.1]
    exact r2
theorem zts4_bad {n : Nat} {r : Int32 × IM} (h : ¬ r.2 120 23 = 0) : zts4 n r 120 = r.2 120 := by
  unfold zts4 zts5
  rw [zwd_bad (by rw [st_row (by decide)]; exact h), st_row (by decide), st_row (by decide)]
theorem zts3_bad {n : Nat} {q : Int32 × IM} (h : ¬ q.2 120 23 = 0) : zts3 n q 120 = q.2 120 := by
  have h2 : ¬ (st q.2 128 (3 * n + 1) q.1) 120 23 = 0 := by rw [st_row (by decide)]; exact h
  unfold zts3
  rw [znm_bad h2]
  exact (zts4_bad (r := (0, st q.2 128 (3 * n + 1) q.1)) h2).trans (st_row (im := q.2) (k := 128) (j := 3 * n + 1) (x := q.1) (a := 120) (by decide))
theorem zts2_bad {n : Nat} {q : Int32 × IM} (h : ¬ q.2 120 23 = 0) : zts2 n q 120 = q.2 120 := by
  have h2 : ¬ (st q.2 128 (3 * n) q.1) 120 23 = 0 := by rw [st_row (by decide)]; exact h
  unfold zts2
  rw [znm_bad h2]
  exact (zts3_bad (q := (0, st q.2 128 (3 * n) q.1)) h2).trans (st_row (im := q.2) (k := 128) (j := 3 * n) (x := q.1) (a := 120) (by decide))
/-- a test -/
theorem ts_sim {X M : IM} {it L p W T S : Nat} (hI : isC it) (h : PS X M L p) (hs : sk (M 121) L p = p) (hl : lxX X = 116) (hW : DW X M it W) (hT : DT X M it W T) (hS : DV X M it W S) (hP : DP X M it) :
    ((rtF X it).1 = true ∧ (∃ p', PS (rtF X it).2 (zts M) L p') ∧ DW (rtF X it).2 (zts M) it W ∧ DT (rtF X it).2 (zts M) it W (T + 1) ∧ DV (rtF X it).2 (zts M) it W S ∧ DP (rtF X it).2 (zts M) it) ∨ ((rtF X it).1 = false ∧ FS (rtF X it).2 (zts M)) := by
  obtain ⟨a1, a2, a3, a4⟩ := id hT
  have hi2 : it ≠ 1 := isC_ne2 hI
  have hi0 : 3 ≤ it := by rcases hI with rfl | rfl <;> decide
  unfold rtF zts
  by_cases q : T = 6
  · right
    subst q
    rw [if_neg (by rw [a1]; decide), if_pos (by rw [a2]; rfl)]
    exact ⟨rfl, op_full h hs⟩
  · have hT6 : T < 6 := by omega
    have hne : ¬ M 126 1 = 6 := fun z => q ((nI_eq (b := 6) (by omega) (by omega)).mp (a2.symm.trans z))
    have hlt : X it 2 < 6 := by rw [a1]; exact (nI_ltI (b := 6) (by omega) (by omega)).mpr hT6
    rw [if_pos hlt, if_neg hne]
    obtain ⟨o1, p1, o2⟩ := op_sim h hs hl (by decide)
    rw [if_neg (by rw [o1]; decide), a2, a1, tn_nI (by omega)]
    have eA : alS (M 126 0) &&& (-2) = alS (nI W) &&& (-2) := by rw [hW.2.1]
    have sK : ∀ r, r ≠ 1 → (wsF (tkF X 116).2 it 0).2 r = X r := fun r hr => by rw [wsF_row hr, tkF_row hr]
    have sK4 : (wsF (tkF X 116).2 it 0).2 1 5 = X 1 5 := by rw [wsF_24, tkF_24]
    have sN : ∀ r, r ≠ 120 → (zwy (zop M false) (alS (M 126 0) &&& (-2)) 0).2 r = M r := fun r hr => by rw [zwy_row hr, zop_row hr]
    have sim := wt_sim (it := it) o2 (by rw [tkF_row hi2]; exact hW.1) hW.2.2.1 eA
    generalize wsF (tkF X 116).2 it 0 = K at *
    generalize zwy (zop M false) (alS (M 126 0) &&& (-2)) 0 = qq at *
    rcases sim with ⟨s1, sb, ⟨p2, s2⟩, s3, s4, s5⟩ | ⟨s1, sb, s2⟩ | ⟨s1, s2⟩
    · rw [if_neg (by rw [s1]; decide)]
      unfold rtG zts2
      rw [if_neg (by rw [sb]; decide), s3, tn_nI (by omega)]
      have t1 : PS (st K.2 (it + 2) T qq.1) (st qq.2 128 (3 * T) qq.1) L p2 := s2.congr (st_row (by omega)) (st_row (by decide)) (st_ne (by omega)) (st_ne (by omega)) (st_ne (by omega)) (st_row (by decide))
      unfold rtH zts3
      have sK' : ∀ r, r ≠ 1 → (rnF (st K.2 (it + 2) T qq.1) 0 63).2 r = (st K.2 (it + 2) T qq.1) r := fun r hr => rnF_row hr
      have sK4' : (rnF (st K.2 (it + 2) T qq.1) 0 63).2 1 5 = X 1 5 := by rw [rnF_24, st_row (by omega), sK4]
      have sN' : ∀ r, r ≠ 120 → (znm (st qq.2 128 (3 * T) qq.1) 0 63).2 r = (st qq.2 128 (3 * T) qq.1) r := fun r hr => znm_row hr
      have sim := rn_sim (lo := 0) (hi := 63) t1
      generalize rnF (st K.2 (it + 2) T qq.1) 0 63 = Q at *
      generalize znm (st qq.2 128 (3 * T) qq.1) 0 63 = rr at *
      rcases sim with ⟨u1, ⟨p3, u2⟩, u3, -, u5⟩ | ⟨u1, u2⟩
      · rw [if_neg (by rw [u1]; decide), u3, tn_nI (by omega)]
        have t2 : PS (st Q.2 (it + 3) T rr.1) (st rr.2 128 (3 * T + 1) rr.1) L p3 := u2.congr (st_row (by omega)) (st_row (by decide)) (st_ne (by omega)) (st_ne (by omega)) (st_ne (by omega)) (st_row (by decide))
        unfold rtI zts4
        have sQ' : ∀ r, r ≠ 1 → (rnF (st Q.2 (it + 3) T rr.1) 0 999).2 r = (st Q.2 (it + 3) T rr.1) r := fun r hr => rnF_row hr
        have sQ4' : (rnF (st Q.2 (it + 3) T rr.1) 0 999).2 1 5 = X 1 5 := by rw [rnF_24, st_row (by omega), sK4']
        have sR' : ∀ r, r ≠ 120 → (znm (st rr.2 128 (3 * T + 1) rr.1) 0 999).2 r = (st rr.2 128 (3 * T + 1) rr.1) r := fun r hr => znm_row hr
        have sim := rn_sim (lo := 0) (hi := 999) t2
        generalize rnF (st Q.2 (it + 3) T rr.1) 0 999 = Q2 at *
        generalize znm (st rr.2 128 (3 * T + 1) rr.1) 0 999 = r2 at *
        rcases sim with ⟨x1, ⟨p5, x2⟩, x3, -, x5⟩ | ⟨x1, x2⟩
        · rw [if_neg (by rw [x1]; decide), x3, tn_nI (by omega)]
          have v1 : PS (st (st Q2.2 (it + 4) T r2.1) it 2 (nI T + 1)) (st r2.2 128 (3 * T + 2) r2.1) L p5 := x2.congr (by rw [st_row (by omega), st_row (by omega)]) (st_row (by decide)) (by rw [st_ne (by omega), st_ne (by omega)]) (by rw [st_ne (by omega), st_ne (by omega)]) (by rw [st_ne (by omega), st_ne (by omega)]) (st_row (by decide))
          have xr : ∀ r, r ≠ 1 → (tkF (st (st Q2.2 (it + 4) T r2.1) it 2 (nI T + 1)) 59).2 r = st (st Q2.2 (it + 4) T r2.1) it 2 (nI T + 1) r := fun r hr => tkF_row hr
          have x4 : (tkF (st (st Q2.2 (it + 4) T r2.1) it 2 (nI T + 1)) 59).2 1 5 = X 1 5 := by rw [tkF_24, st_row (by omega), st_row (by omega), sQ4']
          have mr : ∀ r, r ≠ 120 → zwd (st r2.2 128 (3 * T + 2) r2.1) 59 r = st r2.2 128 (3 * T + 2) r2.1 r := fun r hr => zwd_row hr
          have sim := tk_sim (c := 59) v1 (by decide)
          generalize tkF (st (st Q2.2 (it + 4) T r2.1) it 2 (nI T + 1)) 59 = Z at *
          generalize zwd (st r2.2 128 (3 * T + 2) r2.1) 59 = N at *
          unfold zts5
          have m0 : ∀ r, r ≠ 120 → r ≠ 128 → N r = M r := fun r h1 h2 => by rw [mr _ h1, st_row h2, sR' _ h1, st_row h2, sN' _ h1, st_row h2, sN _ h1]
          have n0 : ∀ r, r ≠ 1 → r ≠ it → r ≠ it + 2 → r ≠ it + 3 → r ≠ it + 4 → Z.2 r = X r := fun r h1 h2 h3 h4 h5 => by rw [xr _ h1, st_row h2, st_row h5, sQ' _ h1, st_row h4, sK' _ h1, st_row h3, sK _ h1]
          have n1 : ∀ j, j ≠ 2 → Z.2 it j = X it j := fun j hj => by rw [xr _ hi2, st_ne (by omega), st_row (by omega), sQ' _ hi2, st_row (by omega), sK' _ hi2, st_row (by omega), sK _ hi2]
          have hx2 : ∀ j, Z.2 (it + 2) j = if j = T then qq.1 else X (it + 2) j := fun j => by
            rw [xr _ (by omega), st_row (by omega), st_row (by omega), sQ' _ (by omega), st_row (by omega), sK' _ (by omega), st_at1, sK _ (by omega)]
          have hx3 : ∀ j, Z.2 (it + 3) j = if j = T then rr.1 else X (it + 3) j := fun j => by
            rw [xr _ (by omega), st_row (by omega), st_row (by omega), sQ' _ (by omega), st_at1, sK' _ (by omega), st_row (by omega), sK _ (by omega)]
          have hx4 : ∀ j, Z.2 (it + 4) j = if j = T then r2.1 else X (it + 4) j := fun j => by
            rw [xr _ (by omega), st_row (by omega), st_at1, sQ' _ (by omega), st_row (by omega), sK' _ (by omega), st_row (by omega), sK _ (by omega)]
          have hm : ∀ i, N 128 i = if i = 3 * T + 2 then r2.1 else if i = 3 * T + 1 then rr.1 else if i = 3 * T then qq.1 else M 128 i := fun i => by
            rw [mr _ (by decide), st_at1, sR' _ (by decide), st_at1, sN' _ (by decide), st_at1, sN _ (by decide)]
          rcases sim with ⟨w1, ⟨p4, w2⟩, -⟩ | ⟨w1, w2⟩
          · left
            refine ⟨w1, ⟨p4, w2.congr rfl (st_row (by decide)) rfl rfl rfl (st_row (by decide))⟩, ?_, ?_, ?_, ?_⟩
            · refine hW.congr (n1 0 (by decide)) ?_ (n0 _ (by omega) (by omega) (by omega) (by omega) (by omega)) ?_
              · rw [st_ne (by omega), m0 _ (by decide) (by decide)]
              · rw [st_row (by decide), m0 _ (by decide) (by decide)]
            · refine ⟨?_, ?_, by omega, ?_⟩
              · rw [xr _ hi2, st_same]
                exact nI_1 T
              · rw [st_same, m0 _ (by decide) (by decide), a2]
                exact nI_1 T
              · intro j hj
                rw [st_row (k := 126) (by decide), hx2, hx3, hx4, hm, hm, hm]
                by_cases e : j = T
                · subst e
                  rw [if_pos rfl, if_pos rfl, if_pos rfl, if_neg (by omega), if_neg (by omega), if_pos rfl, if_neg (by omega), if_pos rfl, if_pos rfl]
                  exact ⟨rfl, rfl, rfl, by rw [← eA]; exact s4, s5, u5, x5⟩
                · rw [if_neg e, if_neg e, if_neg e, if_neg (by omega), if_neg (by omega), if_neg (by omega), if_neg (by omega), if_neg (by omega), if_neg (by omega), if_neg (by omega), if_neg (by omega), if_neg (by omega)]
                  exact a4 j (by omega)
            · refine hS.congr (n1 6 (by decide)) ?_ (n0 _ (by omega) (by omega) (by omega) (by omega) (by omega)) (n0 _ (by omega) (by omega) (by omega) (by omega) (by omega)) ?_
              · rw [st_ne (by omega), m0 _ (by decide) (by decide)]
              · rw [st_row (by decide), m0 _ (by decide) (by decide)]
            · refine hP.congr x4 (n1 9 (by decide)) (n1 10 (by decide)) ?_ ?_
              · rw [st_ne (by omega), m0 _ (by decide) (by decide)]
              · rw [st_ne (by omega), m0 _ (by decide) (by decide)]
          · right
            exact ⟨w1, w2.congr rfl rfl (st_row (by decide))⟩
        · right
          rw [if_pos x1]
          exact ⟨rfl, x2.congr rfl rfl (zts4_bad x2.1)⟩
      · right
        rw [if_pos u1]
        exact ⟨rfl, u2.congr rfl rfl (zts3_bad u2.1)⟩
    · right
      rw [if_neg (by rw [s1]; decide)]
      unfold rtG
      rw [if_pos sb]
      exact ⟨rfl, s2.congr rfl rfl (zts2_bad s2.1)⟩
    · right
      rw [if_pos s1]
      exact ⟨rfl, s2.congr rfl rfl (zts2_bad s2.1)⟩
