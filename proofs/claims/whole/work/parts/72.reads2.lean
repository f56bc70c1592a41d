section ANSW
variable {X M : IM} {pl W T S D : Nat}
theorem td_eq (hC : CR X M pl W T S D) (hA : AR X 17 (M 130) S D) (hT : TXR X M) (hH : HSR X M) (hB : BKR X M) (hR : HR X M S D) (w : Int32) : tdX X pl w = tdM M w := by
  have e11 : wlX X pl = lfM M (M 130 4) := by
    unfold wlX
    rw [lf_eq hC, hA.1 4 (by omega)]
  have e14 := sp_eq hC hA
  have e12 : orF (X (pl + 3)) (X 17 4) (tn (X pl 2)) = swM M (M 130 4) := by
    obtain ⟨-, -, -, b1, b2, b3, -, -, -, -, -, -, -, -, -, -, -, d, -⟩ := id hC
    unfold swM
    rw [b1, b2, tn_nI (by omega), hA.1 4 (by omega), orF_c T (fun t ht => (d t ht).2.1)]
    rfl
  have e8 : (if X 17 2 = 0 then (0 : Int32) else 1) = M 130 2 := by
    rw [hA.1 2 (by omega)]
    rcases hA.2.1 with z | z
    · rw [if_pos z, z]
    · rw [if_neg (by rw [z]; decide), z]
  have e9 : (if X 17 3 = 0 then (0 : Int32) else 1) = M 130 3 := by
    rw [hA.1 3 (by omega)]
    rcases hA.2.2.1.1 with z | z
    · rw [if_pos z, z]
    · rw [if_neg (by rw [z]; decide), z]
  obtain ⟨-, -, L, l1, l2, -⟩ := hT
  obtain ⟨B, h1, h2, -⟩ := hH
  obtain ⟨B', k1, k2, -⟩ := hB
  obtain ⟨e, E, r1, r2, r3, r4, -⟩ := hR
  obtain ⟨a1, a2, -, b1, b2, -, c1, c2, -, d1, f1, f2, -⟩ := hC
  unfold tdX tdM
  rw [e11, e12, e14, e8, e9, a1, a2, b1, b2, c1, c2, d1, f1, f2, l1, l2, h1, h2, k1, k2, r3, r4, hA.1 0 (by omega), hA.1 1 (by omega), hA.1 4 (by omega), hA.1 5 (by omega)]
theorem in3 : inB (nI 0) 0 3 = true ∧ inB (nI 1) 0 3 = true ∧ inB (nI 2) 0 3 = true ∧ inB (nI 3) 0 3 = true := by decide
theorem ts_eq (hC : CR X M pl W T S D) (hA : AR X 17 (M 130) S D) (x w : Int32) : tsX X pl x w = tsM M x w := by
  obtain ⟨-, -, -, b1, b2, b3, -, -, -, -, -, -, -, -, -, -, -, d, -⟩ := hC
  have h4 : X 17 4 = M 130 4 := hA.1 4 (by omega)
  unfold tsX tsM
  rw [b1, b2, h4]
  cases q : inB x 0 (nI T - 1) with
  | false => rfl
  | true =>
    obtain ⟨j, hj, rfl⟩ := inB_nat q (by omega)
    simp only [Bool.true_eq_false, if_false]
    rw [tn_nI (by omega), sh_bI (by omega), (d j hj).1, (d j hj).2.1, (d j hj).2.2.1]
    cases q2 : inB w 0 3 with
    | false =>
      have n0 : ∀ k, k ≤ 3 → ¬ w = nI k := fun k hk z => by
        have : k = 0 ∨ k = 1 ∨ k = 2 ∨ k = 3 := by omega
        rw [z] at q2
        rcases this with rfl | rfl | rfl | rfl
        · exact absurd (q2.symm.trans in3.1) (by decide)
        · exact absurd (q2.symm.trans in3.2.1) (by decide)
        · exact absurd (q2.symm.trans in3.2.2.1) (by decide)
        · exact absurd (q2.symm.trans in3.2.2.2) (by decide)
      rw [if_neg (n0 0 (by omega)), if_neg (n0 1 (by omega)), if_neg (n0 2 (by omega)), if_neg (n0 3 (by omega)), if_pos rfl]
    | true =>
      simp only [Bool.true_eq_false, if_false]
      obtain ⟨k, hk, rfl⟩ := nI_of_in q2 (cI 3) (by decide)
      have : k = 0 ∨ k = 1 ∨ k = 2 ∨ k = 3 := by omega
      rcases this with rfl | rfl | rfl | rfl
      · rw [if_pos rfl, if_neg (by decide), tn_nI (by omega), Nat.add_zero]
      · rw [if_neg (by decide), if_pos rfl, if_neg (by decide), tn_nI (by omega)]
      · rw [if_neg (by decide), if_neg (by decide), if_pos rfl, if_neg (by decide), tn_nI (by omega)]
      · rw [if_neg (by decide), if_neg (by decide), if_neg (by decide), if_pos rfl, if_pos (by decide)]
theorem sv_eq (hC : CR X M pl W T S D) (hA : AR X 17 (M 130) S D) (x w : Int32) : svX X pl x w = svM M x w := by
  obtain ⟨-, -, -, -, -, -, c1, c2, c3, -, -, -, -, -, -, -, -, -, v⟩ := hC
  obtain ⟨h1, -, -, h5⟩ := hA
  have e5 : X 17 5 = M 130 5 := h1 5 (by omega)
  unfold svX svM saM goM siM
  rw [c1, c2, e5]
  cases q : inB x 0 (nI S - 1) with
  | false => rfl
  | true =>
    obtain ⟨j, hj, rfl⟩ := inB_nat q (by omega)
    simp only [Bool.true_eq_false, if_false]
    obtain ⟨g1, g2, g3, -⟩ := h5 j hj
    rw [tn_nI (by omega), (v j hj).2.1]
    simp only [Nat.reduceAdd] at g1 g2 g3
    rw [g1, g2, g3]
theorem lw_eq (hC : CR X M pl W T S D) (hA : AR X 17 (M 130) S D) : wlX X pl = lfM M (M 130 4) := by
  unfold wlX
  rw [lf_eq hC, hA.1 4 (by omega)]
theorem cnt_eq (hC : CR X M pl W T S D) (w : Int32) : bcI (lrM M w) = onF (lrM M w) 30 := by
  unfold lrM
  obtain ⟨-, -, -, -, -, -, c1, c2, c3, -⟩ := hC
  rw [c2, tn_nI (by omega)]
  obtain ⟨k, hk, e⟩ := lrF_nat (f := saM M) (w := w) S (by omega)
  have h2 : (2 : Nat) ^ S ≤ 2 ^ 5 := Nat.pow_le_pow_right (by decide) c3
  rw [e]
  exact bc_on (by omega)
theorem cy_eq (hC : CR X M pl W T S D) (hA : AR X 17 (M 130) S D) (s : Int32) : cyX X pl s = csM M s := by
  obtain ⟨-, -, -, b1, b2, b3, -, -, -, -, -, -, -, -, -, -, -, d, -⟩ := hC
  unfold cyX csM
  rw [b1, b2, tn_nI (by omega), hA.1 4 (by omega), smF_c T (fun t ht => (d t ht).2.2.1)]
  rfl
theorem ro_eq (hC : CR X M pl W T S D) (hA : AR X 17 (M 130) S D) (a b x : Int32) : roX X pl a b x = rqM M a b x := by
  have h1 := ct_eq hC hA a b
  have h2 := cy_eq hC hA (rxM M a b)
  obtain ⟨a1, a2, a3, -⟩ := hC
  unfold roX rqM
  rw [h1, h2, a1, a2, ways_eq a3]
theorem bit_has : ∀ j t : Fin 8, hasB ((1 : Int32) <<< (nI j.1 &&& 31)) (nI t.1) = decide (t.1 = j.1) := by decide +kernel
theorem orF_add {f : Nat → Int32} {m : Int32} {j : Nat} (hj : j < 8) : ∀ n, n ≤ 8 → orF f (m ||| (1 <<< (nI j &&& 31))) n = if j < n then orF f m n ||| f j else orF f m n
  | 0, _ => by rw [if_neg (by omega)]; rfl
  | n + 1, h => by
    have ih := orF_add (f := f) (m := m) hj n (by omega)
    rw [orF, orF, ih, hasB_or (by omega), bit_has ⟨j, hj⟩ ⟨n, by omega⟩]
    by_cases q : n = j
    · subst q
      rw [decide_eq_true rfl, Bool.or_true, if_pos rfl, if_neg (by omega), if_pos (by omega)]
      split
      · rw [Int32.or_assoc, Int32.or_self]
      · rfl
    · rw [decide_eq_false q, Bool.or_false]
      by_cases q2 : j < n
      · rw [if_pos q2, if_pos (show j < n + 1 by omega)]
        split
        · rw [Int32.or_assoc, Int32.or_comm (f j) (f n), ← Int32.or_assoc]
        · rfl
      · rw [if_neg q2, if_neg (show ¬ j < n + 1 by omega)]
theorem lf_add (hC : CR X M pl W T S D) {j : Nat} (hj : j < T) (made : Int32) : lfM M (made ||| (1 <<< (nI j &&& 31))) = lfM M made &&& (ruM M j ^^^ (-1)) := by
  obtain ⟨-, -, -, b1, b2, b3, -⟩ := hC
  unfold lfM lfS
  rw [b2, tn_nI (by omega), orF_add (by omega) T (by omega), if_pos hj]
  apply ext_bits
  intro k hk
  rw [hasB_and hk, hasB_not hk, hasB_or hk, hasB_and hk, hasB_and hk, hasB_not hk, hasB_not hk, Bool.not_or, Bool.and_assoc]
end ANSW
section READS
variable {im : IM} {pl it : Nat}
theorem k_fault (h : Rel im im pl it) : Call YX8_fault YX9_fault 0 0 [] im pl it :=
  read_of h (c_fault h.ca) (m_fault h.ma) h.2.2.2.2.1.2.1
theorem k_told (h : Rel im im pl it) (w : Int32) : Call YX8_told YX9_told 3 2 [.int w] im pl it := by
  refine read_of h (c_told h.ca w) (m_told h.ma w) ?_
  obtain ⟨-, -, -, -, hT, hH, hB, -, W, T, S, D, hC, hA, hR, -⟩ := h
  exact td_eq hC hA hT hH hB hR w
theorem k_likely (h : Rel im im pl it) (x : Int32) : Call YX8_likely YX9_likely 2 2 [.int x] im pl it := by
  refine read_of h (c_likely h.ca x) (m_likely h.ma x) ?_
  obtain ⟨-, -, -, -, -, -, -, -, W, T, S, D, ⟨a1, a2, a3, -, -, -, -, -, -, -, -, -, -, -, -, -, l, -⟩, -⟩ := h
  rw [a1, a2]
  cases q : inB x 0 (nI W - 1) with
  | false => rfl
  | true =>
    obtain ⟨j, hj, rfl⟩ := inB_nat q (by omega)
    rw [if_pos rfl, if_pos rfl, tn_nI (by omega)]
    exact (l j hj).1
theorem k_test (h : Rel im im pl it) (x w : Int32) : Call YX8_test YX9_test 2 2 [.int x, .int w] im pl it := by
  refine read_of h (c_test h.ca x w) (m_test h.ma x w) ?_
  obtain ⟨-, -, -, -, -, -, -, -, W, T, S, D, hC, hA, -⟩ := h
  exact ts_eq hC hA x w
theorem k_servant (h : Rel im im pl it) (x w : Int32) : Call YX8_servant YX9_servant 2 2 [.int x, .int w] im pl it := by
  refine read_of h (c_servant h.ca x w) (m_servant h.ma x w) ?_
  obtain ⟨-, -, -, -, -, -, -, -, W, T, S, D, hC, hA, -⟩ := h
  exact sv_eq hC hA x w
theorem k_belief (h : Rel im im pl it) (x : Int32) : Call YX8_belief YX9_belief 3 3 [.int x] im pl it := by
  refine read_of h (c_belief h.ca x) (m_belief h.ma h.hlk x) ?_
  obtain ⟨-, -, -, -, -, -, -, -, W, T, S, D, hC, hA, -⟩ := h
  rw [lw_eq hC hA, hC.2.1, show im pl 0 = nI W from hC.1]
  cases q : inB x 0 (nI W - 1) with
  | false => rfl
  | true =>
    obtain ⟨j, hj, rfl⟩ := inB_nat q (by have := hC.2.2.1; omega)
    rw [if_pos rfl, if_pos rfl, ← be_M hC hj, show im pl 0 = nI W from hC.1]
theorem k_liars (h : Rel im im pl it) (x : Int32) : Call YX8_liars YX9_liars 2 2 [.int x] im pl it := by
  refine read_of h (c_liars h.ca x) (m_liars h.ma x) ?_
  obtain ⟨-, -, -, -, -, -, -, -, W, T, S, D, hC, hA, -⟩ := h
  rw [lr_eq hC hA x, hC.2.1, show im pl 0 = nI W from hC.1]
theorem k_leastLiars (h : Rel im im pl it) (x : Int32) : Call YX8_leastLiars YX9_leastLiars 4 2 [.int x] im pl it := by
  refine read_of h (c_leastLiars h.ca x) (m_leastLiars h.ma x) ?_
  obtain ⟨-, -, -, -, -, -, -, -, W, T, S, D, hC, hA, -⟩ := h
  have hic := ic_eq hC.1 hC.2.1
  rw [← hic]
  cases q : icB im with
  | false => rfl
  | true =>
    have hW : 0 < W := by
      rw [ic_pos hC.2.1 hC.2.2.1] at q
      exact of_decide_eq_true q
    rw [wf_eq hC hA hW, lr_eq hC hA, cnt_eq hC]
theorem k_ruleOut (h : Rel im im pl it) (a b x : Int32) : Call YX8_ruleOut YX9_ruleOut 4 2 [.int a, .int b, .int x] im pl it := by
  refine read_of h (c_ruleOut h.ca a b x) (m_ruleOut h.ma a b x) ?_
  obtain ⟨-, -, -, -, -, -, -, -, W, T, S, D, hC, hA, -⟩ := h
  exact ro_eq hC hA a b x
theorem k_next (h : Rel im im pl it) : Call YX8_next YX9_next 3 2 [] im pl it := by
  refine read_of h (c_next h.ca) (m_next h.ma) ?_
  obtain ⟨-, -, -, -, -, -, -, -, W, T, S, D, hC, hA, -⟩ := h
  exact nx_eq hC hA
theorem k_offer (h : Rel im im pl it) (v c : Int32) : Call YX8_offer YX9_offer 4 4 [.int v, .int c] im pl it := by
  refine read_of h (c_offer h.ca v c) (m_offer h.ma h.hlk v c) ?_
  obtain ⟨-, -, -, -, -, -, -, -, W, T, S, D, hC, hA, -⟩ := h
  have hic := ic_eq hC.1 hC.2.1
  rw [← hic, lw_eq hC hA]
  cases q : icB im with
  | false => simp only [if_true]
  | true =>
    have hW : 0 < W := by
      rw [ic_pos hC.2.1 hC.2.2.1] at q
      exact of_decide_eq_true q
    rw [of_eq hC hW]
theorem k_both (h : Rel im im pl it) (v c x : Int32) : Call YX8_both YX9_both 4 4 [.int v, .int c, .int x] im pl it := by
  refine read_of h (c_both h.ca v c x) (m_both h.ma h.hlk v c x) ?_
  obtain ⟨-, -, -, -, -, -, -, -, W, T, S, D, hC, hA, -⟩ := h
  have hic := ic_eq hC.1 hC.2.1
  rw [← hic, lw_eq hC hA]
  cases q : icB im with
  | false => simp only [if_true]
  | true =>
    have hW : 0 < W := by
      rw [ic_pos hC.2.1 hC.2.2.1] at q
      exact of_decide_eq_true q
    rw [of_eq hC hW]
theorem k_worth (h : Rel im im pl it) (x v : Int32) : Call YX8_worth YX9_worth 4 4 [.int x, .int v] im pl it := by
  refine read_of h (c_worth h.ca x v) (m_worth h.ma h.hlk h.htw x v) ?_
  obtain ⟨-, -, -, -, -, -, -, -, W, T, S, D, hC, hA, -⟩ := h
  have hC2 := hC
  obtain ⟨-, -, -, b1, b2, b3, -, -, -, -, -, -, -, -, hz, -, -, d, -⟩ := hC2
  rw [lw_eq hC hA, b1, b2]
  cases q : inB x 0 (nI T - 1) with
  | false => simp only [if_true]
  | true =>
    obtain ⟨j, hj, rfl⟩ := inB_nat q (by omega)
    have hW : 0 < W := by
      apply Nat.pos_of_ne_zero
      intro z
      have := (hz z).1
      omega
    rw [of_eq hC hW, of_eq hC hW, lf_add hC hj, tn_nI (by omega), (d j hj).1, (d j hj).2.2.1]
    rfl
theorem k_secret (h : Rel im im pl it) (x q : Int32) : Call YX8_secret YX9_secret 1 1 [.int x, .int q] im pl it :=
  read_of h (c_secret h.ca x q) (m_secret x q) rfl
theorem k_paid (h : Rel im im pl it) : Call YX8_paid YX9_paid 3 2 [] im pl it := by
  refine read_of h (c_paid h.ca h.hh h.hd) (m_paid h.ma h.hhm h.hdd h.hne) ?_
  obtain ⟨-, -, -, -, -, hH, -, -, W, T, S, D, hC, hA, -⟩ := h
  rw [← ic_eq hC.1 hC.2.1, (paid_eq hC hH).1]
theorem k_ask (h : Rel im im pl it) : Call YX8_ask YX9_ask 4 2 [] im pl it := by
  refine read_of h (c_ask h.ca h.hh h.hd) (m_ask h.ma h.hhm h.hdd h.hne) ?_
  obtain ⟨-, -, -, -, -, hH, -, -, W, T, S, D, hC, hA, -⟩ := h
  rw [← ic_eq hC.1 hC.2.1, (paid_eq hC hH).1, (paid_eq hC hH).2]
theorem k_judge (h : Rel im im pl it) : Call YX8_judge YX9_judge 3 2 [] im pl it := by
  refine read_of h (c_judge h.ca h.hb) (m_judge h.ma h.hbm) ?_
  obtain ⟨-, -, -, -, -, -, hB, -, W, T, S, D, hC, hA, -⟩ := h
  rw [lw_eq hC hA]
  exact jd_eq hB _
end READS
