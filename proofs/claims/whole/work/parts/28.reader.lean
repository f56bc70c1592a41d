set_option maxRecDepth 100000 in
set_option maxHeartbeats 4000000 in
theorem c_isFigure {n : Nat} {im : IM} {rm : RM} (x : Int32) : MT YX7_isFigure 0 0 0 [.int x] n im rm (some (.int (bI (inB x 48 57))), n, im, rm) := by
  refine mt_of (by decide +kernel) (Nat.le_of_ble_eq_true rfl) ?_
  show WW _ _ _ _ _ _ _ 0 [(0, .int x)] [] _ _ _
  refine r_iload_n dX7_isFigure_0 rfl ?_
  refine r_bipush (v := 48) dX7_isFigure_1 (by decide) ?_
  refine r_icmp_lt (tgt := 16) dX7_isFigure_3 (by decide) (fun h3 => ?_) (fun h3 => ?_)
  · refine r_iconst (v := 0) dX7_isFigure_16 (by decide) ?_
    exact r_zret dX7_isFigure_17 rfl nar0 (by simp [inB, bI, h3]) (Nat.le_refl _) (Nat.le_refl _)
  · refine r_iload_n dX7_isFigure_6 rfl ?_
    refine r_bipush (v := 57) dX7_isFigure_7 (by decide) ?_
    refine r_icmp_gt (tgt := 16) dX7_isFigure_9 (by decide) (fun h9 => ?_) (fun h9 => ?_)
    · refine r_iconst (v := 0) dX7_isFigure_16 (by decide) ?_
      exact r_zret dX7_isFigure_17 rfl nar0 (by simp [inB, bI, h3, h9]) (Nat.le_refl _) (Nat.le_refl _)
    · refine r_iconst (v := 1) dX7_isFigure_12 (by decide) ?_
      refine r_goto (tgt := 17) dX7_isFigure_13 (by decide) ?_
      exact r_zret dX7_isFigure_17 rfl nar1 (by simp [inB, bI, h3, h9]) (Nat.le_refl _) (Nat.le_refl _)

set_option maxRecDepth 100000 in
set_option maxHeartbeats 4000000 in
theorem c_letter {im : IM} {pl it : Nat} (hr : RD im) : MT YX7_letter 0 0 0 [.ref 1] 137 im (RR pl it) (some (.int (lxX im)), 137, im, RR pl it) := by
  obtain ⟨L, p, hL, hL2, hp, hp2⟩ := id hr
  have htL : tn (im 1 2) = L := by rw [hL, tn_nI (by omega)]
  have htp : tn (im 1 3) = p := by rw [hp, tn_nI (by omega)]
  refine mt_of (by decide +kernel) (Nat.le_of_ble_eq_true rfl) ?_
  show WW _ _ _ _ _ _ _ 0 [(0, .ref 1)] [] _ _ _
  refine r_aload_n dX7_letter_0 rfl ?_
  refine r_geti fl_X7_22 dX7_letter_1 kd_1 ln_1 rfl ?_
  refine r_aload_n dX7_letter_4 rfl ?_
  refine r_geti fl_X7_19 dX7_letter_5 kd_1 ln_1 rfl ?_
  refine r_icmp_ge (tgt := 23) dX7_letter_8 (by decide) (fun h8 => ?_) (fun h8 => ?_)
  · refine r_iconst (v := (-1)) dX7_letter_23 (by decide) ?_
    exact r_iret dX7_letter_24 rfl (by simp only [lxX, htp, eq_self, Bool.false_eq_true, Bool.true_eq_false, if_true, if_false, reduceIte, h8]) (Nat.le_refl _) (Nat.le_refl _)
  · have hpl : p < L := gt_of_nI hL hp h8 (by omega) (by omega)
    refine r_aload_n dX7_letter_11 rfl ?_
    refine r_getr fl_X7_9 dX7_letter_12 kd_1 ln_1 rfl rfl ?_
    refine r_aload_n dX7_letter_15 rfl ?_
    refine r_geti fl_X7_22 dX7_letter_16 kd_1 ln_1 rfl ?_
    refine r_iald (j := p) dX7_letter_19 kd_2 ln_2 hp (by omega) (by decide) ?_
    refine r_goto (tgt := 24) dX7_letter_20 (by decide) ?_
    exact r_iret dX7_letter_24 rfl (by simp only [lxX, htp, eq_self, Bool.false_eq_true, Bool.true_eq_false, if_true, if_false, reduceIte, h8]) (Nat.le_refl _) (Nat.le_refl _)

set_option maxRecDepth 100000 in
set_option maxHeartbeats 4000000 in
theorem c_refuse {im : IM} {pl it : Nat} (k a : Int32) : MT YX7_refuse 0 0 0 [.ref 1, .int k, .int a] 137 im (RR pl it) (some (.int (0)), 137, rfX im k a, RR pl it) := by
  refine mt_of (by decide +kernel) (Nat.le_of_ble_eq_true rfl) ?_
  show WW _ _ _ _ _ _ _ 0 [(0, .ref 1), (1, .int k), (2, .int a)] [] _ _ _
  refine r_aload_n dX7_refuse_0 rfl ?_
  refine r_iload_n dX7_refuse_1 rfl ?_
  refine r_pi fl_X7_42 dX7_refuse_2 kd_1 ln_1 rfl ?_
  refine r_aload_n dX7_refuse_5 rfl ?_
  refine r_iload_n dX7_refuse_6 rfl ?_
  refine r_pi fl_X7_45 dX7_refuse_7 kd_1 ln_1 rfl ?_
  refine r_iconst (v := 0) dX7_refuse_10 (by decide) ?_
  exact r_zret dX7_refuse_11 rfl nar0 rfl (Nat.le_refl _) (Nat.le_refl _)

set_option maxRecDepth 100000 in
set_option maxHeartbeats 4000000 in
theorem c_skip {im : IM} {pl it : Nat} (hr : RD im) : MT YX7_skipBlanks 0 0 0 [.ref 1] 137 im (RR pl it) (none, 137, skX im, RR pl it) := by
  obtain ⟨L, p, hL, hL2, hp, hp2⟩ := id hr
  refine mt_of (by decide +kernel) (Nat.le_of_ble_eq_true rfl) ?_
  show WW _ _ _ _ _ _ _ 0 [(0, .ref 1)] [] _ _ _
  have key : ∀ m q, q + m = L → q ≤ L → WW YX7_skipBlanks 0 0 0 (none, 137, st im 1 3 (nI (sk (im 2) L q)), RR pl it) 0 0 0 [(0, .ref 1)] [] 137 (st im 1 3 (nI q)) (RR pl it) := by
    intro m
    induction m with
    | zero =>
      intro q hq hq2
      refine r_aload_n dX7_skipBlanks_0 rfl ?_
      refine r_getx (x := nI q) fl_X7_22 dX7_skipBlanks_1 kd_1 ln_1 rfl (st_same _ _ _ _) ?_
      refine r_aload_n dX7_skipBlanks_4 rfl ?_
      refine r_getx (x := im 1 2) fl_X7_19 dX7_skipBlanks_5 kd_1 ln_1 rfl (st_ne (by decide)) ?_
      refine r_icmp_ge_t (tgt := 38) dX7_skipBlanks_8 (by decide) (ix_le hL rfl (by omega) (by omega)) ?_
      exact r_vret dX7_skipBlanks_38 rfl (by rw [sk_at (by omega)]) (Nat.le_refl _) (Nat.le_refl _)
    | succ m ih =>
      intro q hq hq2
      refine r_aload_n dX7_skipBlanks_0 rfl ?_
      refine r_getx (x := nI q) fl_X7_22 dX7_skipBlanks_1 kd_1 ln_1 rfl (st_same _ _ _ _) ?_
      refine r_aload_n dX7_skipBlanks_4 rfl ?_
      refine r_getx (x := im 1 2) fl_X7_19 dX7_skipBlanks_5 kd_1 ln_1 rfl (st_ne (by decide)) ?_
      refine r_icmp_ge_f (tgt := 38) dX7_skipBlanks_8 (by decide) (ix_nle hL rfl (by omega) (by omega)) ?_
      refine r_aload_n dX7_skipBlanks_11 rfl ?_
      refine r_getr fl_X7_9 dX7_skipBlanks_12 kd_1 ln_1 rfl rfl ?_
      refine r_aload_n dX7_skipBlanks_15 rfl ?_
      refine r_getx (x := nI q) fl_X7_22 dX7_skipBlanks_16 kd_1 ln_1 rfl (st_same _ _ _ _) ?_
      refine r_ialx (j := q) (x := im 2 q) dX7_skipBlanks_19 kd_2 ln_2 rfl (by omega) (by decide) (by rw [st_row (by decide)]) ?_
      refine r_bipush (v := 32) dX7_skipBlanks_20 (by decide) ?_
      refine r_icmp_ne (tgt := 38) dX7_skipBlanks_22 (by decide) (fun h22 => ?_) (fun h22 => ?_)
      · exact r_vret dX7_skipBlanks_38 rfl (by rw [sk_at (fun z => h22 z.2)]) (Nat.le_refl _) (Nat.le_refl _)
      · refine r_aload_n dX7_skipBlanks_25 rfl ?_
        refine r_dup dX7_skipBlanks_26 rfl ?_
        refine r_getx (x := nI q) fl_X7_22 dX7_skipBlanks_27 kd_1 ln_1 rfl (st_same _ _ _ _) ?_
        refine r_iconst (v := 1) dX7_skipBlanks_30 (by decide) ?_
        refine r_iadd dX7_skipBlanks_31 ?_
        refine r_pi fl_X7_22 dX7_skipBlanks_32 kd_1 ln_1 rfl ?_
        refine r_goto (tgt := 0) dX7_skipBlanks_35 (by decide) ?_
        rw [sk_go (by omega) h22]
        refine r_im (im' := st im 1 3 (nI (q + 1))) (by rw [st_st, nI_1]) ?_
        exact ih (q + 1) (by omega) (by omega)
  have h := key (L - p) p (by omega) hp2
  rw [← hp, st_same2 rfl] at h
  have e : skX im = st im 1 3 (nI (sk (im 2) L p)) := by rw [skX, hL, hp, tn_nI (by omega), tn_nI (by omega)]
  rw [e]
  exact h

set_option maxRecDepth 100000 in
set_option maxHeartbeats 4000000 in
theorem c_take {im : IM} {pl it : Nat} (hr : RD im) (x : Int32) (hx : ¬ x = -1) : MT YX7_take 1 0 0 [.ref 1, .int x] 137 im (RR pl it) (some (.int (bI (tkF im x).1)), 137, (tkF im x).2, RR pl it) := by
  obtain ⟨L, p, hL, hL2, hp, hp2⟩ := id hr
  have htL : tn (im 1 2) = L := by rw [hL, tn_nI (by omega)]
  have htp : tn (im 1 3) = p := by rw [hp, tn_nI (by omega)]
  refine mt_of (by decide +kernel) (Nat.le_of_ble_eq_true rfl) ?_
  show WW _ _ _ _ _ _ _ 0 [(0, .ref 1), (1, .int x)] [] _ _ _
  refine r_aload_n dX7_take_0 rfl ?_
  refine r_V0s cv_X7_74 dX7_take_1 (c_letter hr) ⟨by decide, by decide⟩ kd_1 ln_1 cl_7 (Nat.le_of_ble_eq_true rfl) ⟨Nat.le_refl _, Nat.le_refl _⟩ ?_
  refine r_iload_n dX7_take_4 rfl ?_
  refine r_icmp_eq (tgt := 18) dX7_take_5 (by decide) (fun h5 => ?_) (fun h5 => ?_)
  · have hpl : p < L := by
      apply Nat.lt_of_not_le
      intro q
      rw [lxX_lt hL hL2 hp hp2, if_neg (by omega)] at h5
      exact hx h5.symm
    refine r_aload_n dX7_take_18 rfl ?_
    refine r_dup dX7_take_19 rfl ?_
    refine r_getx (x := im 1 3) fl_X7_22 dX7_take_20 kd_1 ln_1 rfl rfl ?_
    refine r_iconst (v := 1) dX7_take_23 (by decide) ?_
    refine r_iadd dX7_take_24 ?_
    refine r_pi fl_X7_22 dX7_take_25 kd_1 ln_1 rfl ?_
    refine r_aload_n dX7_take_28 rfl ?_
    refine r_V0n cv_X7_51 dX7_take_29 (c_skip ⟨L, p + 1, by rw [st_ne (by decide)]; exact hL, hL2, by rw [st_same, hp]; exact nI_1 p, by omega⟩) ⟨by decide, by decide⟩ kd_1 ln_1 cl_7 (Nat.le_of_ble_eq_true rfl) ⟨Nat.le_refl _, Nat.le_refl _⟩ ?_
    refine r_iconst (v := 1) dX7_take_32 (by decide) ?_
    exact r_zret dX7_take_33 rfl nar1 (by simp only [tkF, eq_self, Bool.false_eq_true, Bool.true_eq_false, if_true, if_false, reduceIte, eq_true h5]; rfl) (Nat.le_refl _) (Nat.le_refl _)
  · refine r_aload_n dX7_take_8 rfl ?_
    refine r_iconst (v := 1) dX7_take_9 (by decide) ?_
    refine r_aload_n dX7_take_10 rfl ?_
    refine r_geti fl_X7_22 dX7_take_11 kd_1 ln_1 rfl ?_
    refine r_V2s cv_X7_81 dX7_take_14 (c_refuse 1 (im 1 3)) ⟨by decide, by decide⟩ kd_1 ln_1 cl_7 (Nat.le_of_ble_eq_true rfl) ⟨Nat.le_refl _, Nat.le_refl _⟩ ?_
    exact r_zret dX7_take_17 rfl nar0 (by simp only [tkF, eq_self, Bool.false_eq_true, Bool.true_eq_false, if_true, if_false, reduceIte, h5]; rfl) (Nat.le_refl _) (Nat.le_refl _)

theorem dgX_go {im : IM} {p t : Nat} (h : t ≤ 3) (htp : tn (im 1 3) = p) : st (st (dgX im t) 1 6 (vX (im 2) p t * 10 + im 2 (p + t) - 48)) 1 3 (nI (p + t) + 1) = dgX im (t + 1) := by
  unfold dgX
  rw [htp, vX, if_pos h, nI_1, show p + (t + 1) = p + t + 1 by omega]
  funext k j
  simp only [st_at]
  grind
theorem dgX_big {im : IM} {p t : Nat} (h : 3 < t) (htp : tn (im 1 3) = p) : st (dgX im t) 1 3 (nI (p + t) + 1) = dgX im (t + 1) := by
  unfold dgX
  rw [htp, st_st, nI_1, show p + (t + 1) = p + t + 1 by omega, show vX (im 2) p (t + 1) = vX (im 2) p t by rw [vX, if_neg (by omega)]]
theorem dif_nI {p t : Nat} : nI (p + t) - nI p = nI t := by rw [pk_sub (by omega), show p + t - p = t by omega]
theorem gt_of_nI3 {p t : Nat} {x : Int32} (h : 3 < nI (p + t) - x) (h2 : p + t < 1000) (hx : x = nI p := by first | assumption | rfl) : 3 < t := by
  rw [hx, dif_nI] at h
  exact (nI_ltI (a := 3) (by omega) (by omega)).mp h
theorem le_of_nI3 {p t : Nat} {x : Int32} (h : ¬ 3 < nI (p + t) - x) (h2 : p + t < 1000) (hx : x = nI p := by first | assumption | rfl) : t ≤ 3 := by
  rw [hx, dif_nI] at h
  exact Nat.le_of_not_lt (fun q => h ((nI_ltI (a := 3) (by omega) (by omega)).mpr q))
theorem dgX_0 {im : IM} {p : Nat} (hp : im 1 3 = nI p) (htp : tn (im 1 3) = p) : st (st im 1 7 (im 1 3)) 1 6 0 = dgX im 0 := by
  unfold dgX
  rw [htp, vX, Nat.add_zero, ← hp]
  funext k j
  simp only [st_at]
  grind

set_option maxRecDepth 100000 in
set_option maxHeartbeats 4000000 in
theorem c_readNumber {im : IM} {pl it : Nat} (hr : RD im) (lo hi : Int32) : MT YX7_readNumber 1 0 0 [.ref 1, .int lo, .int hi] 137 im (RR pl it) (some (.int (bI (rnF im lo hi).1)), 137, (rnF im lo hi).2, RR pl it) := by
  obtain ⟨L, p, hL, hL2, hp, hp2⟩ := id hr
  have htL : tn (im 1 2) = L := by rw [hL, tn_nI (by omega)]
  have htp : tn (im 1 3) = p := by rw [hp, tn_nI (by omega)]
  refine mt_of (by decide +kernel) (Nat.le_of_ble_eq_true rfl) ?_
  show WW _ _ _ _ _ _ _ 0 [(0, .ref 1), (1, .int lo), (2, .int hi)] [] _ _ _
  have fin0 : inB (lxX im) 48 57 = true → ∀ t, p + t ≤ L → nd (im 2) L p = p + t → WW YX7_readNumber 1 0 0 (some (.int (bI (rnF im lo hi).1)), 137, (rnF im lo hi).2, RR pl it) 0 0 109 [(0, .ref 1), (1, .int lo), (2, .int hi)] [] 137 (dgX im t) (RR pl it) := by
    intro ht0 t hn2 hn3
    have htN : dgN im = t := by unfold dgN; rw [htL, htp, hn3]; omega
    refine r_aload_n dX7_readNumber_109 rfl ?_
    refine r_getx (x := nI (p + t)) fl_X7_22 dX7_readNumber_110 kd_1 ln_1 rfl (by unfold dgX; rw [st_same, htp]) ?_
    refine r_aload_n dX7_readNumber_113 rfl ?_
    refine r_getx (x := im 1 3) fl_X7_39 dX7_readNumber_114 kd_1 ln_1 rfl (by unfold dgX; rw [st_ne (by decide), st_ne (by decide), st_same]) ?_
    refine r_isub dX7_readNumber_117 ?_
    refine r_iconst (v := 3) dX7_readNumber_118 (by decide) ?_
    refine r_icmp_gt (tgt := 134) dX7_readNumber_119 (by decide) (fun h119 => ?_) (fun h119 => ?_)
    · refine r_aload_n dX7_readNumber_134 rfl ?_
      refine r_iconst (v := 2) dX7_readNumber_135 (by decide) ?_
      refine r_aload_n dX7_readNumber_136 rfl ?_
      refine r_getx (x := im 1 3) fl_X7_39 dX7_readNumber_137 kd_1 ln_1 rfl (by unfold dgX; rw [st_ne (by decide), st_ne (by decide), st_same]) ?_
      refine r_V2s cv_X7_81 dX7_readNumber_140 (c_refuse 2 (im 1 3)) ⟨by decide, by decide⟩ kd_1 ln_1 cl_7 (Nat.le_of_ble_eq_true rfl) ⟨Nat.le_refl _, Nat.le_refl _⟩ ?_
      exact r_zret dX7_readNumber_143 rfl nar0 (by rw [show rnF im lo hi = (false, rfX (dgX im t) 2 (im 1 3)) by simp only [rnF, ht0, htN, if_pos (gt_of_nI3 h119 (by omega)), eq_self, Bool.false_eq_true, Bool.true_eq_false, if_true, if_false, reduceIte]]; rfl) (Nat.le_refl _) (Nat.le_refl _)
    · refine r_aload_n dX7_readNumber_122 rfl ?_
      refine r_getx (x := vX (im 2) p t) fl_X7_36 dX7_readNumber_123 kd_1 ln_1 rfl (by unfold dgX; rw [st_ne (by decide), st_same, htp]) ?_
      refine r_iload_n dX7_readNumber_126 rfl ?_
      refine r_iload_n dX7_readNumber_127 rfl ?_
      refine r_N3s cv_X7_133 dX7_readNumber_128 (c_within (vX (im 2) p t) lo hi) ⟨by decide, by decide⟩ (Nat.le_of_ble_eq_true rfl) ⟨Nat.le_refl _, Nat.le_refl _⟩ ?_
      refine r_bz_ne (tgt := 144) dX7_readNumber_131 (by decide) (fun h131 => ?_) (fun h131 => ?_)
      · refine r_aload_n dX7_readNumber_144 rfl ?_
        refine r_V0n cv_X7_51 dX7_readNumber_145 (c_skip ⟨L, p + t, by unfold dgX; rw [st_ne (by decide), st_ne (by decide), st_ne (by decide)]; exact hL, hL2, by unfold dgX; rw [st_same, htp], by omega⟩) ⟨by decide, by decide⟩ kd_1 ln_1 cl_7 (Nat.le_of_ble_eq_true rfl) ⟨Nat.le_refl _, Nat.le_refl _⟩ ?_
        refine r_iconst (v := 1) dX7_readNumber_148 (by decide) ?_
        exact r_zret dX7_readNumber_149 rfl nar1 (by rw [show rnF im lo hi = (true, skX (dgX im t)) by simp only [rnF, ht0, htN, htp, h131, if_neg (Nat.not_lt.mpr (le_of_nI3 h119 (by omega))), eq_self, Bool.false_eq_true, Bool.true_eq_false, if_true, if_false, reduceIte]]; rfl) (Nat.le_refl _) (Nat.le_refl _)
      · refine r_aload_n dX7_readNumber_134 rfl ?_
        refine r_iconst (v := 2) dX7_readNumber_135 (by decide) ?_
        refine r_aload_n dX7_readNumber_136 rfl ?_
        refine r_getx (x := im 1 3) fl_X7_39 dX7_readNumber_137 kd_1 ln_1 rfl (by unfold dgX; rw [st_ne (by decide), st_ne (by decide), st_same]) ?_
        refine r_V2s cv_X7_81 dX7_readNumber_140 (c_refuse 2 (im 1 3)) ⟨by decide, by decide⟩ kd_1 ln_1 cl_7 (Nat.le_of_ble_eq_true rfl) ⟨Nat.le_refl _, Nat.le_refl _⟩ ?_
        exact r_zret dX7_readNumber_143 rfl nar0 (by rw [show rnF im lo hi = (false, rfX (dgX im t) 2 (im 1 3)) by simp only [rnF, ht0, htN, htp, h131, if_neg (Nat.not_lt.mpr (le_of_nI3 h119 (by omega))), eq_self, Bool.false_eq_true, Bool.true_eq_false, if_true, if_false, reduceIte]]; rfl) (Nat.le_refl _) (Nat.le_refl _)
  have key0 : inB (lxX im) 48 57 = true → ∀ m t, p + t + m = L → nd (im 2) L (p + t) = nd (im 2) L p → WW YX7_readNumber 1 0 0 (some (.int (bI (rnF im lo hi).1)), 137, (rnF im lo hi).2, RR pl it) 0 0 33 [(0, .ref 1), (1, .int lo), (2, .int hi)] [] 137 (dgX im t) (RR pl it) := by
    intro ht0 m
    have fin := fin0 ht0
    induction m with
    | zero =>
      intro t ht hn
      have hn2 : p + t ≤ L := by omega
      have hn3 : nd (im 2) L p = p + t := by rw [← hn, nd_at (by omega)]
      refine r_aload_n dX7_readNumber_33 rfl ?_
      refine r_getx (x := nI (p + t)) fl_X7_22 dX7_readNumber_34 kd_1 ln_1 rfl (by unfold dgX; rw [st_same, htp]) ?_
      refine r_aload_n dX7_readNumber_37 rfl ?_
      refine r_getx (x := im 1 2) fl_X7_19 dX7_readNumber_38 kd_1 ln_1 rfl (by unfold dgX; rw [st_ne (by decide), st_ne (by decide), st_ne (by decide)]) ?_
      refine r_icmp_ge_t (tgt := 109) dX7_readNumber_41 (by decide) (ix_le hL rfl (by omega) (by omega)) ?_
      exact fin t hn2 hn3
    | succ m ih =>
      intro t ht hn
      refine r_aload_n dX7_readNumber_33 rfl ?_
      refine r_getx (x := nI (p + t)) fl_X7_22 dX7_readNumber_34 kd_1 ln_1 rfl (by unfold dgX; rw [st_same, htp]) ?_
      refine r_aload_n dX7_readNumber_37 rfl ?_
      refine r_getx (x := im 1 2) fl_X7_19 dX7_readNumber_38 kd_1 ln_1 rfl (by unfold dgX; rw [st_ne (by decide), st_ne (by decide), st_ne (by decide)]) ?_
      refine r_icmp_ge_f (tgt := 109) dX7_readNumber_41 (by decide) (ix_nle hL rfl (by omega) (by omega)) ?_
      refine r_aload_n dX7_readNumber_44 rfl ?_
      refine r_getr fl_X7_9 dX7_readNumber_45 kd_1 ln_1 rfl rfl ?_
      refine r_aload_n dX7_readNumber_48 rfl ?_
      refine r_getx (x := nI (p + t)) fl_X7_22 dX7_readNumber_49 kd_1 ln_1 rfl (by unfold dgX; rw [st_same, htp]) ?_
      refine r_ialx (j := p + t) (x := im 2 (p + t)) dX7_readNumber_52 kd_2 ln_2 rfl (by omega) (by decide) (by rw [dgX_row (by decide)]) ?_
      refine r_S1s cv_X7_130 dX7_readNumber_53 (c_isFigure (im 2 (p + t))) ⟨by decide, by decide⟩ (Nat.le_of_ble_eq_true rfl) ⟨Nat.le_refl _, Nat.le_refl _⟩ ?_
      refine r_bz_eq (tgt := 109) dX7_readNumber_56 (by decide) (fun h56 => ?_) (fun h56 => ?_)
      · exact fin t (by omega) (by rw [nd_at (fun z => by rw [h56] at z; exact absurd z.2 (by decide))] at hn; omega)
      · refine r_aload_n dX7_readNumber_59 rfl ?_
        refine r_getx (x := nI (p + t)) fl_X7_22 dX7_readNumber_60 kd_1 ln_1 rfl (by unfold dgX; rw [st_same, htp]) ?_
        refine r_aload_n dX7_readNumber_63 rfl ?_
        refine r_getx (x := im 1 3) fl_X7_39 dX7_readNumber_64 kd_1 ln_1 rfl (by unfold dgX; rw [st_ne (by decide), st_ne (by decide), st_same]) ?_
        refine r_isub dX7_readNumber_67 ?_
        refine r_iconst (v := 3) dX7_readNumber_68 (by decide) ?_
        refine r_icmp_gt (tgt := 96) dX7_readNumber_69 (by decide) (fun h69 => ?_) (fun h69 => ?_)
        · refine r_aload_n dX7_readNumber_96 rfl ?_
          refine r_dup dX7_readNumber_97 rfl ?_
          refine r_getx (x := nI (p + t)) fl_X7_22 dX7_readNumber_98 kd_1 ln_1 rfl (by unfold dgX; rw [st_same, htp]) ?_
          refine r_iconst (v := 1) dX7_readNumber_101 (by decide) ?_
          refine r_iadd dX7_readNumber_102 ?_
          refine r_pi fl_X7_22 dX7_readNumber_103 kd_1 ln_1 rfl ?_
          refine r_goto (tgt := 33) dX7_readNumber_106 (by decide) ?_
          refine r_im (im' := dgX im (t + 1)) (dgX_big (gt_of_nI3 h69 (by omega)) htp) ?_
          exact ih (t + 1) (by omega) (by rw [show p + (t + 1) = p + t + 1 by omega, ← nd_go (by omega) h56]; exact hn)
        · refine r_aload_n dX7_readNumber_72 rfl ?_
          refine r_aload_n dX7_readNumber_73 rfl ?_
          refine r_getx (x := vX (im 2) p t) fl_X7_36 dX7_readNumber_74 kd_1 ln_1 rfl (by unfold dgX; rw [st_ne (by decide), st_same, htp]) ?_
          refine r_bipush (v := 10) dX7_readNumber_77 (by decide) ?_
          refine r_imul dX7_readNumber_79 ?_
          refine r_aload_n dX7_readNumber_80 rfl ?_
          refine r_getr fl_X7_9 dX7_readNumber_81 kd_1 ln_1 rfl rfl ?_
          refine r_aload_n dX7_readNumber_84 rfl ?_
          refine r_getx (x := nI (p + t)) fl_X7_22 dX7_readNumber_85 kd_1 ln_1 rfl (by unfold dgX; rw [st_same, htp]) ?_
          refine r_ialx (j := p + t) (x := im 2 (p + t)) dX7_readNumber_88 kd_2 ln_2 rfl (by omega) (by decide) (by rw [dgX_row (by decide)]) ?_
          refine r_iadd dX7_readNumber_89 ?_
          refine r_bipush (v := 48) dX7_readNumber_90 (by decide) ?_
          refine r_isub dX7_readNumber_92 ?_
          refine r_pi fl_X7_36 dX7_readNumber_93 kd_1 ln_1 rfl ?_
          refine r_aload_n dX7_readNumber_96 rfl ?_
          refine r_dup dX7_readNumber_97 rfl ?_
          refine r_getx (x := nI (p + t)) fl_X7_22 dX7_readNumber_98 kd_1 ln_1 rfl (by rw [st_ne (by decide)]; unfold dgX; rw [st_same, htp]) ?_
          refine r_iconst (v := 1) dX7_readNumber_101 (by decide) ?_
          refine r_iadd dX7_readNumber_102 ?_
          refine r_pi fl_X7_22 dX7_readNumber_103 kd_1 ln_1 rfl ?_
          refine r_goto (tgt := 33) dX7_readNumber_106 (by decide) ?_
          refine r_im (im' := dgX im (t + 1)) (dgX_go (le_of_nI3 h69 (by omega)) htp) ?_
          exact ih (t + 1) (by omega) (by rw [show p + (t + 1) = p + t + 1 by omega, ← nd_go (by omega) h56]; exact hn)
  refine r_aload_n dX7_readNumber_0 rfl ?_
  refine r_V0s cv_X7_74 dX7_readNumber_1 (c_letter hr) ⟨by decide, by decide⟩ kd_1 ln_1 cl_7 (Nat.le_of_ble_eq_true rfl) ⟨Nat.le_refl _, Nat.le_refl _⟩ ?_
  refine r_S1s cv_X7_130 dX7_readNumber_4 (c_isFigure (lxX im)) ⟨by decide, by decide⟩ (Nat.le_of_ble_eq_true rfl) ⟨Nat.le_refl _, Nat.le_refl _⟩ ?_
  refine r_bz_ne (tgt := 20) dX7_readNumber_7 (by decide) (fun h7 => ?_) (fun h7 => ?_)
  · have ht0 := h7
    refine r_aload_n dX7_readNumber_20 rfl ?_
    refine r_aload_n dX7_readNumber_21 rfl ?_
    refine r_geti fl_X7_22 dX7_readNumber_22 kd_1 ln_1 rfl ?_
    refine r_pi fl_X7_39 dX7_readNumber_25 kd_1 ln_1 rfl ?_
    refine r_aload_n dX7_readNumber_28 rfl ?_
    refine r_iconst (v := 0) dX7_readNumber_29 (by decide) ?_
    refine r_pi fl_X7_36 dX7_readNumber_30 kd_1 ln_1 rfl ?_
    refine r_im (im' := dgX im 0) (dgX_0 hp htp) ?_
    exact key0 ht0 (L - p) 0 (by omega) (by rw [Nat.add_zero])
  · refine r_aload_n dX7_readNumber_10 rfl ?_
    refine r_iconst (v := 1) dX7_readNumber_11 (by decide) ?_
    refine r_aload_n dX7_readNumber_12 rfl ?_
    refine r_geti fl_X7_22 dX7_readNumber_13 kd_1 ln_1 rfl ?_
    refine r_V2s cv_X7_81 dX7_readNumber_16 (c_refuse 1 (im 1 3)) ⟨by decide, by decide⟩ kd_1 ln_1 cl_7 (Nat.le_of_ble_eq_true rfl) ⟨Nat.le_refl _, Nat.le_refl _⟩ ?_
    exact r_zret dX7_readNumber_19 rfl nar0 (by rw [show rnF im lo hi = (false, rfX im 1 (im 1 3)) by simp only [rnF, h7, eq_self, Bool.false_eq_true, Bool.true_eq_false, if_true, if_false, reduceIte]]; rfl) (Nat.le_refl _) (Nat.le_refl _)

