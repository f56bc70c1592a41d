set_option maxRecDepth 100000 in
set_option maxHeartbeats 4000000 in
theorem m_in {n : Nat} {im : IM} {rm : RM} (x a c : Int32) : MT YX9_in 0 0 0 [.int x, .int a, .int c] n im rm (some (.int (bI (inB x a c))), n, im, rm) := by
  refine mt_of (by decide +kernel) (Nat.le_of_ble_eq_true rfl) ?_
  show WW _ _ _ _ _ _ _ 0 [(0, .int x), (1, .int a), (2, .int c)] [] _ _ _
  refine r_iload_n dX9_in_0 rfl ?_
  refine r_iload_n dX9_in_1 rfl ?_
  refine r_icmp_lt (tgt := 14) dX9_in_2 (by decide) (fun h2 => ?_) (fun h2 => ?_)
  · refine r_iconst (v := 0) dX9_in_14 (by decide) ?_
    exact r_zret dX9_in_15 rfl nar0 (by simp [inB, bI, h2]) (Nat.le_refl _) (Nat.le_refl _)
  · refine r_iload_n dX9_in_5 rfl ?_
    refine r_iload_n dX9_in_6 rfl ?_
    refine r_icmp_gt (tgt := 14) dX9_in_7 (by decide) (fun h7 => ?_) (fun h7 => ?_)
    · refine r_iconst (v := 0) dX9_in_14 (by decide) ?_
      exact r_zret dX9_in_15 rfl nar0 (by simp [inB, bI, h2, h7]) (Nat.le_refl _) (Nat.le_refl _)
    · refine r_iconst (v := 1) dX9_in_10 (by decide) ?_
      refine r_goto (tgt := 15) dX9_in_11 (by decide) ?_
      exact r_zret dX9_in_15 rfl nar1 (by simp [inB, bI, h2, h7]) (Nat.le_refl _) (Nat.le_refl _)

set_option maxRecDepth 100000 in
set_option maxHeartbeats 4000000 in
theorem m_has {n : Nat} {im : IM} {rm : RM} (x k : Int32) : MT YX9_has 0 0 0 [.int x, .int k] n im rm (some (.int (bI (hasB x k))), n, im, rm) := by
  refine mt_of (by decide +kernel) (Nat.le_of_ble_eq_true rfl) ?_
  show WW _ _ _ _ _ _ _ 0 [(0, .int x), (1, .int k)] [] _ _ _
  refine r_iload_n dX9_has_0 rfl ?_
  refine r_iload_n dX9_has_1 rfl ?_
  refine r_ishr dX9_has_2 ?_
  refine r_iconst (v := 1) dX9_has_3 (by decide) ?_
  refine r_iand dX9_has_4 ?_
  refine r_iconst (v := 1) dX9_has_5 (by decide) ?_
  refine r_icmp_ne (tgt := 13) dX9_has_6 (by decide) (fun h6 => ?_) (fun h6 => ?_)
  · refine r_iconst (v := 0) dX9_has_13 (by decide) ?_
    exact r_zret dX9_has_14 rfl nar0 (by simp [hasB, bI, h6]) (Nat.le_refl _) (Nat.le_refl _)
  · refine r_iconst (v := 1) dX9_has_9 (by decide) ?_
    refine r_goto (tgt := 14) dX9_has_10 (by decide) ?_
    exact r_zret dX9_has_14 rfl nar1 (by simp [hasB, bI, eq_true h6]) (Nat.le_refl _) (Nat.le_refl _)

set_option maxRecDepth 100000 in
set_option maxHeartbeats 4000000 in
theorem m_ones {n : Nat} {im : IM} {rm : RM} (x : Int32) : MT YX9_ones 0 0 0 [.int x] n im rm (some (.int (onF x 30)), n, im, rm) := by
  refine mt_of (by decide +kernel) (Nat.le_of_ble_eq_true rfl) ?_
  show WW _ _ _ _ _ _ _ 0 [(0, .int x)] [] _ _ _
  refine r_iconst (v := 0) dX9_ones_0 (by decide) ?_
  refine r_istore_n dX9_ones_1 (by decide) ?_
  refine r_iconst (v := 0) dX9_ones_2 (by decide) ?_
  refine r_istore_n dX9_ones_3 (by decide) ?_
  refine r_lv (lv' := [(0, .int x), (1, .int (onF x 0)), (2, .int (nI 0))]) (al_cons rfl (al_int rfl rfl (al_int rfl (by exact (cI 0)) al_nil))) ?_
  refine WW.loop (fun t => [(0, .int x), (1, .int (onF x t)), (2, .int (nI t))]) (fun _ => im) (N := 30) ?_ ?_ 0 (Nat.zero_le _)
  · show WW _ _ _ _ _ _ _ 4 [(0, .int x), (1, .int (onF x 30)), (2, .int (nI 30))] _ _ _ _
    refine r_iload_n dX9_ones_4 rfl ?_
    refine r_bipush (v := 30) dX9_ones_5 (by decide) ?_
    refine r_icmp_ge_t (tgt := 24) dX9_ones_7 (by decide) (ix_le (cI 30) rfl (by omega) (by omega)) ?_
    refine r_iload_n dX9_ones_24 rfl ?_
    exact r_iret dX9_ones_25 rfl rfl (Nat.le_refl _) (Nat.le_refl _)
  · intro t ht iht
    show WW _ _ _ _ _ _ _ 4 [(0, .int x), (1, .int (onF x t)), (2, .int (nI t))] _ _ _ _
    refine r_iload_n dX9_ones_4 rfl ?_
    refine r_bipush (v := 30) dX9_ones_5 (by decide) ?_
    refine r_icmp_ge_f (tgt := 24) dX9_ones_7 (by decide) (ix_nle (cI 30) rfl (by omega) (by omega)) ?_
    refine r_iload_n dX9_ones_10 rfl ?_
    refine r_iload_n dX9_ones_11 rfl ?_
    refine r_iload_n dX9_ones_12 rfl ?_
    refine r_ishr dX9_ones_13 ?_
    refine r_iconst (v := 1) dX9_ones_14 (by decide) ?_
    refine r_iand dX9_ones_15 ?_
    refine r_iadd dX9_ones_16 ?_
    refine r_istore_n dX9_ones_17 (by decide) ?_
    refine r_iinc dX9_ones_18 rfl (by decide) (ix_inc rfl) ?_
    refine r_goto (tgt := 4) dX9_ones_21 (by decide) ?_
    refine r_lv (lv' := [(0, .int x), (1, .int (onF x (t + 1))), (2, .int (nI (t + 1)))]) (al_cons rfl (al_int rfl rfl (al_cons rfl al_nil))) ?_
    exact iht

set_option maxRecDepth 100000 in
set_option maxHeartbeats 4000000 in
theorem m_allOf {n : Nat} {im : IM} {rm : RM} (x : Int32) : MT YX9_allOf 0 0 0 [.int x] n im rm (some (.int (alS x)), n, im, rm) := by
  refine mt_of (by decide +kernel) (Nat.le_of_ble_eq_true rfl) ?_
  show WW _ _ _ _ _ _ _ 0 [(0, .int x)] [] _ _ _
  refine r_iconst (v := 1) dX9_allOf_0 (by decide) ?_
  refine r_iload_n dX9_allOf_1 rfl ?_
  refine r_ishl dX9_allOf_2 ?_
  refine r_iconst (v := 1) dX9_allOf_3 (by decide) ?_
  refine r_isub dX9_allOf_4 ?_
  exact r_iret dX9_allOf_5 rfl rfl (Nat.le_refl _) (Nat.le_refl _)

set_option maxRecDepth 100000 in
set_option maxHeartbeats 4000000 in
theorem m_isCastle {im : IM} {pl it : Nat} (hm : MA im) : MT YX9_isCastle 0 0 0 [.ref 120] 137 im (RR pl it) (some (.int (bI (icB im))), 137, im, RR pl it) := by
  obtain ⟨W, T, S, hW, hW8, hT, hT6, hS, hS5⟩ := id hm
  have htW : tn (im 122 0) = W := by rw [hW, tn_nI (by omega)]
  have htT : tn (im 122 1) = T := by rw [hT, tn_nI (by omega)]
  have htS : tn (im 122 2) = S := by rw [hS, tn_nI (by omega)]
  refine mt_of (by decide +kernel) (Nat.le_of_ble_eq_true rfl) ?_
  show WW _ _ _ _ _ _ _ 0 [(0, .ref 120)] [] _ _ _
  refine r_aload_n dX9_isCastle_0 rfl ?_
  refine r_getr fl_X9_17 dX9_isCastle_1 kd_120 ln_120 rfl rfl ?_
  refine r_iconst (v := 0) dX9_isCastle_4 (by decide) ?_
  refine r_iald (j := 0) dX9_isCastle_5 kd_122 ln_122 (cI 0) (by omega) (by decide) ?_
  refine r_if_le (tgt := 13) dX9_isCastle_6 (by decide) (fun h6 => ?_) (fun h6 => ?_)
  · refine r_iconst (v := 0) dX9_isCastle_13 (by decide) ?_
    exact r_zret dX9_isCastle_14 rfl nar0 (by simp only [icB, bI, eq_self, Bool.false_eq_true, Bool.true_eq_false, if_true, if_false, reduceIte, true_and, and_true, false_and, and_false, true_or, or_true, false_or, or_false, not_true_eq_false, not_false_eq_true, Bool.not_true, Bool.not_false, Bool.true_and, Bool.and_true, Bool.false_and, Bool.and_false, decide_true, decide_false, h6]) (Nat.le_refl _) (Nat.le_refl _)
  · refine r_iconst (v := 1) dX9_isCastle_9 (by decide) ?_
    refine r_goto (tgt := 14) dX9_isCastle_10 (by decide) ?_
    exact r_zret dX9_isCastle_14 rfl nar1 (by simp only [icB, bI, eq_self, Bool.false_eq_true, Bool.true_eq_false, if_true, if_false, reduceIte, true_and, and_true, false_and, and_false, true_or, or_true, false_or, or_false, not_true_eq_false, not_false_eq_true, Bool.not_true, Bool.not_false, Bool.true_and, Bool.and_true, Bool.false_and, Bool.and_false, decide_true, decide_false, h6]) (Nat.le_refl _) (Nat.le_refl _)

set_option maxRecDepth 100000 in
set_option maxHeartbeats 4000000 in
theorem m_isWay {im : IM} {pl it : Nat} (hm : MA im) (x : Int32) : MT YX9_isWay 1 0 0 [.ref 120, .int x] 137 im (RR pl it) (some (.int (bI (inB x 0 (im 122 0 - 1)))), 137, im, RR pl it) := by
  obtain ⟨W, T, S, hW, hW8, hT, hT6, hS, hS5⟩ := id hm
  have htW : tn (im 122 0) = W := by rw [hW, tn_nI (by omega)]
  have htT : tn (im 122 1) = T := by rw [hT, tn_nI (by omega)]
  have htS : tn (im 122 2) = S := by rw [hS, tn_nI (by omega)]
  refine mt_of (by decide +kernel) (Nat.le_of_ble_eq_true rfl) ?_
  show WW _ _ _ _ _ _ _ 0 [(0, .ref 120), (1, .int x)] [] _ _ _
  refine r_iload_n dX9_isWay_0 rfl ?_
  refine r_iconst (v := 0) dX9_isWay_1 (by decide) ?_
  refine r_aload_n dX9_isWay_2 rfl ?_
  refine r_getr fl_X9_17 dX9_isWay_3 kd_120 ln_120 rfl rfl ?_
  refine r_iconst (v := 0) dX9_isWay_6 (by decide) ?_
  refine r_iald (j := 0) dX9_isWay_7 kd_122 ln_122 (cI 0) (by omega) (by decide) ?_
  refine r_iconst (v := 1) dX9_isWay_8 (by decide) ?_
  refine r_isub dX9_isWay_9 ?_
  refine r_S3s cv_X9_63 dX9_isWay_10 (m_in x 0 ((im 122 0) - 1)) ⟨by decide, by decide⟩ (Nat.le_of_ble_eq_true rfl) ⟨Nat.le_refl _, Nat.le_refl _⟩ ?_
  exact r_zret dX9_isWay_13 rfl (bI_nar _) rfl (Nat.le_refl _) (Nat.le_refl _)

set_option maxRecDepth 100000 in
set_option maxHeartbeats 4000000 in
theorem m_isTest {im : IM} {pl it : Nat} (hm : MA im) (x : Int32) : MT YX9_isTest 1 0 0 [.ref 120, .int x] 137 im (RR pl it) (some (.int (bI (inB x 0 (im 122 1 - 1)))), 137, im, RR pl it) := by
  obtain ⟨W, T, S, hW, hW8, hT, hT6, hS, hS5⟩ := id hm
  have htW : tn (im 122 0) = W := by rw [hW, tn_nI (by omega)]
  have htT : tn (im 122 1) = T := by rw [hT, tn_nI (by omega)]
  have htS : tn (im 122 2) = S := by rw [hS, tn_nI (by omega)]
  refine mt_of (by decide +kernel) (Nat.le_of_ble_eq_true rfl) ?_
  show WW _ _ _ _ _ _ _ 0 [(0, .ref 120), (1, .int x)] [] _ _ _
  refine r_iload_n dX9_isTest_0 rfl ?_
  refine r_iconst (v := 0) dX9_isTest_1 (by decide) ?_
  refine r_aload_n dX9_isTest_2 rfl ?_
  refine r_getr fl_X9_17 dX9_isTest_3 kd_120 ln_120 rfl rfl ?_
  refine r_iconst (v := 1) dX9_isTest_6 (by decide) ?_
  refine r_iald (j := 1) dX9_isTest_7 kd_122 ln_122 (cI 1) (by omega) (by decide) ?_
  refine r_iconst (v := 1) dX9_isTest_8 (by decide) ?_
  refine r_isub dX9_isTest_9 ?_
  refine r_S3s cv_X9_63 dX9_isTest_10 (m_in x 0 ((im 122 1) - 1)) ⟨by decide, by decide⟩ (Nat.le_of_ble_eq_true rfl) ⟨Nat.le_refl _, Nat.le_refl _⟩ ?_
  exact r_zret dX9_isTest_13 rfl (bI_nar _) rfl (Nat.le_refl _) (Nat.le_refl _)

set_option maxRecDepth 100000 in
set_option maxHeartbeats 4000000 in
theorem m_isServant {im : IM} {pl it : Nat} (hm : MA im) (x : Int32) : MT YX9_isServant 1 0 0 [.ref 120, .int x] 137 im (RR pl it) (some (.int (bI (inB x 0 (im 122 2 - 1)))), 137, im, RR pl it) := by
  obtain ⟨W, T, S, hW, hW8, hT, hT6, hS, hS5⟩ := id hm
  have htW : tn (im 122 0) = W := by rw [hW, tn_nI (by omega)]
  have htT : tn (im 122 1) = T := by rw [hT, tn_nI (by omega)]
  have htS : tn (im 122 2) = S := by rw [hS, tn_nI (by omega)]
  refine mt_of (by decide +kernel) (Nat.le_of_ble_eq_true rfl) ?_
  show WW _ _ _ _ _ _ _ 0 [(0, .ref 120), (1, .int x)] [] _ _ _
  refine r_iload_n dX9_isServant_0 rfl ?_
  refine r_iconst (v := 0) dX9_isServant_1 (by decide) ?_
  refine r_aload_n dX9_isServant_2 rfl ?_
  refine r_getr fl_X9_17 dX9_isServant_3 kd_120 ln_120 rfl rfl ?_
  refine r_iconst (v := 2) dX9_isServant_6 (by decide) ?_
  refine r_iald (j := 2) dX9_isServant_7 kd_122 ln_122 (cI 2) (by omega) (by decide) ?_
  refine r_iconst (v := 1) dX9_isServant_8 (by decide) ?_
  refine r_isub dX9_isServant_9 ?_
  refine r_S3s cv_X9_63 dX9_isServant_10 (m_in x 0 ((im 122 2) - 1)) ⟨by decide, by decide⟩ (Nat.le_of_ble_eq_true rfl) ⟨Nat.le_refl _, Nat.le_refl _⟩ ?_
  exact r_zret dX9_isServant_13 rfl (bI_nar _) rfl (Nat.le_refl _) (Nat.le_refl _)

set_option maxRecDepth 100000 in
set_option maxHeartbeats 4000000 in
theorem m_areWays {im : IM} {pl it : Nat} (hm : MA im) (x : Int32) : MT YX9_areWays 1 0 0 [.ref 120, .int x] 137 im (RR pl it) (some (.int (bI (inB x 0 (alS (im 122 0))))), 137, im, RR pl it) := by
  obtain ⟨W, T, S, hW, hW8, hT, hT6, hS, hS5⟩ := id hm
  have htW : tn (im 122 0) = W := by rw [hW, tn_nI (by omega)]
  have htT : tn (im 122 1) = T := by rw [hT, tn_nI (by omega)]
  have htS : tn (im 122 2) = S := by rw [hS, tn_nI (by omega)]
  refine mt_of (by decide +kernel) (Nat.le_of_ble_eq_true rfl) ?_
  show WW _ _ _ _ _ _ _ 0 [(0, .ref 120), (1, .int x)] [] _ _ _
  refine r_iload_n dX9_areWays_0 rfl ?_
  refine r_iconst (v := 0) dX9_areWays_1 (by decide) ?_
  refine r_aload_n dX9_areWays_2 rfl ?_
  refine r_getr fl_X9_17 dX9_areWays_3 kd_120 ln_120 rfl rfl ?_
  refine r_iconst (v := 0) dX9_areWays_6 (by decide) ?_
  refine r_iald (j := 0) dX9_areWays_7 kd_122 ln_122 (cI 0) (by omega) (by decide) ?_
  refine r_S1s cv_X9_100 dX9_areWays_8 (m_allOf (im 122 0)) ⟨by decide, by decide⟩ (Nat.le_of_ble_eq_true rfl) ⟨Nat.le_refl _, Nat.le_refl _⟩ ?_
  refine r_S3s cv_X9_63 dX9_areWays_11 (m_in x 0 (alS (im 122 0))) ⟨by decide, by decide⟩ (Nat.le_of_ble_eq_true rfl) ⟨Nat.le_refl _, Nat.le_refl _⟩ ?_
  exact r_zret dX9_areWays_14 rfl (bI_nar _) rfl (Nat.le_refl _) (Nat.le_refl _)

set_option maxRecDepth 100000 in
set_option maxHeartbeats 4000000 in
theorem m_leftBy {im : IM} {pl it : Nat} (hm : MA im) (made : Int32) : MT YX9_leftBy 1 0 0 [.ref 120, .int made] 137 im (RR pl it) (some (.int (lfM im made)), 137, im, RR pl it) := by
  obtain ⟨W, T, S, hW, hW8, hT, hT6, hS, hS5⟩ := id hm
  have htW : tn (im 122 0) = W := by rw [hW, tn_nI (by omega)]
  have htT : tn (im 122 1) = T := by rw [hT, tn_nI (by omega)]
  have htS : tn (im 122 2) = S := by rw [hS, tn_nI (by omega)]
  refine mt_of (by decide +kernel) (Nat.le_of_ble_eq_true rfl) ?_
  show WW _ _ _ _ _ _ _ 0 [(0, .ref 120), (1, .int made)] [] _ _ _
  refine r_iconst (v := 0) dX9_leftBy_0 (by decide) ?_
  refine r_istore_n dX9_leftBy_1 (by decide) ?_
  refine r_iconst (v := 0) dX9_leftBy_2 (by decide) ?_
  refine r_istore_n dX9_leftBy_3 (by decide) ?_
  refine r_lv (lv' := [(0, .ref 120), (1, .int made), (2, .int (orF (ruM im) made 0)), (3, .int (nI 0))]) (al_cons rfl (al_cons rfl (al_int rfl rfl (al_int rfl (by exact (cI 0)) al_nil)))) ?_
  refine WW.loop (fun t => [(0, .ref 120), (1, .int made), (2, .int (orF (ruM im) made t)), (3, .int (nI t))]) (fun _ => im) (N := T) ?_ ?_ 0 (Nat.zero_le _)
  · show WW _ _ _ _ _ _ _ 4 [(0, .ref 120), (1, .int made), (2, .int (orF (ruM im) made T)), (3, .int (nI T))] _ _ _ _
    refine r_iload_n dX9_leftBy_4 rfl ?_
    refine r_aload_n dX9_leftBy_5 rfl ?_
    refine r_getr fl_X9_17 dX9_leftBy_6 kd_120 ln_120 rfl rfl ?_
    refine r_iconst (v := 1) dX9_leftBy_9 (by decide) ?_
    refine r_iald (j := 1) dX9_leftBy_10 kd_122 ln_122 (cI 1) (by omega) (by decide) ?_
    refine r_icmp_ge_t (tgt := 43) dX9_leftBy_11 (by decide) (ix_le hT rfl (by omega) (by omega)) ?_
    refine r_aload_n dX9_leftBy_43 rfl ?_
    refine r_getr fl_X9_17 dX9_leftBy_44 kd_120 ln_120 rfl rfl ?_
    refine r_iconst (v := 0) dX9_leftBy_47 (by decide) ?_
    refine r_iald (j := 0) dX9_leftBy_48 kd_122 ln_122 (cI 0) (by omega) (by decide) ?_
    refine r_S1s cv_X9_100 dX9_leftBy_49 (m_allOf (im 122 0)) ⟨by decide, by decide⟩ (Nat.le_of_ble_eq_true rfl) ⟨Nat.le_refl _, Nat.le_refl _⟩ ?_
    refine r_iload_n dX9_leftBy_52 rfl ?_
    refine r_iconst (v := (-1)) dX9_leftBy_53 (by decide) ?_
    refine r_ixor dX9_leftBy_54 ?_
    refine r_iand dX9_leftBy_55 ?_
    exact r_iret dX9_leftBy_56 rfl (by rw [lfM, lfS, htT]) (Nat.le_refl _) (Nat.le_refl _)
  · intro t ht iht
    show WW _ _ _ _ _ _ _ 4 [(0, .ref 120), (1, .int made), (2, .int (orF (ruM im) made t)), (3, .int (nI t))] _ _ _ _
    refine r_iload_n dX9_leftBy_4 rfl ?_
    refine r_aload_n dX9_leftBy_5 rfl ?_
    refine r_getr fl_X9_17 dX9_leftBy_6 kd_120 ln_120 rfl rfl ?_
    refine r_iconst (v := 1) dX9_leftBy_9 (by decide) ?_
    refine r_iald (j := 1) dX9_leftBy_10 kd_122 ln_122 (cI 1) (by omega) (by decide) ?_
    refine r_icmp_ge_f (tgt := 43) dX9_leftBy_11 (by decide) (ix_nle hT rfl (by omega) (by omega)) ?_
    refine r_iload_n dX9_leftBy_14 rfl ?_
    refine r_iload_n dX9_leftBy_15 rfl ?_
    refine r_iload_n dX9_leftBy_16 rfl ?_
    refine r_S2s cv_X9_135 dX9_leftBy_17 (m_has made (nI t)) ⟨by decide, by decide⟩ (Nat.le_of_ble_eq_true rfl) ⟨Nat.le_refl _, Nat.le_refl _⟩ ?_
    refine r_bz_eq (tgt := 34) dX9_leftBy_20 (by decide) (fun h20 => ?_) (fun h20 => ?_)
    · refine r_iconst (v := 0) dX9_leftBy_34 (by decide) ?_
      refine r_ior dX9_leftBy_35 ?_
      refine r_istore_n dX9_leftBy_36 (by decide) ?_
      refine r_iinc dX9_leftBy_37 rfl (by decide) (ix_inc rfl) ?_
      refine r_goto (tgt := 4) dX9_leftBy_40 (by decide) ?_
      refine r_lv (lv' := [(0, .ref 120), (1, .int made), (2, .int (orF (ruM im) made (t + 1))), (3, .int (nI (t + 1)))]) (al_cons rfl (al_cons rfl (al_int rfl (by simp only [orF, or0, ruM, eq_self, Bool.false_eq_true, Bool.true_eq_false, if_true, if_false, reduceIte, true_and, and_true, false_and, and_false, true_or, or_true, false_or, or_false, not_true_eq_false, not_false_eq_true, Bool.not_true, Bool.not_false, Bool.true_and, Bool.and_true, Bool.false_and, Bool.and_false, decide_true, decide_false, h20]; try rfl) (al_cons rfl al_nil)))) ?_
      exact iht
    · refine r_aload_n dX9_leftBy_23 rfl ?_
      refine r_getr fl_X9_23 dX9_leftBy_24 kd_120 ln_120 rfl rfl ?_
      refine r_iconst (v := 3) dX9_leftBy_27 (by decide) ?_
      refine r_iload_n dX9_leftBy_28 rfl ?_
      refine r_imul dX9_leftBy_29 ?_
      refine r_iald (j := 3 * t) dX9_leftBy_30 kd_124 ln_124 (ix_mul (cI 3) rfl) (by omega) (by decide) ?_
      refine r_goto (tgt := 35) dX9_leftBy_31 (by decide) ?_
      refine r_ior dX9_leftBy_35 ?_
      refine r_istore_n dX9_leftBy_36 (by decide) ?_
      refine r_iinc dX9_leftBy_37 rfl (by decide) (ix_inc rfl) ?_
      refine r_goto (tgt := 4) dX9_leftBy_40 (by decide) ?_
      refine r_lv (lv' := [(0, .ref 120), (1, .int made), (2, .int (orF (ruM im) made (t + 1))), (3, .int (nI (t + 1)))]) (al_cons rfl (al_cons rfl (al_int rfl (by simp only [orF, or0, ruM, eq_self, Bool.false_eq_true, Bool.true_eq_false, if_true, if_false, reduceIte, true_and, and_true, false_and, and_false, true_or, or_true, false_or, or_false, not_true_eq_false, not_false_eq_true, Bool.not_true, Bool.not_false, Bool.true_and, Bool.and_true, Bool.false_and, Bool.and_false, decide_true, decide_false, h20]; try rfl) (al_cons rfl al_nil)))) ?_
      exact iht

set_option maxRecDepth 100000 in
set_option maxHeartbeats 4000000 in
theorem m_shownBy {im : IM} {pl it : Nat} (hm : MA im) (made : Int32) : MT YX9_shownBy 1 0 0 [.ref 120, .int made] 137 im (RR pl it) (some (.int (swM im made)), 137, im, RR pl it) := by
  obtain ⟨W, T, S, hW, hW8, hT, hT6, hS, hS5⟩ := id hm
  have htW : tn (im 122 0) = W := by rw [hW, tn_nI (by omega)]
  have htT : tn (im 122 1) = T := by rw [hT, tn_nI (by omega)]
  have htS : tn (im 122 2) = S := by rw [hS, tn_nI (by omega)]
  refine mt_of (by decide +kernel) (Nat.le_of_ble_eq_true rfl) ?_
  show WW _ _ _ _ _ _ _ 0 [(0, .ref 120), (1, .int made)] [] _ _ _
  refine r_iconst (v := 0) dX9_shownBy_0 (by decide) ?_
  refine r_istore_n dX9_shownBy_1 (by decide) ?_
  refine r_iconst (v := 0) dX9_shownBy_2 (by decide) ?_
  refine r_istore_n dX9_shownBy_3 (by decide) ?_
  refine r_lv (lv' := [(0, .ref 120), (1, .int made), (2, .int (orF (shM im) made 0)), (3, .int (nI 0))]) (al_cons rfl (al_cons rfl (al_int rfl rfl (al_int rfl (by exact (cI 0)) al_nil)))) ?_
  refine WW.loop (fun t => [(0, .ref 120), (1, .int made), (2, .int (orF (shM im) made t)), (3, .int (nI t))]) (fun _ => im) (N := T) ?_ ?_ 0 (Nat.zero_le _)
  · show WW _ _ _ _ _ _ _ 4 [(0, .ref 120), (1, .int made), (2, .int (orF (shM im) made T)), (3, .int (nI T))] _ _ _ _
    refine r_iload_n dX9_shownBy_4 rfl ?_
    refine r_aload_n dX9_shownBy_5 rfl ?_
    refine r_getr fl_X9_17 dX9_shownBy_6 kd_120 ln_120 rfl rfl ?_
    refine r_iconst (v := 1) dX9_shownBy_9 (by decide) ?_
    refine r_iald (j := 1) dX9_shownBy_10 kd_122 ln_122 (cI 1) (by omega) (by decide) ?_
    refine r_icmp_ge_t (tgt := 45) dX9_shownBy_11 (by decide) (ix_le hT rfl (by omega) (by omega)) ?_
    refine r_iload_n dX9_shownBy_45 rfl ?_
    exact r_iret dX9_shownBy_46 rfl (by rw [swM, htT]) (Nat.le_refl _) (Nat.le_refl _)
  · intro t ht iht
    show WW _ _ _ _ _ _ _ 4 [(0, .ref 120), (1, .int made), (2, .int (orF (shM im) made t)), (3, .int (nI t))] _ _ _ _
    refine r_iload_n dX9_shownBy_4 rfl ?_
    refine r_aload_n dX9_shownBy_5 rfl ?_
    refine r_getr fl_X9_17 dX9_shownBy_6 kd_120 ln_120 rfl rfl ?_
    refine r_iconst (v := 1) dX9_shownBy_9 (by decide) ?_
    refine r_iald (j := 1) dX9_shownBy_10 kd_122 ln_122 (cI 1) (by omega) (by decide) ?_
    refine r_icmp_ge_f (tgt := 45) dX9_shownBy_11 (by decide) (ix_nle hT rfl (by omega) (by omega)) ?_
    refine r_iload_n dX9_shownBy_14 rfl ?_
    refine r_iload_n dX9_shownBy_15 rfl ?_
    refine r_iload_n dX9_shownBy_16 rfl ?_
    refine r_S2s cv_X9_135 dX9_shownBy_17 (m_has made (nI t)) ⟨by decide, by decide⟩ (Nat.le_of_ble_eq_true rfl) ⟨Nat.le_refl _, Nat.le_refl _⟩ ?_
    refine r_bz_eq (tgt := 36) dX9_shownBy_20 (by decide) (fun h20 => ?_) (fun h20 => ?_)
    · refine r_iconst (v := 0) dX9_shownBy_36 (by decide) ?_
      refine r_ior dX9_shownBy_37 ?_
      refine r_istore_n dX9_shownBy_38 (by decide) ?_
      refine r_iinc dX9_shownBy_39 rfl (by decide) (ix_inc rfl) ?_
      refine r_goto (tgt := 4) dX9_shownBy_42 (by decide) ?_
      refine r_lv (lv' := [(0, .ref 120), (1, .int made), (2, .int (orF (shM im) made (t + 1))), (3, .int (nI (t + 1)))]) (al_cons rfl (al_cons rfl (al_int rfl (by simp only [orF, or0, shM, eq_self, Bool.false_eq_true, Bool.true_eq_false, if_true, if_false, reduceIte, true_and, and_true, false_and, and_false, true_or, or_true, false_or, or_false, not_true_eq_false, not_false_eq_true, Bool.not_true, Bool.not_false, Bool.true_and, Bool.and_true, Bool.false_and, Bool.and_false, decide_true, decide_false, h20]; try rfl) (al_cons rfl al_nil)))) ?_
      exact iht
    · refine r_aload_n dX9_shownBy_23 rfl ?_
      refine r_getr fl_X9_23 dX9_shownBy_24 kd_120 ln_120 rfl rfl ?_
      refine r_iconst (v := 3) dX9_shownBy_27 (by decide) ?_
      refine r_iload_n dX9_shownBy_28 rfl ?_
      refine r_imul dX9_shownBy_29 ?_
      refine r_iconst (v := 1) dX9_shownBy_30 (by decide) ?_
      refine r_iadd dX9_shownBy_31 ?_
      refine r_iald (j := (3 * t) + 1) dX9_shownBy_32 kd_124 ln_124 (ix_add (ix_mul (cI 3) rfl) (cI 1)) (by omega) (by decide) ?_
      refine r_goto (tgt := 37) dX9_shownBy_33 (by decide) ?_
      refine r_ior dX9_shownBy_37 ?_
      refine r_istore_n dX9_shownBy_38 (by decide) ?_
      refine r_iinc dX9_shownBy_39 rfl (by decide) (ix_inc rfl) ?_
      refine r_goto (tgt := 4) dX9_shownBy_42 (by decide) ?_
      refine r_lv (lv' := [(0, .ref 120), (1, .int made), (2, .int (orF (shM im) made (t + 1))), (3, .int (nI (t + 1)))]) (al_cons rfl (al_cons rfl (al_int rfl (by simp only [orF, or0, shM, eq_self, Bool.false_eq_true, Bool.true_eq_false, if_true, if_false, reduceIte, true_and, and_true, false_and, and_false, true_or, or_true, false_or, or_false, not_true_eq_false, not_false_eq_true, Bool.not_true, Bool.not_false, Bool.true_and, Bool.and_true, Bool.false_and, Bool.and_false, decide_true, decide_false, h20]; try rfl) (al_cons rfl al_nil)))) ?_
      exact iht

set_option maxRecDepth 100000 in
set_option maxHeartbeats 4000000 in
theorem m_likelyIn {im : IM} {pl it : Nat} (hm : MA im) (made : Int32) : MT YX9_likelyIn 1 0 0 [.ref 120, .int made] 137 im (RR pl it) (some (.int (smF (im 123) made (tn (im 122 0)))), 137, im, RR pl it) := by
  obtain ⟨W, T, S, hW, hW8, hT, hT6, hS, hS5⟩ := id hm
  have htW : tn (im 122 0) = W := by rw [hW, tn_nI (by omega)]
  have htT : tn (im 122 1) = T := by rw [hT, tn_nI (by omega)]
  have htS : tn (im 122 2) = S := by rw [hS, tn_nI (by omega)]
  refine mt_of (by decide +kernel) (Nat.le_of_ble_eq_true rfl) ?_
  show WW _ _ _ _ _ _ _ 0 [(0, .ref 120), (1, .int made)] [] _ _ _
  refine r_iconst (v := 0) dX9_likelyIn_0 (by decide) ?_
  refine r_istore_n dX9_likelyIn_1 (by decide) ?_
  refine r_iconst (v := 0) dX9_likelyIn_2 (by decide) ?_
  refine r_istore_n dX9_likelyIn_3 (by decide) ?_
  refine r_lv (lv' := [(0, .ref 120), (1, .int made), (2, .int (smF (im 123) made 0)), (3, .int (nI 0))]) (al_cons rfl (al_cons rfl (al_int rfl rfl (al_int rfl (by exact (cI 0)) al_nil)))) ?_
  refine WW.loop (fun t => [(0, .ref 120), (1, .int made), (2, .int (smF (im 123) made t)), (3, .int (nI t))]) (fun _ => im) (N := W) ?_ ?_ 0 (Nat.zero_le _)
  · show WW _ _ _ _ _ _ _ 4 [(0, .ref 120), (1, .int made), (2, .int (smF (im 123) made W)), (3, .int (nI W))] _ _ _ _
    refine r_iload_n dX9_likelyIn_4 rfl ?_
    refine r_aload_n dX9_likelyIn_5 rfl ?_
    refine r_getr fl_X9_17 dX9_likelyIn_6 kd_120 ln_120 rfl rfl ?_
    refine r_iconst (v := 0) dX9_likelyIn_9 (by decide) ?_
    refine r_iald (j := 0) dX9_likelyIn_10 kd_122 ln_122 (cI 0) (by omega) (by decide) ?_
    refine r_icmp_ge_t (tgt := 41) dX9_likelyIn_11 (by decide) (ix_le hW rfl (by omega) (by omega)) ?_
    refine r_iload_n dX9_likelyIn_41 rfl ?_
    exact r_iret dX9_likelyIn_42 rfl (by rw [htW]) (Nat.le_refl _) (Nat.le_refl _)
  · intro t ht iht
    show WW _ _ _ _ _ _ _ 4 [(0, .ref 120), (1, .int made), (2, .int (smF (im 123) made t)), (3, .int (nI t))] _ _ _ _
    refine r_iload_n dX9_likelyIn_4 rfl ?_
    refine r_aload_n dX9_likelyIn_5 rfl ?_
    refine r_getr fl_X9_17 dX9_likelyIn_6 kd_120 ln_120 rfl rfl ?_
    refine r_iconst (v := 0) dX9_likelyIn_9 (by decide) ?_
    refine r_iald (j := 0) dX9_likelyIn_10 kd_122 ln_122 (cI 0) (by omega) (by decide) ?_
    refine r_icmp_ge_f (tgt := 41) dX9_likelyIn_11 (by decide) (ix_nle hW rfl (by omega) (by omega)) ?_
    refine r_iload_n dX9_likelyIn_14 rfl ?_
    refine r_iload_n dX9_likelyIn_15 rfl ?_
    refine r_iload_n dX9_likelyIn_16 rfl ?_
    refine r_S2s cv_X9_135 dX9_likelyIn_17 (m_has made (nI t)) ⟨by decide, by decide⟩ (Nat.le_of_ble_eq_true rfl) ⟨Nat.le_refl _, Nat.le_refl _⟩ ?_
    refine r_bz_eq (tgt := 32) dX9_likelyIn_20 (by decide) (fun h20 => ?_) (fun h20 => ?_)
    · refine r_iconst (v := 0) dX9_likelyIn_32 (by decide) ?_
      refine r_iadd dX9_likelyIn_33 ?_
      refine r_istore_n dX9_likelyIn_34 (by decide) ?_
      refine r_iinc dX9_likelyIn_35 rfl (by decide) (ix_inc rfl) ?_
      refine r_goto (tgt := 4) dX9_likelyIn_38 (by decide) ?_
      refine r_lv (lv' := [(0, .ref 120), (1, .int made), (2, .int (smF (im 123) made (t + 1))), (3, .int (nI (t + 1)))]) (al_cons rfl (al_cons rfl (al_int rfl (by simp only [smF, ad0, eq_self, Bool.false_eq_true, Bool.true_eq_false, if_true, if_false, reduceIte, true_and, and_true, false_and, and_false, true_or, or_true, false_or, or_false, not_true_eq_false, not_false_eq_true, Bool.not_true, Bool.not_false, Bool.true_and, Bool.and_true, Bool.false_and, Bool.and_false, decide_true, decide_false, h20]; try rfl) (al_cons rfl al_nil)))) ?_
      exact iht
    · refine r_aload_n dX9_likelyIn_23 rfl ?_
      refine r_getr fl_X9_20 dX9_likelyIn_24 kd_120 ln_120 rfl rfl ?_
      refine r_iload_n dX9_likelyIn_27 rfl ?_
      refine r_iald (j := t) dX9_likelyIn_28 kd_123 ln_123 rfl (by omega) (by decide) ?_
      refine r_goto (tgt := 33) dX9_likelyIn_29 (by decide) ?_
      refine r_iadd dX9_likelyIn_33 ?_
      refine r_istore_n dX9_likelyIn_34 (by decide) ?_
      refine r_iinc dX9_likelyIn_35 rfl (by decide) (ix_inc rfl) ?_
      refine r_goto (tgt := 4) dX9_likelyIn_38 (by decide) ?_
      refine r_lv (lv' := [(0, .ref 120), (1, .int made), (2, .int (smF (im 123) made (t + 1))), (3, .int (nI (t + 1)))]) (al_cons rfl (al_cons rfl (al_int rfl (by simp only [smF, ad0, eq_self, Bool.false_eq_true, Bool.true_eq_false, if_true, if_false, reduceIte, true_and, and_true, false_and, and_false, true_or, or_true, false_or, or_false, not_true_eq_false, not_false_eq_true, Bool.not_true, Bool.not_false, Bool.true_and, Bool.and_true, Bool.false_and, Bool.and_false, decide_true, decide_false, h20]; try rfl) (al_cons rfl al_nil)))) ?_
      exact iht

set_option maxRecDepth 100000 in
set_option maxHeartbeats 4000000 in
theorem m_costOf {im : IM} {pl it : Nat} (hm : MA im) (made : Int32) : MT YX9_costOf 1 0 0 [.ref 120, .int made] 137 im (RR pl it) (some (.int (csM im made)), 137, im, RR pl it) := by
  obtain ⟨W, T, S, hW, hW8, hT, hT6, hS, hS5⟩ := id hm
  have htW : tn (im 122 0) = W := by rw [hW, tn_nI (by omega)]
  have htT : tn (im 122 1) = T := by rw [hT, tn_nI (by omega)]
  have htS : tn (im 122 2) = S := by rw [hS, tn_nI (by omega)]
  refine mt_of (by decide +kernel) (Nat.le_of_ble_eq_true rfl) ?_
  show WW _ _ _ _ _ _ _ 0 [(0, .ref 120), (1, .int made)] [] _ _ _
  refine r_iconst (v := 0) dX9_costOf_0 (by decide) ?_
  refine r_istore_n dX9_costOf_1 (by decide) ?_
  refine r_iconst (v := 0) dX9_costOf_2 (by decide) ?_
  refine r_istore_n dX9_costOf_3 (by decide) ?_
  refine r_lv (lv' := [(0, .ref 120), (1, .int made), (2, .int (smF (coM im) (made &&& (im 130 4 ^^^ (-1))) 0)), (3, .int (nI 0))]) (al_cons rfl (al_cons rfl (al_int rfl rfl (al_int rfl (by exact (cI 0)) al_nil)))) ?_
  refine WW.loop (fun t => [(0, .ref 120), (1, .int made), (2, .int (smF (coM im) (made &&& (im 130 4 ^^^ (-1))) t)), (3, .int (nI t))]) (fun _ => im) (N := T) ?_ ?_ 0 (Nat.zero_le _)
  · show WW _ _ _ _ _ _ _ 4 [(0, .ref 120), (1, .int made), (2, .int (smF (coM im) (made &&& (im 130 4 ^^^ (-1))) T)), (3, .int (nI T))] _ _ _ _
    refine r_iload_n dX9_costOf_4 rfl ?_
    refine r_aload_n dX9_costOf_5 rfl ?_
    refine r_getr fl_X9_17 dX9_costOf_6 kd_120 ln_120 rfl rfl ?_
    refine r_iconst (v := 1) dX9_costOf_9 (by decide) ?_
    refine r_iald (j := 1) dX9_costOf_10 kd_122 ln_122 (cI 1) (by omega) (by decide) ?_
    refine r_icmp_ge_t (tgt := 54) dX9_costOf_11 (by decide) (ix_le hT rfl (by omega) (by omega)) ?_
    refine r_iload_n dX9_costOf_54 rfl ?_
    exact r_iret dX9_costOf_55 rfl (by rw [csM, htT]) (Nat.le_refl _) (Nat.le_refl _)
  · intro t ht iht
    show WW _ _ _ _ _ _ _ 4 [(0, .ref 120), (1, .int made), (2, .int (smF (coM im) (made &&& (im 130 4 ^^^ (-1))) t)), (3, .int (nI t))] _ _ _ _
    refine r_iload_n dX9_costOf_4 rfl ?_
    refine r_aload_n dX9_costOf_5 rfl ?_
    refine r_getr fl_X9_17 dX9_costOf_6 kd_120 ln_120 rfl rfl ?_
    refine r_iconst (v := 1) dX9_costOf_9 (by decide) ?_
    refine r_iald (j := 1) dX9_costOf_10 kd_122 ln_122 (cI 1) (by omega) (by decide) ?_
    refine r_icmp_ge_f (tgt := 54) dX9_costOf_11 (by decide) (ix_nle hT rfl (by omega) (by omega)) ?_
    refine r_iload_n dX9_costOf_14 rfl ?_
    refine r_iload_n dX9_costOf_15 rfl ?_
    refine r_aload_n dX9_costOf_16 rfl ?_
    refine r_getr fl_X9_41 dX9_costOf_17 kd_120 ln_120 rfl rfl ?_
    refine r_iconst (v := 4) dX9_costOf_20 (by decide) ?_
    refine r_iald (j := 4) dX9_costOf_21 kd_130 ln_130 (cI 4) (by omega) (by decide) ?_
    refine r_iconst (v := (-1)) dX9_costOf_22 (by decide) ?_
    refine r_ixor dX9_costOf_23 ?_
    refine r_iand dX9_costOf_24 ?_
    refine r_iload_n dX9_costOf_25 rfl ?_
    refine r_S2s cv_X9_135 dX9_costOf_26 (m_has (made &&& ((im 130 4) ^^^ (-1))) (nI t)) ⟨by decide, by decide⟩ (Nat.le_of_ble_eq_true rfl) ⟨Nat.le_refl _, Nat.le_refl _⟩ ?_
    refine r_bz_eq (tgt := 45) dX9_costOf_29 (by decide) (fun h29 => ?_) (fun h29 => ?_)
    · refine r_iconst (v := 0) dX9_costOf_45 (by decide) ?_
      refine r_iadd dX9_costOf_46 ?_
      refine r_istore_n dX9_costOf_47 (by decide) ?_
      refine r_iinc dX9_costOf_48 rfl (by decide) (ix_inc rfl) ?_
      refine r_goto (tgt := 4) dX9_costOf_51 (by decide) ?_
      refine r_lv (lv' := [(0, .ref 120), (1, .int made), (2, .int (smF (coM im) (made &&& (im 130 4 ^^^ (-1))) (t + 1))), (3, .int (nI (t + 1)))]) (al_cons rfl (al_cons rfl (al_int rfl (by simp only [smF, ad0, coM, eq_self, Bool.false_eq_true, Bool.true_eq_false, if_true, if_false, reduceIte, true_and, and_true, false_and, and_false, true_or, or_true, false_or, or_false, not_true_eq_false, not_false_eq_true, Bool.not_true, Bool.not_false, Bool.true_and, Bool.and_true, Bool.false_and, Bool.and_false, decide_true, decide_false, h29]; try rfl) (al_cons rfl al_nil)))) ?_
      exact iht
    · refine r_aload_n dX9_costOf_32 rfl ?_
      refine r_getr fl_X9_23 dX9_costOf_33 kd_120 ln_120 rfl rfl ?_
      refine r_iconst (v := 3) dX9_costOf_36 (by decide) ?_
      refine r_iload_n dX9_costOf_37 rfl ?_
      refine r_imul dX9_costOf_38 ?_
      refine r_iconst (v := 2) dX9_costOf_39 (by decide) ?_
      refine r_iadd dX9_costOf_40 ?_
      refine r_iald (j := (3 * t) + 2) dX9_costOf_41 kd_124 ln_124 (ix_add (ix_mul (cI 3) rfl) (cI 2)) (by omega) (by decide) ?_
      refine r_goto (tgt := 46) dX9_costOf_42 (by decide) ?_
      refine r_iadd dX9_costOf_46 ?_
      refine r_istore_n dX9_costOf_47 (by decide) ?_
      refine r_iinc dX9_costOf_48 rfl (by decide) (ix_inc rfl) ?_
      refine r_goto (tgt := 4) dX9_costOf_51 (by decide) ?_
      refine r_lv (lv' := [(0, .ref 120), (1, .int made), (2, .int (smF (coM im) (made &&& (im 130 4 ^^^ (-1))) (t + 1))), (3, .int (nI (t + 1)))]) (al_cons rfl (al_cons rfl (al_int rfl (by simp only [smF, ad0, coM, eq_self, Bool.false_eq_true, Bool.true_eq_false, if_true, if_false, reduceIte, true_and, and_true, false_and, and_false, true_or, or_true, false_or, or_false, not_true_eq_false, not_false_eq_true, Bool.not_true, Bool.not_false, Bool.true_and, Bool.and_true, Bool.false_and, Bool.and_false, decide_true, decide_false, h29]; try rfl) (al_cons rfl al_nil)))) ?_
      exact iht

set_option maxRecDepth 100000 in
set_option maxHeartbeats 4000000 in
theorem m_liarsBy {im : IM} {pl it : Nat} (hm : MA im) (w : Int32) : MT YX9_liarsBy 1 0 0 [.ref 120, .int w] 137 im (RR pl it) (some (.int (lrM im w)), 137, im, RR pl it) := by
  obtain ⟨W, T, S, hW, hW8, hT, hT6, hS, hS5⟩ := id hm
  have htW : tn (im 122 0) = W := by rw [hW, tn_nI (by omega)]
  have htT : tn (im 122 1) = T := by rw [hT, tn_nI (by omega)]
  have htS : tn (im 122 2) = S := by rw [hS, tn_nI (by omega)]
  refine mt_of (by decide +kernel) (Nat.le_of_ble_eq_true rfl) ?_
  show WW _ _ _ _ _ _ _ 0 [(0, .ref 120), (1, .int w)] [] _ _ _
  refine r_iconst (v := 0) dX9_liarsBy_0 (by decide) ?_
  refine r_istore_n dX9_liarsBy_1 (by decide) ?_
  refine r_iconst (v := 0) dX9_liarsBy_2 (by decide) ?_
  refine r_istore_n dX9_liarsBy_3 (by decide) ?_
  refine r_lv (lv' := [(0, .ref 120), (1, .int w), (2, .int (lrF (saM im) w 0)), (3, .int (nI 0))]) (al_cons rfl (al_cons rfl (al_int rfl rfl (al_int rfl (by exact (cI 0)) al_nil)))) ?_
  refine WW.loop (fun t => [(0, .ref 120), (1, .int w), (2, .int (lrF (saM im) w t)), (3, .int (nI t))]) (fun _ => im) (N := S) ?_ ?_ 0 (Nat.zero_le _)
  · show WW _ _ _ _ _ _ _ 4 [(0, .ref 120), (1, .int w), (2, .int (lrF (saM im) w S)), (3, .int (nI S))] _ _ _ _
    refine r_iload_n dX9_liarsBy_4 rfl ?_
    refine r_aload_n dX9_liarsBy_5 rfl ?_
    refine r_getr fl_X9_17 dX9_liarsBy_6 kd_120 ln_120 rfl rfl ?_
    refine r_iconst (v := 2) dX9_liarsBy_9 (by decide) ?_
    refine r_iald (j := 2) dX9_liarsBy_10 kd_122 ln_122 (cI 2) (by omega) (by decide) ?_
    refine r_icmp_ge_t (tgt := 48) dX9_liarsBy_11 (by decide) (ix_le hS rfl (by omega) (by omega)) ?_
    refine r_iload_n dX9_liarsBy_48 rfl ?_
    exact r_iret dX9_liarsBy_49 rfl (by rw [lrM, htS]) (Nat.le_refl _) (Nat.le_refl _)
  · intro t ht iht
    show WW _ _ _ _ _ _ _ 4 [(0, .ref 120), (1, .int w), (2, .int (lrF (saM im) w t)), (3, .int (nI t))] _ _ _ _
    refine r_iload_n dX9_liarsBy_4 rfl ?_
    refine r_aload_n dX9_liarsBy_5 rfl ?_
    refine r_getr fl_X9_17 dX9_liarsBy_6 kd_120 ln_120 rfl rfl ?_
    refine r_iconst (v := 2) dX9_liarsBy_9 (by decide) ?_
    refine r_iald (j := 2) dX9_liarsBy_10 kd_122 ln_122 (cI 2) (by omega) (by decide) ?_
    refine r_icmp_ge_f (tgt := 48) dX9_liarsBy_11 (by decide) (ix_nle hS rfl (by omega) (by omega)) ?_
    refine r_iload_n dX9_liarsBy_14 rfl ?_
    refine r_aload_n dX9_liarsBy_15 rfl ?_
    refine r_getr fl_X9_41 dX9_liarsBy_16 kd_120 ln_120 rfl rfl ?_
    refine r_bipush (v := 6) dX9_liarsBy_19 (by decide) ?_
    refine r_iconst (v := 3) dX9_liarsBy_21 (by decide) ?_
    refine r_iload_n dX9_liarsBy_22 rfl ?_
    refine r_imul dX9_liarsBy_23 ?_
    refine r_iadd dX9_liarsBy_24 ?_
    refine r_iald (j := 6 + (3 * t)) dX9_liarsBy_25 kd_130 ln_130 (ix_add (cI 6) (ix_mul (cI 3) rfl)) (by omega) (by decide) ?_
    refine r_iload_n dX9_liarsBy_26 rfl ?_
    refine r_S2s cv_X9_135 dX9_liarsBy_27 (m_has (im 130 (6 + (3 * t))) w) ⟨by decide, by decide⟩ (Nat.le_of_ble_eq_true rfl) ⟨Nat.le_refl _, Nat.le_refl _⟩ ?_
    refine r_bz_eq (tgt := 37) dX9_liarsBy_30 (by decide) (fun h30 => ?_) (fun h30 => ?_)
    · refine r_iconst (v := 1) dX9_liarsBy_37 (by decide) ?_
      refine r_iload_n dX9_liarsBy_38 rfl ?_
      refine r_ishl dX9_liarsBy_39 ?_
      refine r_ior dX9_liarsBy_40 ?_
      refine r_istore_n dX9_liarsBy_41 (by decide) ?_
      refine r_iinc dX9_liarsBy_42 rfl (by decide) (ix_inc rfl) ?_
      refine r_goto (tgt := 4) dX9_liarsBy_45 (by decide) ?_
      refine r_lv (lv' := [(0, .ref 120), (1, .int w), (2, .int (lrF (saM im) w (t + 1))), (3, .int (nI (t + 1)))]) (al_cons rfl (al_cons rfl (al_int rfl (by simp only [lrF, or0, saM, eq_self, Bool.false_eq_true, Bool.true_eq_false, if_true, if_false, reduceIte, true_and, and_true, false_and, and_false, true_or, or_true, false_or, or_false, not_true_eq_false, not_false_eq_true, Bool.not_true, Bool.not_false, Bool.true_and, Bool.and_true, Bool.false_and, Bool.and_false, decide_true, decide_false, h30]; try rfl) (al_cons rfl al_nil)))) ?_
      exact iht
    · refine r_iconst (v := 0) dX9_liarsBy_33 (by decide) ?_
      refine r_goto (tgt := 40) dX9_liarsBy_34 (by decide) ?_
      refine r_ior dX9_liarsBy_40 ?_
      refine r_istore_n dX9_liarsBy_41 (by decide) ?_
      refine r_iinc dX9_liarsBy_42 rfl (by decide) (ix_inc rfl) ?_
      refine r_goto (tgt := 4) dX9_liarsBy_45 (by decide) ?_
      refine r_lv (lv' := [(0, .ref 120), (1, .int w), (2, .int (lrF (saM im) w (t + 1))), (3, .int (nI (t + 1)))]) (al_cons rfl (al_cons rfl (al_int rfl (by simp only [lrF, or0, saM, eq_self, Bool.false_eq_true, Bool.true_eq_false, if_true, if_false, reduceIte, true_and, and_true, false_and, and_false, true_or, or_true, false_or, or_false, not_true_eq_false, not_false_eq_true, Bool.not_true, Bool.not_false, Bool.true_and, Bool.and_true, Bool.false_and, Bool.and_false, decide_true, decide_false, h30]; try rfl) (al_cons rfl al_nil)))) ?_
      exact iht

set_option maxRecDepth 100000 in
set_option maxHeartbeats 4000000 in
theorem m_spent {im : IM} {pl it : Nat} (hm : MA im) : MT YX9_spent 1 0 0 [.ref 120] 137 im (RR pl it) (some (.int (spM im)), 137, im, RR pl it) := by
  obtain ⟨W, T, S, hW, hW8, hT, hT6, hS, hS5⟩ := id hm
  have htW : tn (im 122 0) = W := by rw [hW, tn_nI (by omega)]
  have htT : tn (im 122 1) = T := by rw [hT, tn_nI (by omega)]
  have htS : tn (im 122 2) = S := by rw [hS, tn_nI (by omega)]
  refine mt_of (by decide +kernel) (Nat.le_of_ble_eq_true rfl) ?_
  show WW _ _ _ _ _ _ _ 0 [(0, .ref 120)] [] _ _ _
  refine r_iconst (v := 0) dX9_spent_0 (by decide) ?_
  refine r_istore_n dX9_spent_1 (by decide) ?_
  refine r_iconst (v := 0) dX9_spent_2 (by decide) ?_
  refine r_istore_n dX9_spent_3 (by decide) ?_
  refine r_lv (lv' := [(0, .ref 120), (1, .int (smF (coM im) (im 130 4) 0)), (2, .int (nI 0))]) (al_cons rfl (al_int rfl rfl (al_int rfl (by exact (cI 0)) al_nil))) ?_
  refine WW.loop (fun t => [(0, .ref 120), (1, .int (smF (coM im) (im 130 4) t)), (2, .int (nI t))]) (fun _ => im) (N := T) ?_ ?_ 0 (Nat.zero_le _)
  · show WW _ _ _ _ _ _ _ 4 [(0, .ref 120), (1, .int (smF (coM im) (im 130 4) T)), (2, .int (nI T))] _ _ _ _
    refine r_iload_n dX9_spent_4 rfl ?_
    refine r_aload_n dX9_spent_5 rfl ?_
    refine r_getr fl_X9_17 dX9_spent_6 kd_120 ln_120 rfl rfl ?_
    refine r_iconst (v := 1) dX9_spent_9 (by decide) ?_
    refine r_iald (j := 1) dX9_spent_10 kd_122 ln_122 (cI 1) (by omega) (by decide) ?_
    refine r_icmp_ge_t (tgt := 50) dX9_spent_11 (by decide) (ix_le hT rfl (by omega) (by omega)) ?_
    refine r_iconst (v := 0) dX9_spent_50 (by decide) ?_
    refine r_istore_n dX9_spent_51 (by decide) ?_
    refine r_lv (lv' := [(0, .ref 120), (1, .int (adF (smF (coM im) (im 130 4) T) (goM im) 0)), (2, .int (nI 0))]) (al_cons rfl (al_int rfl rfl (al_int rfl (by exact (cI 0)) al_nil))) ?_
    refine WW.loop (fun u => [(0, .ref 120), (1, .int (adF (smF (coM im) (im 130 4) T) (goM im) u)), (2, .int (nI u))]) (fun _ => im) (N := S) ?_ ?_ 0 (Nat.zero_le _)
    · show WW _ _ _ _ _ _ _ 52 [(0, .ref 120), (1, .int (adF (smF (coM im) (im 130 4) T) (goM im) S)), (2, .int (nI S))] _ _ _ _
      refine r_iload_n dX9_spent_52 rfl ?_
      refine r_aload_n dX9_spent_53 rfl ?_
      refine r_getr fl_X9_17 dX9_spent_54 kd_120 ln_120 rfl rfl ?_
      refine r_iconst (v := 2) dX9_spent_57 (by decide) ?_
      refine r_iald (j := 2) dX9_spent_58 kd_122 ln_122 (cI 2) (by omega) (by decide) ?_
      refine r_icmp_ge_t (tgt := 84) dX9_spent_59 (by decide) (ix_le hS rfl (by omega) (by omega)) ?_
      refine r_iload_n dX9_spent_84 rfl ?_
      refine r_ldc dX9_spent_85 kn_X9_139 ?_
      refine r_icmp_le (tgt := 95) dX9_spent_87 (by decide) (fun h87 => ?_) (fun h87 => ?_)
      · refine r_iload_n dX9_spent_95 rfl ?_
        exact r_iret dX9_spent_96 rfl (by simp only [spM, gtV, htT, htS, eq_self, Bool.false_eq_true, Bool.true_eq_false, if_true, if_false, reduceIte, h87]) (Nat.le_refl _) (Nat.le_refl _)
      · refine r_ldc dX9_spent_90 kn_X9_139 ?_
        refine r_goto (tgt := 96) dX9_spent_92 (by decide) ?_
        exact r_iret dX9_spent_96 rfl (by simp only [spM, gtV, htT, htS, eq_self, Bool.false_eq_true, Bool.true_eq_false, if_true, if_false, reduceIte, h87]) (Nat.le_refl _) (Nat.le_refl _)
    · intro u hu ihu
      show WW _ _ _ _ _ _ _ 52 [(0, .ref 120), (1, .int (adF (smF (coM im) (im 130 4) T) (goM im) u)), (2, .int (nI u))] _ _ _ _
      refine r_iload_n dX9_spent_52 rfl ?_
      refine r_aload_n dX9_spent_53 rfl ?_
      refine r_getr fl_X9_17 dX9_spent_54 kd_120 ln_120 rfl rfl ?_
      refine r_iconst (v := 2) dX9_spent_57 (by decide) ?_
      refine r_iald (j := 2) dX9_spent_58 kd_122 ln_122 (cI 2) (by omega) (by decide) ?_
      refine r_icmp_ge_f (tgt := 84) dX9_spent_59 (by decide) (ix_nle hS rfl (by omega) (by omega)) ?_
      refine r_iload_n dX9_spent_62 rfl ?_
      refine r_aload_n dX9_spent_63 rfl ?_
      refine r_getr fl_X9_41 dX9_spent_64 kd_120 ln_120 rfl rfl ?_
      refine r_bipush (v := 6) dX9_spent_67 (by decide) ?_
      refine r_iconst (v := 3) dX9_spent_69 (by decide) ?_
      refine r_iload_n dX9_spent_70 rfl ?_
      refine r_imul dX9_spent_71 ?_
      refine r_iadd dX9_spent_72 ?_
      refine r_iconst (v := 1) dX9_spent_73 (by decide) ?_
      refine r_iadd dX9_spent_74 ?_
      refine r_iald (j := (6 + (3 * u)) + 1) dX9_spent_75 kd_130 ln_130 (ix_add (ix_add (cI 6) (ix_mul (cI 3) rfl)) (cI 1)) (by omega) (by decide) ?_
      refine r_iadd dX9_spent_76 ?_
      refine r_istore_n dX9_spent_77 (by decide) ?_
      refine r_iinc dX9_spent_78 rfl (by decide) (ix_inc rfl) ?_
      refine r_goto (tgt := 52) dX9_spent_81 (by decide) ?_
      refine r_lv (lv' := [(0, .ref 120), (1, .int (adF (smF (coM im) (im 130 4) T) (goM im) (u + 1))), (2, .int (nI (u + 1)))]) (al_cons rfl (al_int rfl rfl (al_cons rfl al_nil))) ?_
      exact ihu
  · intro t ht iht
    show WW _ _ _ _ _ _ _ 4 [(0, .ref 120), (1, .int (smF (coM im) (im 130 4) t)), (2, .int (nI t))] _ _ _ _
    refine r_iload_n dX9_spent_4 rfl ?_
    refine r_aload_n dX9_spent_5 rfl ?_
    refine r_getr fl_X9_17 dX9_spent_6 kd_120 ln_120 rfl rfl ?_
    refine r_iconst (v := 1) dX9_spent_9 (by decide) ?_
    refine r_iald (j := 1) dX9_spent_10 kd_122 ln_122 (cI 1) (by omega) (by decide) ?_
    refine r_icmp_ge_f (tgt := 50) dX9_spent_11 (by decide) (ix_nle hT rfl (by omega) (by omega)) ?_
    refine r_iload_n dX9_spent_14 rfl ?_
    refine r_aload_n dX9_spent_15 rfl ?_
    refine r_getr fl_X9_41 dX9_spent_16 kd_120 ln_120 rfl rfl ?_
    refine r_iconst (v := 4) dX9_spent_19 (by decide) ?_
    refine r_iald (j := 4) dX9_spent_20 kd_130 ln_130 (cI 4) (by omega) (by decide) ?_
    refine r_iload_n dX9_spent_21 rfl ?_
    refine r_S2s cv_X9_135 dX9_spent_22 (m_has (im 130 4) (nI t)) ⟨by decide, by decide⟩ (Nat.le_of_ble_eq_true rfl) ⟨Nat.le_refl _, Nat.le_refl _⟩ ?_
    refine r_bz_eq (tgt := 41) dX9_spent_25 (by decide) (fun h25 => ?_) (fun h25 => ?_)
    · refine r_iconst (v := 0) dX9_spent_41 (by decide) ?_
      refine r_iadd dX9_spent_42 ?_
      refine r_istore_n dX9_spent_43 (by decide) ?_
      refine r_iinc dX9_spent_44 rfl (by decide) (ix_inc rfl) ?_
      refine r_goto (tgt := 4) dX9_spent_47 (by decide) ?_
      refine r_lv (lv' := [(0, .ref 120), (1, .int (smF (coM im) (im 130 4) (t + 1))), (2, .int (nI (t + 1)))]) (al_cons rfl (al_int rfl (by simp only [smF, ad0, coM, eq_self, Bool.false_eq_true, Bool.true_eq_false, if_true, if_false, reduceIte, true_and, and_true, false_and, and_false, true_or, or_true, false_or, or_false, not_true_eq_false, not_false_eq_true, Bool.not_true, Bool.not_false, Bool.true_and, Bool.and_true, Bool.false_and, Bool.and_false, decide_true, decide_false, h25]; try rfl) (al_cons rfl al_nil))) ?_
      exact iht
    · refine r_aload_n dX9_spent_28 rfl ?_
      refine r_getr fl_X9_23 dX9_spent_29 kd_120 ln_120 rfl rfl ?_
      refine r_iconst (v := 3) dX9_spent_32 (by decide) ?_
      refine r_iload_n dX9_spent_33 rfl ?_
      refine r_imul dX9_spent_34 ?_
      refine r_iconst (v := 2) dX9_spent_35 (by decide) ?_
      refine r_iadd dX9_spent_36 ?_
      refine r_iald (j := (3 * t) + 2) dX9_spent_37 kd_124 ln_124 (ix_add (ix_mul (cI 3) rfl) (cI 2)) (by omega) (by decide) ?_
      refine r_goto (tgt := 42) dX9_spent_38 (by decide) ?_
      refine r_iadd dX9_spent_42 ?_
      refine r_istore_n dX9_spent_43 (by decide) ?_
      refine r_iinc dX9_spent_44 rfl (by decide) (ix_inc rfl) ?_
      refine r_goto (tgt := 4) dX9_spent_47 (by decide) ?_
      refine r_lv (lv' := [(0, .ref 120), (1, .int (smF (coM im) (im 130 4) (t + 1))), (2, .int (nI (t + 1)))]) (al_cons rfl (al_int rfl (by simp only [smF, ad0, coM, eq_self, Bool.false_eq_true, Bool.true_eq_false, if_true, if_false, reduceIte, true_and, and_true, false_and, and_false, true_or, or_true, false_or, or_false, not_true_eq_false, not_false_eq_true, Bool.not_true, Bool.not_false, Bool.true_and, Bool.and_true, Bool.false_and, Bool.and_false, decide_true, decide_false, h25]; try rfl) (al_cons rfl al_nil))) ?_
      exact iht

set_option maxRecDepth 100000 in
set_option maxHeartbeats 4000000 in
theorem m_fault {im : IM} {pl it : Nat} (hm : MA im) : MT YX9_fault 0 0 0 [.ref 120] 137 im (RR pl it) (some (.int (im 120 2)), 137, im, RR pl it) := by
  obtain ⟨W, T, S, hW, hW8, hT, hT6, hS, hS5⟩ := id hm
  have htW : tn (im 122 0) = W := by rw [hW, tn_nI (by omega)]
  have htT : tn (im 122 1) = T := by rw [hT, tn_nI (by omega)]
  have htS : tn (im 122 2) = S := by rw [hS, tn_nI (by omega)]
  refine mt_of (by decide +kernel) (Nat.le_of_ble_eq_true rfl) ?_
  show WW _ _ _ _ _ _ _ 0 [(0, .ref 120)] [] _ _ _
  refine r_aload_n dX9_fault_0 rfl ?_
  refine r_geti fl_X9_13 dX9_fault_1 kd_120 ln_120 rfl ?_
  exact r_iret dX9_fault_4 rfl rfl (Nat.le_refl _) (Nat.le_refl _)

set_option maxRecDepth 100000 in
set_option maxHeartbeats 4000000 in
theorem m_told {im : IM} {pl it : Nat} (hm : MA im) (w : Int32) : MT YX9_told 2 0 0 [.ref 120, .int w] 137 im (RR pl it) (some (.int (tdM im w)), 137, im, RR pl it) := by
  obtain ⟨W, T, S, hW, hW8, hT, hT6, hS, hS5⟩ := id hm
  have htW : tn (im 122 0) = W := by rw [hW, tn_nI (by omega)]
  have htT : tn (im 122 1) = T := by rw [hT, tn_nI (by omega)]
  have htS : tn (im 122 2) = S := by rw [hS, tn_nI (by omega)]
  refine mt_of (by decide +kernel) (Nat.le_of_ble_eq_true rfl) ?_
  show WW _ _ _ _ _ _ _ 0 [(0, .ref 120), (1, .int w)] [] _ _ _
  refine r_iload_n dX9_told_0 rfl ?_
  rcases sw_split (x := w) (lo := 0) (n := 18) (by decide) (by decide) with hsw | ⟨jsw, hjsw, hsw⟩
  · refine r_tabOut (tgt := 212) dX9_told_1 (sw_out hsw) (by decide) ?_
    refine r_ldc dX9_told_212 kn_X9_67 ?_
    exact r_iret dX9_told_214 rfl (by simp only [tdM, td_out hsw, eq_self, Bool.false_eq_true, Bool.true_eq_false, if_true, if_false, reduceIte]) (Nat.le_refl _) (Nat.le_refl _)
  · match jsw, hjsw, hsw with
    | 0, _, hsw =>
      refine r_tabIn (off := 87) (tgt := 88) dX9_told_1 (sw_a hsw (by decide) (by decide)) (sw_b hsw (by decide) (by decide)) (sw_c hsw (by decide) (by decide)) (by decide) ?_
      refine r_aload_n dX9_told_88 rfl ?_
      refine r_getr fl_X9_17 dX9_told_89 kd_120 ln_120 rfl rfl ?_
      refine r_iconst (v := 0) dX9_told_92 (by decide) ?_
      refine r_iald (j := 0) dX9_told_93 kd_122 ln_122 (cI 0) (by omega) (by decide) ?_
      exact r_iret dX9_told_94 rfl (by subst hsw; simp (config := {decide := true}) only [tdM, Nat.reduceAdd, Nat.reduceMod, eq_self, Bool.false_eq_true, Bool.true_eq_false, if_true, if_false, reduceIte, nI_lit]) (Nat.le_refl _) (Nat.le_refl _)
    | 1, _, hsw =>
      refine r_tabIn (off := 94) (tgt := 95) dX9_told_1 (sw_a hsw (by decide) (by decide)) (sw_b hsw (by decide) (by decide)) (sw_c hsw (by decide) (by decide)) (by decide) ?_
      refine r_aload_n dX9_told_95 rfl ?_
      refine r_getr fl_X9_17 dX9_told_96 kd_120 ln_120 rfl rfl ?_
      refine r_iconst (v := 1) dX9_told_99 (by decide) ?_
      refine r_iald (j := 1) dX9_told_100 kd_122 ln_122 (cI 1) (by omega) (by decide) ?_
      exact r_iret dX9_told_101 rfl (by subst hsw; simp (config := {decide := true}) only [tdM, Nat.reduceAdd, Nat.reduceMod, eq_self, Bool.false_eq_true, Bool.true_eq_false, if_true, if_false, reduceIte, nI_lit]) (Nat.le_refl _) (Nat.le_refl _)
    | 2, _, hsw =>
      refine r_tabIn (off := 101) (tgt := 102) dX9_told_1 (sw_a hsw (by decide) (by decide)) (sw_b hsw (by decide) (by decide)) (sw_c hsw (by decide) (by decide)) (by decide) ?_
      refine r_aload_n dX9_told_102 rfl ?_
      refine r_getr fl_X9_17 dX9_told_103 kd_120 ln_120 rfl rfl ?_
      refine r_iconst (v := 2) dX9_told_106 (by decide) ?_
      refine r_iald (j := 2) dX9_told_107 kd_122 ln_122 (cI 2) (by omega) (by decide) ?_
      exact r_iret dX9_told_108 rfl (by subst hsw; simp (config := {decide := true}) only [tdM, Nat.reduceAdd, Nat.reduceMod, eq_self, Bool.false_eq_true, Bool.true_eq_false, if_true, if_false, reduceIte, nI_lit]) (Nat.le_refl _) (Nat.le_refl _)
    | 3, _, hsw =>
      refine r_tabIn (off := 108) (tgt := 109) dX9_told_1 (sw_a hsw (by decide) (by decide)) (sw_b hsw (by decide) (by decide)) (sw_c hsw (by decide) (by decide)) (by decide) ?_
      refine r_aload_n dX9_told_109 rfl ?_
      refine r_geti fl_X9_68 dX9_told_110 kd_120 ln_120 rfl ?_
      exact r_iret dX9_told_113 rfl (by subst hsw; simp (config := {decide := true}) only [tdM, Nat.reduceAdd, Nat.reduceMod, eq_self, Bool.false_eq_true, Bool.true_eq_false, if_true, if_false, reduceIte, nI_lit]) (Nat.le_refl _) (Nat.le_refl _)
    | 4, _, hsw =>
      refine r_tabIn (off := 113) (tgt := 114) dX9_told_1 (sw_a hsw (by decide) (by decide)) (sw_b hsw (by decide) (by decide)) (sw_c hsw (by decide) (by decide)) (by decide) ?_
      refine r_aload_n dX9_told_114 rfl ?_
      refine r_getr fl_X9_17 dX9_told_115 kd_120 ln_120 rfl rfl ?_
      refine r_iconst (v := 3) dX9_told_118 (by decide) ?_
      refine r_iald (j := 3) dX9_told_119 kd_122 ln_122 (cI 3) (by omega) (by decide) ?_
      exact r_iret dX9_told_120 rfl (by subst hsw; simp (config := {decide := true}) only [tdM, Nat.reduceAdd, Nat.reduceMod, eq_self, Bool.false_eq_true, Bool.true_eq_false, if_true, if_false, reduceIte, nI_lit]) (Nat.le_refl _) (Nat.le_refl _)
    | 5, _, hsw =>
      refine r_tabIn (off := 120) (tgt := 121) dX9_told_1 (sw_a hsw (by decide) (by decide)) (sw_b hsw (by decide) (by decide)) (sw_c hsw (by decide) (by decide)) (by decide) ?_
      refine r_aload_n dX9_told_121 rfl ?_
      refine r_getr fl_X9_17 dX9_told_122 kd_120 ln_120 rfl rfl ?_
      refine r_iconst (v := 4) dX9_told_125 (by decide) ?_
      refine r_iald (j := 4) dX9_told_126 kd_122 ln_122 (cI 4) (by omega) (by decide) ?_
      exact r_iret dX9_told_127 rfl (by subst hsw; simp (config := {decide := true}) only [tdM, Nat.reduceAdd, Nat.reduceMod, eq_self, Bool.false_eq_true, Bool.true_eq_false, if_true, if_false, reduceIte, nI_lit]) (Nat.le_refl _) (Nat.le_refl _)
    | 6, _, hsw =>
      refine r_tabIn (off := 127) (tgt := 128) dX9_told_1 (sw_a hsw (by decide) (by decide)) (sw_b hsw (by decide) (by decide)) (sw_c hsw (by decide) (by decide)) (by decide) ?_
      refine r_aload_n dX9_told_128 rfl ?_
      refine r_getr fl_X9_41 dX9_told_129 kd_120 ln_120 rfl rfl ?_
      refine r_iconst (v := 0) dX9_told_132 (by decide) ?_
      refine r_iald (j := 0) dX9_told_133 kd_130 ln_130 (cI 0) (by omega) (by decide) ?_
      exact r_iret dX9_told_134 rfl (by subst hsw; simp (config := {decide := true}) only [tdM, Nat.reduceAdd, Nat.reduceMod, eq_self, Bool.false_eq_true, Bool.true_eq_false, if_true, if_false, reduceIte, nI_lit]) (Nat.le_refl _) (Nat.le_refl _)
    | 7, _, hsw =>
      refine r_tabIn (off := 134) (tgt := 135) dX9_told_1 (sw_a hsw (by decide) (by decide)) (sw_b hsw (by decide) (by decide)) (sw_c hsw (by decide) (by decide)) (by decide) ?_
      refine r_aload_n dX9_told_135 rfl ?_
      refine r_getr fl_X9_41 dX9_told_136 kd_120 ln_120 rfl rfl ?_
      refine r_iconst (v := 1) dX9_told_139 (by decide) ?_
      refine r_iald (j := 1) dX9_told_140 kd_130 ln_130 (cI 1) (by omega) (by decide) ?_
      exact r_iret dX9_told_141 rfl (by subst hsw; simp (config := {decide := true}) only [tdM, Nat.reduceAdd, Nat.reduceMod, eq_self, Bool.false_eq_true, Bool.true_eq_false, if_true, if_false, reduceIte, nI_lit]) (Nat.le_refl _) (Nat.le_refl _)
    | 8, _, hsw =>
      refine r_tabIn (off := 141) (tgt := 142) dX9_told_1 (sw_a hsw (by decide) (by decide)) (sw_b hsw (by decide) (by decide)) (sw_c hsw (by decide) (by decide)) (by decide) ?_
      refine r_aload_n dX9_told_142 rfl ?_
      refine r_getr fl_X9_41 dX9_told_143 kd_120 ln_120 rfl rfl ?_
      refine r_iconst (v := 2) dX9_told_146 (by decide) ?_
      refine r_iald (j := 2) dX9_told_147 kd_130 ln_130 (cI 2) (by omega) (by decide) ?_
      exact r_iret dX9_told_148 rfl (by subst hsw; simp (config := {decide := true}) only [tdM, Nat.reduceAdd, Nat.reduceMod, eq_self, Bool.false_eq_true, Bool.true_eq_false, if_true, if_false, reduceIte, nI_lit]) (Nat.le_refl _) (Nat.le_refl _)
    | 9, _, hsw =>
      refine r_tabIn (off := 148) (tgt := 149) dX9_told_1 (sw_a hsw (by decide) (by decide)) (sw_b hsw (by decide) (by decide)) (sw_c hsw (by decide) (by decide)) (by decide) ?_
      refine r_aload_n dX9_told_149 rfl ?_
      refine r_getr fl_X9_41 dX9_told_150 kd_120 ln_120 rfl rfl ?_
      refine r_iconst (v := 3) dX9_told_153 (by decide) ?_
      refine r_iald (j := 3) dX9_told_154 kd_130 ln_130 (cI 3) (by omega) (by decide) ?_
      exact r_iret dX9_told_155 rfl (by subst hsw; simp (config := {decide := true}) only [tdM, Nat.reduceAdd, Nat.reduceMod, eq_self, Bool.false_eq_true, Bool.true_eq_false, if_true, if_false, reduceIte, nI_lit]) (Nat.le_refl _) (Nat.le_refl _)
    | 10, _, hsw =>
      refine r_tabIn (off := 155) (tgt := 156) dX9_told_1 (sw_a hsw (by decide) (by decide)) (sw_b hsw (by decide) (by decide)) (sw_c hsw (by decide) (by decide)) (by decide) ?_
      refine r_aload_n dX9_told_156 rfl ?_
      refine r_getr fl_X9_41 dX9_told_157 kd_120 ln_120 rfl rfl ?_
      refine r_iconst (v := 4) dX9_told_160 (by decide) ?_
      refine r_iald (j := 4) dX9_told_161 kd_130 ln_130 (cI 4) (by omega) (by decide) ?_
      exact r_iret dX9_told_162 rfl (by subst hsw; simp (config := {decide := true}) only [tdM, Nat.reduceAdd, Nat.reduceMod, eq_self, Bool.false_eq_true, Bool.true_eq_false, if_true, if_false, reduceIte, nI_lit]) (Nat.le_refl _) (Nat.le_refl _)
    | 11, _, hsw =>
      refine r_tabIn (off := 162) (tgt := 163) dX9_told_1 (sw_a hsw (by decide) (by decide)) (sw_b hsw (by decide) (by decide)) (sw_c hsw (by decide) (by decide)) (by decide) ?_
      refine r_aload_n dX9_told_163 rfl ?_
      refine r_aload_n dX9_told_164 rfl ?_
      refine r_getr fl_X9_41 dX9_told_165 kd_120 ln_120 rfl rfl ?_
      refine r_iconst (v := 4) dX9_told_168 (by decide) ?_
      refine r_iald (j := 4) dX9_told_169 kd_130 ln_130 (cI 4) (by omega) (by decide) ?_
      refine r_V1s cv_X9_140 dX9_told_170 (m_leftBy hm (im 130 4)) ⟨by decide, by decide⟩ kd_120 ln_120 cl_9 (Nat.le_of_ble_eq_true rfl) ⟨Nat.le_refl _, Nat.le_refl _⟩ ?_
      exact r_iret dX9_told_173 rfl (by subst hsw; simp (config := {decide := true}) only [tdM, Nat.reduceAdd, Nat.reduceMod, eq_self, Bool.false_eq_true, Bool.true_eq_false, if_true, if_false, reduceIte, nI_lit]) (Nat.le_refl _) (Nat.le_refl _)
    | 12, _, hsw =>
      refine r_tabIn (off := 173) (tgt := 174) dX9_told_1 (sw_a hsw (by decide) (by decide)) (sw_b hsw (by decide) (by decide)) (sw_c hsw (by decide) (by decide)) (by decide) ?_
      refine r_aload_n dX9_told_174 rfl ?_
      refine r_aload_n dX9_told_175 rfl ?_
      refine r_getr fl_X9_41 dX9_told_176 kd_120 ln_120 rfl rfl ?_
      refine r_iconst (v := 4) dX9_told_179 (by decide) ?_
      refine r_iald (j := 4) dX9_told_180 kd_130 ln_130 (cI 4) (by omega) (by decide) ?_
      refine r_V1s cv_X9_143 dX9_told_181 (m_shownBy hm (im 130 4)) ⟨by decide, by decide⟩ kd_120 ln_120 cl_9 (Nat.le_of_ble_eq_true rfl) ⟨Nat.le_refl _, Nat.le_refl _⟩ ?_
      exact r_iret dX9_told_184 rfl (by subst hsw; simp (config := {decide := true}) only [tdM, Nat.reduceAdd, Nat.reduceMod, eq_self, Bool.false_eq_true, Bool.true_eq_false, if_true, if_false, reduceIte, nI_lit]) (Nat.le_refl _) (Nat.le_refl _)
    | 13, _, hsw =>
      refine r_tabIn (off := 184) (tgt := 185) dX9_told_1 (sw_a hsw (by decide) (by decide)) (sw_b hsw (by decide) (by decide)) (sw_c hsw (by decide) (by decide)) (by decide) ?_
      refine r_aload_n dX9_told_185 rfl ?_
      refine r_getr fl_X9_41 dX9_told_186 kd_120 ln_120 rfl rfl ?_
      refine r_iconst (v := 5) dX9_told_189 (by decide) ?_
      refine r_iald (j := 5) dX9_told_190 kd_130 ln_130 (cI 5) (by omega) (by decide) ?_
      exact r_iret dX9_told_191 rfl (by subst hsw; simp (config := {decide := true}) only [tdM, Nat.reduceAdd, Nat.reduceMod, eq_self, Bool.false_eq_true, Bool.true_eq_false, if_true, if_false, reduceIte, nI_lit]) (Nat.le_refl _) (Nat.le_refl _)
    | 14, _, hsw =>
      refine r_tabIn (off := 191) (tgt := 192) dX9_told_1 (sw_a hsw (by decide) (by decide)) (sw_b hsw (by decide) (by decide)) (sw_c hsw (by decide) (by decide)) (by decide) ?_
      refine r_aload_n dX9_told_192 rfl ?_
      refine r_V0s cv_X9_146 dX9_told_193 (m_spent hm) ⟨by decide, by decide⟩ kd_120 ln_120 cl_9 (Nat.le_of_ble_eq_true rfl) ⟨Nat.le_refl _, Nat.le_refl _⟩ ?_
      exact r_iret dX9_told_196 rfl (by subst hsw; simp (config := {decide := true}) only [tdM, Nat.reduceAdd, Nat.reduceMod, eq_self, Bool.false_eq_true, Bool.true_eq_false, if_true, if_false, reduceIte, nI_lit]) (Nat.le_refl _) (Nat.le_refl _)
    | 15, _, hsw =>
      refine r_tabIn (off := 196) (tgt := 197) dX9_told_1 (sw_a hsw (by decide) (by decide)) (sw_b hsw (by decide) (by decide)) (sw_c hsw (by decide) (by decide)) (by decide) ?_
      refine r_aload_n dX9_told_197 rfl ?_
      refine r_geti fl_X9_129 dX9_told_198 kd_120 ln_120 rfl ?_
      exact r_iret dX9_told_201 rfl (by subst hsw; simp (config := {decide := true}) only [tdM, Nat.reduceAdd, Nat.reduceMod, eq_self, Bool.false_eq_true, Bool.true_eq_false, if_true, if_false, reduceIte, nI_lit]) (Nat.le_refl _) (Nat.le_refl _)
    | 16, _, hsw =>
      refine r_tabIn (off := 201) (tgt := 202) dX9_told_1 (sw_a hsw (by decide) (by decide)) (sw_b hsw (by decide) (by decide)) (sw_c hsw (by decide) (by decide)) (by decide) ?_
      refine r_aload_n dX9_told_202 rfl ?_
      refine r_geti fl_X9_132 dX9_told_203 kd_120 ln_120 rfl ?_
      exact r_iret dX9_told_206 rfl (by subst hsw; simp (config := {decide := true}) only [tdM, Nat.reduceAdd, Nat.reduceMod, eq_self, Bool.false_eq_true, Bool.true_eq_false, if_true, if_false, reduceIte, nI_lit]) (Nat.le_refl _) (Nat.le_refl _)
    | 17, _, hsw =>
      refine r_tabIn (off := 206) (tgt := 207) dX9_told_1 (sw_a hsw (by decide) (by decide)) (sw_b hsw (by decide) (by decide)) (sw_c hsw (by decide) (by decide)) (by decide) ?_
      refine r_aload_n dX9_told_207 rfl ?_
      refine r_geti fl_X9_126 dX9_told_208 kd_120 ln_120 rfl ?_
      exact r_iret dX9_told_211 rfl (by subst hsw; simp (config := {decide := true}) only [tdM, Nat.reduceAdd, Nat.reduceMod, eq_self, Bool.false_eq_true, Bool.true_eq_false, if_true, if_false, reduceIte, nI_lit]) (Nat.le_refl _) (Nat.le_refl _)
    | j + 18, hj, _ => exact absurd hj (by omega)

set_option maxRecDepth 100000 in
set_option maxHeartbeats 4000000 in
theorem m_likely {im : IM} {pl it : Nat} (hm : MA im) (x : Int32) : MT YX9_likely 2 0 0 [.ref 120, .int x] 137 im (RR pl it) (some (.int (if inB x 0 (im 122 0 - 1) = true then im 123 (tn x) else (-1000000001))), 137, im, RR pl it) := by
  obtain ⟨W, T, S, hW, hW8, hT, hT6, hS, hS5⟩ := id hm
  have htW : tn (im 122 0) = W := by rw [hW, tn_nI (by omega)]
  have htT : tn (im 122 1) = T := by rw [hT, tn_nI (by omega)]
  have htS : tn (im 122 2) = S := by rw [hS, tn_nI (by omega)]
  refine mt_of (by decide +kernel) (Nat.le_of_ble_eq_true rfl) ?_
  show WW _ _ _ _ _ _ _ 0 [(0, .ref 120), (1, .int x)] [] _ _ _
  refine r_aload_n dX9_likely_0 rfl ?_
  refine r_iload_n dX9_likely_1 rfl ?_
  refine r_V1s cv_X9_149 dX9_likely_2 (m_isWay hm x) ⟨by decide, by decide⟩ kd_120 ln_120 cl_9 (Nat.le_of_ble_eq_true rfl) ⟨Nat.le_refl _, Nat.le_refl _⟩ ?_
  refine r_bz_eq (tgt := 17) dX9_likely_5 (by decide) (fun h5 => ?_) (fun h5 => ?_)
  · refine r_ldc dX9_likely_17 kn_X9_153 ?_
    exact r_iret dX9_likely_19 rfl (by simp only [eq_self, Bool.false_eq_true, Bool.true_eq_false, if_true, if_false, reduceIte, h5]) (Nat.le_refl _) (Nat.le_refl _)
  · obtain ⟨jw, hjw, hj⟩ := inB_nat (W := W) (by rw [← hW]; exact h5) (by omega)
    have htt : tn x = jw := by rw [hj, tn_nI (by omega)]
    refine r_aload_n dX9_likely_8 rfl ?_
    refine r_getr fl_X9_20 dX9_likely_9 kd_120 ln_120 rfl rfl ?_
    refine r_iload_n dX9_likely_12 rfl ?_
    refine r_iald (j := jw) dX9_likely_13 kd_123 ln_123 hj (by omega) (by decide) ?_
    refine r_goto (tgt := 19) dX9_likely_14 (by decide) ?_
    exact r_iret dX9_likely_19 rfl (by simp only [eq_self, Bool.false_eq_true, Bool.true_eq_false, if_true, if_false, reduceIte, h5, htt]) (Nat.le_refl _) (Nat.le_refl _)

def tsM (im : IM) (x w : Int32) : Int32 := if inB x 0 (im 122 1 - 1) = false then (-1000000001) else if inB w 0 3 = false then (-1000000002) else if 3 ≤ w then (im 130 4 >>> (x &&& 31)) &&& 1 else im 124 (3 * tn x + tn w)
def svM (im : IM) (x w : Int32) : Int32 := if inB x 0 (im 122 2 - 1) = false then (-1000000001) else if w = nI 0 then saM im (tn x) else if w = nI 1 then im 125 (2 * tn x + 1) else if w = nI 2 then goM im (tn x) else if w = nI 3 then (if hasB (im 130 5) x = true then siM im (tn x) else -1) else (-1000000002)

set_option maxRecDepth 100000 in
set_option maxHeartbeats 4000000 in
theorem m_test {im : IM} {pl it : Nat} (hm : MA im) (x w : Int32) : MT YX9_test 2 0 0 [.ref 120, .int x, .int w] 137 im (RR pl it) (some (.int (tsM im x w)), 137, im, RR pl it) := by
  obtain ⟨W, T, S, hW, hW8, hT, hT6, hS, hS5⟩ := id hm
  have htW : tn (im 122 0) = W := by rw [hW, tn_nI (by omega)]
  have htT : tn (im 122 1) = T := by rw [hT, tn_nI (by omega)]
  have htS : tn (im 122 2) = S := by rw [hS, tn_nI (by omega)]
  refine mt_of (by decide +kernel) (Nat.le_of_ble_eq_true rfl) ?_
  show WW _ _ _ _ _ _ _ 0 [(0, .ref 120), (1, .int x), (2, .int w)] [] _ _ _
  refine r_aload_n dX9_test_0 rfl ?_
  refine r_iload_n dX9_test_1 rfl ?_
  refine r_V1s cv_X9_154 dX9_test_2 (m_isTest hm x) ⟨by decide, by decide⟩ kd_120 ln_120 cl_9 (Nat.le_of_ble_eq_true rfl) ⟨Nat.le_refl _, Nat.le_refl _⟩ ?_
  refine r_bz_ne (tgt := 11) dX9_test_5 (by decide) (fun h5 => ?_) (fun h5 => ?_)
  · obtain ⟨jw, hjw, hj⟩ := inB_nat (W := T) (by rw [← hT]; exact h5) (by omega)
    have htt : tn x = jw := by rw [hj, tn_nI (by omega)]
    refine r_iload_n dX9_test_11 rfl ?_
    refine r_iconst (v := 0) dX9_test_12 (by decide) ?_
    refine r_iconst (v := 3) dX9_test_13 (by decide) ?_
    refine r_S3s cv_X9_63 dX9_test_14 (m_in w 0 3) ⟨by decide, by decide⟩ (Nat.le_of_ble_eq_true rfl) ⟨Nat.le_refl _, Nat.le_refl _⟩ ?_
    refine r_bz_ne (tgt := 25) dX9_test_17 (by decide) (fun h17 => ?_) (fun h17 => ?_)
    · refine r_iload_n dX9_test_25 rfl ?_
      refine r_iconst (v := 3) dX9_test_26 (by decide) ?_
      refine r_icmp_ge (tgt := 43) dX9_test_27 (by decide) (fun h27 => ?_) (fun h27 => ?_)
      · refine r_aload_n dX9_test_43 rfl ?_
        refine r_getr fl_X9_41 dX9_test_44 kd_120 ln_120 rfl rfl ?_
        refine r_iconst (v := 4) dX9_test_47 (by decide) ?_
        refine r_iald (j := 4) dX9_test_48 kd_130 ln_130 (cI 4) (by omega) (by decide) ?_
        refine r_iload_n dX9_test_49 rfl ?_
        refine r_ishr dX9_test_50 ?_
        refine r_iconst (v := 1) dX9_test_51 (by decide) ?_
        refine r_iand dX9_test_52 ?_
        exact r_iret dX9_test_53 rfl (by simp only [tsM, eq_self, Bool.false_eq_true, Bool.true_eq_false, if_true, if_false, reduceIte, h5, h17, h27, htt]) (Nat.le_refl _) (Nat.le_refl _)
      · obtain ⟨jv, hjv, hv⟩ := inB_nat (W := 4) (w := w) h17 (by omega)
        have htv : tn w = jv := by rw [hv, tn_nI (by omega)]
        have hv3 : jv < 3 := gt_of_nI (cI 3) hv h27 (by omega) (by omega)
        refine r_aload_n dX9_test_30 rfl ?_
        refine r_getr fl_X9_23 dX9_test_31 kd_120 ln_120 rfl rfl ?_
        refine r_iconst (v := 3) dX9_test_34 (by decide) ?_
        refine r_iload_n dX9_test_35 rfl ?_
        refine r_imul dX9_test_36 ?_
        refine r_iload_n dX9_test_37 rfl ?_
        refine r_iadd dX9_test_38 ?_
        refine r_iald (j := (3 * jw) + jv) dX9_test_39 kd_124 ln_124 (ix_add (ix_mul (cI 3) hj) hv) (by omega) (by decide) ?_
        refine r_goto (tgt := 53) dX9_test_40 (by decide) ?_
        exact r_iret dX9_test_53 rfl (by simp only [tsM, eq_self, Bool.false_eq_true, Bool.true_eq_false, if_true, if_false, reduceIte, h5, h17, h27, htt, htv]) (Nat.le_refl _) (Nat.le_refl _)
    · refine r_ldc dX9_test_20 kn_X9_67 ?_
      refine r_goto (tgt := 53) dX9_test_22 (by decide) ?_
      exact r_iret dX9_test_53 rfl (by simp only [tsM, eq_self, Bool.false_eq_true, Bool.true_eq_false, if_true, if_false, reduceIte, h5, h17, htt]) (Nat.le_refl _) (Nat.le_refl _)
  · refine r_ldc dX9_test_8 kn_X9_153 ?_
    exact r_iret dX9_test_10 rfl (by simp only [tsM, eq_self, Bool.false_eq_true, Bool.true_eq_false, if_true, if_false, reduceIte, h5]) (Nat.le_refl _) (Nat.le_refl _)

set_option maxRecDepth 100000 in
set_option maxHeartbeats 4000000 in
theorem m_servant {im : IM} {pl it : Nat} (hm : MA im) (x w : Int32) : MT YX9_servant 2 0 0 [.ref 120, .int x, .int w] 137 im (RR pl it) (some (.int (svM im x w)), 137, im, RR pl it) := by
  obtain ⟨W, T, S, hW, hW8, hT, hT6, hS, hS5⟩ := id hm
  have htW : tn (im 122 0) = W := by rw [hW, tn_nI (by omega)]
  have htT : tn (im 122 1) = T := by rw [hT, tn_nI (by omega)]
  have htS : tn (im 122 2) = S := by rw [hS, tn_nI (by omega)]
  refine mt_of (by decide +kernel) (Nat.le_of_ble_eq_true rfl) ?_
  show WW _ _ _ _ _ _ _ 0 [(0, .ref 120), (1, .int x), (2, .int w)] [] _ _ _
  refine r_aload_n dX9_servant_0 rfl ?_
  refine r_iload_n dX9_servant_1 rfl ?_
  refine r_V1s cv_X9_157 dX9_servant_2 (m_isServant hm x) ⟨by decide, by decide⟩ kd_120 ln_120 cl_9 (Nat.le_of_ble_eq_true rfl) ⟨Nat.le_refl _, Nat.le_refl _⟩ ?_
  refine r_bz_ne (tgt := 11) dX9_servant_5 (by decide) (fun h5 => ?_) (fun h5 => ?_)
  · obtain ⟨jw, hjw, hj⟩ := inB_nat (W := S) (by rw [← hS]; exact h5) (by omega)
    have htt : tn x = jw := by rw [hj, tn_nI (by omega)]
    refine r_iload_n dX9_servant_11 rfl ?_
    rcases sw_split (x := w) (lo := 0) (n := 4) (by decide) (by decide) with hsw | ⟨jsw, hjsw, hsw⟩
    · refine r_tabOut (tgt := 112) dX9_servant_12 (sw_out hsw) (by decide) ?_
      refine r_ldc dX9_servant_112 kn_X9_67 ?_
      exact r_iret dX9_servant_114 rfl (by simp only [svM, h5, td_out4 hsw, eq_self, Bool.false_eq_true, Bool.true_eq_false, if_true, if_false, reduceIte]) (Nat.le_refl _) (Nat.le_refl _)
    · match jsw, hjsw, hsw with
      | 0, _, hsw =>
        refine r_tabIn (off := 32) (tgt := 44) dX9_servant_12 (sw_a hsw (by decide) (by decide)) (sw_b hsw (by decide) (by decide)) (sw_c hsw (by decide) (by decide)) (by decide) ?_
        refine r_aload_n dX9_servant_44 rfl ?_
        refine r_getr fl_X9_41 dX9_servant_45 kd_120 ln_120 rfl rfl ?_
        refine r_bipush (v := 6) dX9_servant_48 (by decide) ?_
        refine r_iconst (v := 3) dX9_servant_50 (by decide) ?_
        refine r_iload_n dX9_servant_51 rfl ?_
        refine r_imul dX9_servant_52 ?_
        refine r_iadd dX9_servant_53 ?_
        refine r_iald (j := 6 + (3 * jw)) dX9_servant_54 kd_130 ln_130 (ix_add (cI 6) (ix_mul (cI 3) hj)) (by omega) (by decide) ?_
        exact r_iret dX9_servant_55 rfl (by subst hsw; simp (config := {decide := true}) only [svM, saM, goM, siM, Nat.reduceAdd, Nat.reduceMod, htt, nI_lit, eq_self, Bool.false_eq_true, Bool.true_eq_false, if_true, if_false, reduceIte, h5]) (Nat.le_refl _) (Nat.le_refl _)
      | 1, _, hsw =>
        refine r_tabIn (off := 44) (tgt := 56) dX9_servant_12 (sw_a hsw (by decide) (by decide)) (sw_b hsw (by decide) (by decide)) (sw_c hsw (by decide) (by decide)) (by decide) ?_
        refine r_aload_n dX9_servant_56 rfl ?_
        refine r_getr fl_X9_26 dX9_servant_57 kd_120 ln_120 rfl rfl ?_
        refine r_iconst (v := 2) dX9_servant_60 (by decide) ?_
        refine r_iload_n dX9_servant_61 rfl ?_
        refine r_imul dX9_servant_62 ?_
        refine r_iconst (v := 1) dX9_servant_63 (by decide) ?_
        refine r_iadd dX9_servant_64 ?_
        refine r_iald (j := (2 * jw) + 1) dX9_servant_65 kd_125 ln_125 (ix_add (ix_mul (cI 2) hj) (cI 1)) (by omega) (by decide) ?_
        exact r_iret dX9_servant_66 rfl (by subst hsw; simp (config := {decide := true}) only [svM, saM, goM, siM, Nat.reduceAdd, Nat.reduceMod, htt, nI_lit, eq_self, Bool.false_eq_true, Bool.true_eq_false, if_true, if_false, reduceIte, h5]) (Nat.le_refl _) (Nat.le_refl _)
      | 2, _, hsw =>
        refine r_tabIn (off := 55) (tgt := 67) dX9_servant_12 (sw_a hsw (by decide) (by decide)) (sw_b hsw (by decide) (by decide)) (sw_c hsw (by decide) (by decide)) (by decide) ?_
        refine r_aload_n dX9_servant_67 rfl ?_
        refine r_getr fl_X9_41 dX9_servant_68 kd_120 ln_120 rfl rfl ?_
        refine r_bipush (v := 6) dX9_servant_71 (by decide) ?_
        refine r_iconst (v := 3) dX9_servant_73 (by decide) ?_
        refine r_iload_n dX9_servant_74 rfl ?_
        refine r_imul dX9_servant_75 ?_
        refine r_iadd dX9_servant_76 ?_
        refine r_iconst (v := 1) dX9_servant_77 (by decide) ?_
        refine r_iadd dX9_servant_78 ?_
        refine r_iald (j := (6 + (3 * jw)) + 1) dX9_servant_79 kd_130 ln_130 (ix_add (ix_add (cI 6) (ix_mul (cI 3) hj)) (cI 1)) (by omega) (by decide) ?_
        exact r_iret dX9_servant_80 rfl (by subst hsw; simp (config := {decide := true}) only [svM, saM, goM, siM, Nat.reduceAdd, Nat.reduceMod, htt, nI_lit, eq_self, Bool.false_eq_true, Bool.true_eq_false, if_true, if_false, reduceIte, h5]) (Nat.le_refl _) (Nat.le_refl _)
      | 3, _, hsw =>
        refine r_tabIn (off := 69) (tgt := 81) dX9_servant_12 (sw_a hsw (by decide) (by decide)) (sw_b hsw (by decide) (by decide)) (sw_c hsw (by decide) (by decide)) (by decide) ?_
        refine r_aload_n dX9_servant_81 rfl ?_
        refine r_getr fl_X9_41 dX9_servant_82 kd_120 ln_120 rfl rfl ?_
        refine r_iconst (v := 5) dX9_servant_85 (by decide) ?_
        refine r_iald (j := 5) dX9_servant_86 kd_130 ln_130 (cI 5) (by omega) (by decide) ?_
        refine r_iload_n dX9_servant_87 rfl ?_
        refine r_S2s cv_X9_135 dX9_servant_88 (m_has (im 130 5) x) ⟨by decide, by decide⟩ (Nat.le_of_ble_eq_true rfl) ⟨Nat.le_refl _, Nat.le_refl _⟩ ?_
        refine r_bz_eq (tgt := 110) dX9_servant_91 (by decide) (fun h91 => ?_) (fun h91 => ?_)
        · refine r_iconst (v := (-1)) dX9_servant_110 (by decide) ?_
          exact r_iret dX9_servant_111 rfl (by subst hsw; simp (config := {decide := true}) only [svM, saM, goM, siM, Nat.reduceAdd, Nat.reduceMod, htt, nI_lit, eq_self, Bool.false_eq_true, Bool.true_eq_false, if_true, if_false, reduceIte, h5, h91]) (Nat.le_refl _) (Nat.le_refl _)
        · refine r_aload_n dX9_servant_94 rfl ?_
          refine r_getr fl_X9_41 dX9_servant_95 kd_120 ln_120 rfl rfl ?_
          refine r_bipush (v := 6) dX9_servant_98 (by decide) ?_
          refine r_iconst (v := 3) dX9_servant_100 (by decide) ?_
          refine r_iload_n dX9_servant_101 rfl ?_
          refine r_imul dX9_servant_102 ?_
          refine r_iadd dX9_servant_103 ?_
          refine r_iconst (v := 2) dX9_servant_104 (by decide) ?_
          refine r_iadd dX9_servant_105 ?_
          refine r_iald (j := (6 + (3 * jw)) + 2) dX9_servant_106 kd_130 ln_130 (ix_add (ix_add (cI 6) (ix_mul (cI 3) hj)) (cI 2)) (by omega) (by decide) ?_
          refine r_goto (tgt := 111) dX9_servant_107 (by decide) ?_
          exact r_iret dX9_servant_111 rfl (by subst hsw; simp (config := {decide := true}) only [svM, saM, goM, siM, Nat.reduceAdd, Nat.reduceMod, htt, nI_lit, eq_self, Bool.false_eq_true, Bool.true_eq_false, if_true, if_false, reduceIte, h5, h91]) (Nat.le_refl _) (Nat.le_refl _)
      | j + 4, hj, _ => exact absurd hj (by omega)
  · refine r_ldc dX9_servant_8 kn_X9_153 ?_
    exact r_iret dX9_servant_10 rfl (by simp only [svM, h5, eq_self, Bool.false_eq_true, Bool.true_eq_false, if_true, if_false, reduceIte]) (Nat.le_refl _) (Nat.le_refl _)

set_option maxRecDepth 100000 in
set_option maxHeartbeats 4000000 in
theorem m_copies {im : IM} {pl it : Nat} {rf rt lf lt a b m : Nat} (hf : kd rf = (1, lf)) (hkt : kd rt = (1, lt)) (hfn : rf < 137) (htn : rt < 137) (hne : rf ≠ rt) (hlf : a + m ≤ lf) (hlt : b + m ≤ lt) (h1 : lf < 1000) (h2 : lt < 1000) {xa xb xm : Int32} (hxa : xa = nI a) (hxb : xb = nI b) (hxm : xm = nI m) : MT YX9_copies 0 0 0 [.ref rf, .int xa, .ref rt, .int xb, .int xm] 137 im (RR pl it) (none, 137, cyT im rf a rt b m, RR pl it) := by
  refine mt_of (by decide +kernel) (Nat.le_of_ble_eq_true rfl) ?_
  show WW _ _ _ _ _ _ _ 0 [(0, .ref rf), (1, .int xa), (2, .ref rt), (3, .int xb), (4, .int xm)] [] _ _ _
  refine r_iconst (v := 0) dX9_copies_0 (by decide) ?_
  refine r_istore dX9_copies_1 (by decide) ?_
  refine r_lv (lv' := [(0, .ref rf), (1, .int xa), (2, .ref rt), (3, .int xb), (4, .int xm), (5, .int (nI 0))]) (al_cons rfl (al_cons rfl (al_cons rfl (al_cons rfl (al_cons rfl (al_int rfl (by exact (cI 0)) al_nil)))))) ?_
  refine r_im (im' := cyT im rf a rt b 0) cyT_in ?_
  refine WW.loop (fun t => [(0, .ref rf), (1, .int xa), (2, .ref rt), (3, .int xb), (4, .int xm), (5, .int (nI t))]) (fun t => cyT im rf a rt b t) (N := m) ?_ ?_ 0 (Nat.zero_le _)
  · show WW _ _ _ _ _ _ _ 3 [(0, .ref rf), (1, .int xa), (2, .ref rt), (3, .int xb), (4, .int xm), (5, .int (nI m))] _ _ (cyT im rf a rt b m) _
    refine r_iload dX9_copies_3 rfl ?_
    refine r_iload dX9_copies_5 rfl ?_
    refine r_icmp_ge_t (tgt := 28) dX9_copies_7 (by decide) (ix_le hxm rfl (by omega) (by omega)) ?_
    exact r_vret dX9_copies_28 rfl rfl (Nat.le_refl _) (Nat.le_refl _)
  · intro t ht iht
    show WW _ _ _ _ _ _ _ 3 [(0, .ref rf), (1, .int xa), (2, .ref rt), (3, .int xb), (4, .int xm), (5, .int (nI t))] _ _ (cyT im rf a rt b t) _
    refine r_iload dX9_copies_3 rfl ?_
    refine r_iload dX9_copies_5 rfl ?_
    refine r_icmp_ge_f (tgt := 28) dX9_copies_7 (by decide) (ix_nle hxm rfl (by omega) (by omega)) ?_
    refine r_aload_n dX9_copies_10 rfl ?_
    refine r_iload_n dX9_copies_11 rfl ?_
    refine r_iload dX9_copies_12 rfl ?_
    refine r_iadd dX9_copies_14 ?_
    refine r_aload_n dX9_copies_15 rfl ?_
    refine r_iload_n dX9_copies_16 rfl ?_
    refine r_iload dX9_copies_17 rfl ?_
    refine r_iadd dX9_copies_19 ?_
    refine r_ialx (j := a + t) (x := im rf (a + t)) dX9_copies_20 hf hfn (ix_add hxa rfl) (by omega) (by omega) (cyT_off hne) ?_
    refine r_as (j := b + t) dX9_copies_21 hkt htn (ix_add hxb rfl) (by omega) (by omega) ?_
    refine r_iinc dX9_copies_22 rfl (by decide) (ix_inc rfl) ?_
    refine r_goto (tgt := 3) dX9_copies_25 (by decide) ?_
    refine r_lv (lv' := [(0, .ref rf), (1, .int xa), (2, .ref rt), (3, .int xb), (4, .int xm), (5, .int (nI (t + 1)))]) (al_cons rfl (al_cons rfl (al_cons rfl (al_cons rfl (al_cons rfl (al_cons rfl al_nil)))))) ?_
    refine r_im (im' := cyT im rf a rt b (t + 1)) (cyT_go hne) ?_
    exact iht

set_option maxRecDepth 100000 in
set_option maxHeartbeats 4000000 in
theorem m_notes {im : IM} {pl it : Nat} (hE0 : HDm im) : MT YX9_notes 1 0 0 [.ref 120] 137 im (RR pl it) (none, 137, ntM im, RR pl it) := by
  obtain ⟨E, hE, hE20⟩ := id hE0
  have htE : tn (im 120 13) = E := by rw [hE, tn_nI (by omega)]
  refine mt_of (by decide +kernel) (Nat.le_of_ble_eq_true rfl) ?_
  show WW _ _ _ _ _ _ _ 0 [(0, .ref 120)] [] _ _ _
  refine r_aload_n dX9_notes_0 rfl ?_
  refine r_geti fl_X9_126 dX9_notes_1 kd_120 ln_120 rfl ?_
  refine r_bipush (v := 20) dX9_notes_4 (by decide) ?_
  refine r_icmp_ne (tgt := 49) dX9_notes_6 (by decide) (fun h6 => ?_) (fun h6 => ?_)
  · have hEl : E < 20 := Nat.lt_of_le_of_ne hE20 (fun q => h6 (by rw [hE, q]; rfl))
    refine r_aload_n dX9_notes_49 rfl ?_
    refine r_getr fl_X9_41 dX9_notes_50 kd_120 ln_120 rfl rfl ?_
    refine r_iconst (v := 0) dX9_notes_53 (by decide) ?_
    refine r_aload_n dX9_notes_54 rfl ?_
    refine r_getr fl_X9_44 dX9_notes_55 kd_120 ln_120 rfl rfl ?_
    refine r_bipush (v := 21) dX9_notes_58 (by decide) ?_
    refine r_aload_n dX9_notes_60 rfl ?_
    refine r_getx (x := im 120 13) fl_X9_126 dX9_notes_61 kd_120 ln_120 rfl rfl ?_
    refine r_imul dX9_notes_64 ?_
    refine r_bipush (v := 21) dX9_notes_65 (by decide) ?_
    refine r_S5n cv_X9_122 dX9_notes_67 (m_copies (a := 0) (b := 21 * E) (m := 21) kd_130 kd_131 ln_130 ln_131 (by decide) (by decide) (by omega) (by decide) (by decide) rfl (ix_mul (cI 21) hE) rfl) ⟨by decide, by decide⟩ (Nat.le_of_ble_eq_true rfl) ⟨Nat.le_refl _, Nat.le_refl _⟩ ?_
    refine r_aload_n dX9_notes_70 rfl ?_
    refine r_dup dX9_notes_71 rfl ?_
    refine r_getx (x := im 120 13) fl_X9_126 dX9_notes_72 kd_120 ln_120 rfl (cyT_off (by decide)) ?_
    refine r_iconst (v := 1) dX9_notes_75 (by decide) ?_
    refine r_iadd dX9_notes_76 ?_
    refine r_pi fl_X9_126 dX9_notes_77 kd_120 ln_120 rfl ?_
    exact r_vret dX9_notes_80 rfl (by simp only [ntM, htE, h6, eq_self, Bool.false_eq_true, Bool.true_eq_false, if_true, if_false, reduceIte]) (Nat.le_refl _) (Nat.le_refl _)
  · refine r_iconst (v := 0) dX9_notes_9 (by decide) ?_
    refine r_istore_n dX9_notes_10 (by decide) ?_
    refine r_lv (lv' := [(0, .ref 120), (1, .int (nI 0))]) (al_cons rfl (al_int rfl (by exact (cI 0)) al_nil)) ?_
    refine r_im (im' := shT im 0) shT_in ?_
    refine WW.loop (fun t => [(0, .ref 120), (1, .int (nI t))]) (fun t => shT im t) (N := 399) ?_ ?_ 0 (Nat.zero_le _)
    · show WW _ _ _ _ _ _ _ 11 [(0, .ref 120), (1, .int (nI 399))] _ _ (shT im 399) _
      refine r_iload_n dX9_notes_11 rfl ?_
      refine r_sipush (v := 399) dX9_notes_12 (by decide) ?_
      refine r_icmp_ge_t (tgt := 39) dX9_notes_15 (by decide) (ix_le (cI 399) rfl (by omega) (by omega)) ?_
      refine r_aload_n dX9_notes_39 rfl ?_
      refine r_dup dX9_notes_40 rfl ?_
      refine r_getx (x := im 120 13) fl_X9_126 dX9_notes_41 kd_120 ln_120 rfl (by simp only [shT]; grind) ?_
      refine r_iconst (v := 1) dX9_notes_44 (by decide) ?_
      refine r_isub dX9_notes_45 ?_
      refine r_pi fl_X9_126 dX9_notes_46 kd_120 ln_120 rfl ?_
      refine r_aload_n dX9_notes_49 rfl ?_
      refine r_getr fl_X9_41 dX9_notes_50 kd_120 ln_120 rfl rfl ?_
      refine r_iconst (v := 0) dX9_notes_53 (by decide) ?_
      refine r_aload_n dX9_notes_54 rfl ?_
      refine r_getr fl_X9_44 dX9_notes_55 kd_120 ln_120 rfl rfl ?_
      refine r_bipush (v := 21) dX9_notes_58 (by decide) ?_
      refine r_aload_n dX9_notes_60 rfl ?_
      refine r_getx (x := 19) fl_X9_126 dX9_notes_61 kd_120 ln_120 rfl (by rw [st_same]; rw [h6]; decide) ?_
      refine r_imul dX9_notes_64 ?_
      refine r_bipush (v := 21) dX9_notes_65 (by decide) ?_
      refine r_S5n cv_X9_122 dX9_notes_67 (m_copies (a := 0) (b := 399) (m := 21) kd_130 kd_131 ln_130 ln_131 (by decide) (by decide) (by decide) (by decide) (by decide) rfl (by decide) rfl) ⟨by decide, by decide⟩ (Nat.le_of_ble_eq_true rfl) ⟨Nat.le_refl _, Nat.le_refl _⟩ ?_
      refine r_aload_n dX9_notes_70 rfl ?_
      refine r_dup dX9_notes_71 rfl ?_
      refine r_getx (x := 19) fl_X9_126 dX9_notes_72 kd_120 ln_120 rfl (by rw [cyT_off (by decide), st_same, h6]; decide) ?_
      refine r_iconst (v := 1) dX9_notes_75 (by decide) ?_
      refine r_iadd dX9_notes_76 ?_
      refine r_pi fl_X9_126 dX9_notes_77 kd_120 ln_120 rfl ?_
      exact r_vret dX9_notes_80 rfl (by simp only [ntM, h6, eq_self, Bool.false_eq_true, Bool.true_eq_false, if_true, if_false, reduceIte]; rfl) (Nat.le_refl _) (Nat.le_refl _)
    · intro t ht iht
      show WW _ _ _ _ _ _ _ 11 [(0, .ref 120), (1, .int (nI t))] _ _ (shT im t) _
      refine r_iload_n dX9_notes_11 rfl ?_
      refine r_sipush (v := 399) dX9_notes_12 (by decide) ?_
      refine r_icmp_ge_f (tgt := 39) dX9_notes_15 (by decide) (ix_nle (cI 399) rfl (by omega) (by omega)) ?_
      refine r_aload_n dX9_notes_18 rfl ?_
      refine r_getr fl_X9_44 dX9_notes_19 kd_120 ln_120 rfl rfl ?_
      refine r_iload_n dX9_notes_22 rfl ?_
      refine r_aload_n dX9_notes_23 rfl ?_
      refine r_getr fl_X9_44 dX9_notes_24 kd_120 ln_120 rfl rfl ?_
      refine r_iload_n dX9_notes_27 rfl ?_
      refine r_bipush (v := 21) dX9_notes_28 (by decide) ?_
      refine r_iadd dX9_notes_30 ?_
      refine r_ialx (j := t + 21) (x := im 131 (t + 21)) dX9_notes_31 kd_131 ln_131 (ix_add rfl (cI 21)) (by omega) (by decide) (by simp only [shT]; grind) ?_
      refine r_as (j := t) dX9_notes_32 kd_131 ln_131 rfl (by omega) (by decide) ?_
      refine r_iinc dX9_notes_33 rfl (by decide) (ix_inc rfl) ?_
      refine r_goto (tgt := 11) dX9_notes_36 (by decide) ?_
      refine r_lv (lv' := [(0, .ref 120), (1, .int (nI (t + 1)))]) (al_cons rfl (al_cons rfl al_nil)) ?_
      refine r_im (im' := shT im (t + 1)) shT_go ?_
      exact iht

set_option maxRecDepth 100000 in
set_option maxHeartbeats 4000000 in
theorem m_gets {im : IM} {pl it : Nat} {j : Nat} (hj5 : j < 5) (s m : Int32) (hj : s = nI j) : MT YX9_gets 0 0 0 [.ref 120, .int s, .int m] 137 im (RR pl it) (none, 137, geM im j m, RR pl it) := by
  refine mt_of (by decide +kernel) (Nat.le_of_ble_eq_true rfl) ?_
  show WW _ _ _ _ _ _ _ 0 [(0, .ref 120), (1, .int s), (2, .int m)] [] _ _ _
  refine r_aload_n dX9_gets_0 rfl ?_
  refine r_getr fl_X9_41 dX9_gets_1 kd_120 ln_120 rfl rfl ?_
  refine r_bipush (v := 6) dX9_gets_4 (by decide) ?_
  refine r_iconst (v := 3) dX9_gets_6 (by decide) ?_
  refine r_iload_n dX9_gets_7 rfl ?_
  refine r_imul dX9_gets_8 ?_
  refine r_iadd dX9_gets_9 ?_
  refine r_iconst (v := 1) dX9_gets_10 (by decide) ?_
  refine r_iadd dX9_gets_11 ?_
  refine r_iald (j := (6 + (3 * j)) + 1) dX9_gets_12 kd_130 ln_130 (ix_add (ix_add (cI 6) (ix_mul (cI 3) hj)) (cI 1)) (by omega) (by decide) ?_
  refine r_iload_n dX9_gets_13 rfl ?_
  refine r_iadd dX9_gets_14 ?_
  refine r_istore_n dX9_gets_15 (by decide) ?_
  refine r_aload_n dX9_gets_16 rfl ?_
  refine r_getr fl_X9_41 dX9_gets_17 kd_120 ln_120 rfl rfl ?_
  refine r_bipush (v := 6) dX9_gets_20 (by decide) ?_
  refine r_iconst (v := 3) dX9_gets_22 (by decide) ?_
  refine r_iload_n dX9_gets_23 rfl ?_
  refine r_imul dX9_gets_24 ?_
  refine r_iadd dX9_gets_25 ?_
  refine r_iconst (v := 1) dX9_gets_26 (by decide) ?_
  refine r_iadd dX9_gets_27 ?_
  refine r_iload_n dX9_gets_28 rfl ?_
  refine r_ldc dX9_gets_29 kn_X9_139 ?_
  refine r_icmp_le (tgt := 39) dX9_gets_31 (by decide) (fun h31 => ?_) (fun h31 => ?_)
  · refine r_iload_n dX9_gets_39 rfl ?_
    refine r_as (j := (6 + (3 * j)) + 1) dX9_gets_40 kd_130 ln_130 (ix_add (ix_add (cI 6) (ix_mul (cI 3) hj)) (cI 1)) (by omega) (by decide) ?_
    exact r_vret dX9_gets_41 rfl (by simp only [geM, gtV, goM, eq_self, Bool.false_eq_true, Bool.true_eq_false, if_true, if_false, reduceIte, true_and, and_true, false_and, and_false, true_or, or_true, false_or, or_false, not_true_eq_false, not_false_eq_true, Bool.not_true, Bool.not_false, Bool.true_and, Bool.and_true, Bool.false_and, Bool.and_false, decide_true, decide_false, h31]) (Nat.le_refl _) (Nat.le_refl _)
  · refine r_ldc dX9_gets_34 kn_X9_139 ?_
    refine r_goto (tgt := 40) dX9_gets_36 (by decide) ?_
    refine r_as (j := (6 + (3 * j)) + 1) dX9_gets_40 kd_130 ln_130 (ix_add (ix_add (cI 6) (ix_mul (cI 3) hj)) (cI 1)) (by omega) (by decide) ?_
    exact r_vret dX9_gets_41 rfl (by simp only [geM, gtV, goM, eq_self, Bool.false_eq_true, Bool.true_eq_false, if_true, if_false, reduceIte, true_and, and_true, false_and, and_false, true_or, or_true, false_or, or_false, not_true_eq_false, not_false_eq_true, Bool.not_true, Bool.not_false, Bool.true_and, Bool.and_true, Bool.false_and, Bool.and_false, decide_true, decide_false, h31]) (Nat.le_refl _) (Nat.le_refl _)

