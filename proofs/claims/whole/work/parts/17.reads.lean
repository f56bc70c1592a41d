set_option maxRecDepth 100000 in
set_option maxHeartbeats 4000000 in
theorem c_waysLeft {im : IM} {pl it : Nat} (hc : CA im pl) : MT YX8_waysLeft 2 0 0 [.ref 0] 137 im (RR pl it) (some (.int (wlX im pl)), 137, im, RR pl it) := by
  obtain ⟨hC, W, T, S, hW, hW8, hT, hT6, hS, hS5⟩ := id hc
  have htW : tn (im pl 0) = W := by rw [hW, tn_nI (by omega)]
  have htT : tn (im pl 2) = T := by rw [hT, tn_nI (by omega)]
  have htS : tn (im pl 6) = S := by rw [hS, tn_nI (by omega)]
  refine mt_of (by decide +kernel) (Nat.le_of_ble_eq_true rfl) ?_
  show WW _ _ _ _ _ _ _ 0 [(0, .ref 0)] [] _ _ _
  refine r_aload_n dX8_waysLeft_0 rfl ?_
  refine r_getr fl_X8_23 dX8_waysLeft_1 kd_0 ln_0 rfl rfl ?_
  refine r_aload_n dX8_waysLeft_4 rfl ?_
  refine r_getr fl_X8_30 dX8_waysLeft_5 kd_0 ln_0 rfl rfl ?_
  refine r_geti fl_X8_124 dX8_waysLeft_8 kd_17 ln_17 rfl ?_
  refine r_V1s cv_X8_283 dX8_waysLeft_11 (c_leftBy hc (im 17 4)) ⟨by decide, by decide⟩ (kC0 hC) (lC0 hC) cl_2 (Nat.le_of_ble_eq_true rfl) ⟨Nat.le_refl _, Nat.le_refl _⟩ ?_
  exact r_iret dX8_waysLeft_14 rfl rfl (Nat.le_refl _) (Nat.le_refl _)

set_option maxRecDepth 100000 in
set_option maxHeartbeats 4000000 in
theorem c_costYet {im : IM} {pl it : Nat} (hc : CA im pl) (s : Int32) : MT YX8_costYet 2 0 0 [.ref 0, .int s] 137 im (RR pl it) (some (.int (cyX im pl s)), 137, im, RR pl it) := by
  obtain ⟨hC, W, T, S, hW, hW8, hT, hT6, hS, hS5⟩ := id hc
  have htW : tn (im pl 0) = W := by rw [hW, tn_nI (by omega)]
  have htT : tn (im pl 2) = T := by rw [hT, tn_nI (by omega)]
  have htS : tn (im pl 6) = S := by rw [hS, tn_nI (by omega)]
  refine mt_of (by decide +kernel) (Nat.le_of_ble_eq_true rfl) ?_
  show WW _ _ _ _ _ _ _ 0 [(0, .ref 0), (1, .int s)] [] _ _ _
  refine r_aload_n dX8_costYet_0 rfl ?_
  refine r_getr fl_X8_23 dX8_costYet_1 kd_0 ln_0 rfl rfl ?_
  refine r_iload_n dX8_costYet_4 rfl ?_
  refine r_aload_n dX8_costYet_5 rfl ?_
  refine r_getr fl_X8_30 dX8_costYet_6 kd_0 ln_0 rfl rfl ?_
  refine r_geti fl_X8_124 dX8_costYet_9 kd_17 ln_17 rfl ?_
  refine r_iconst (v := (-1)) dX8_costYet_12 (by decide) ?_
  refine r_ixor dX8_costYet_13 ?_
  refine r_iand dX8_costYet_14 ?_
  refine r_V1s cv_X8_286 dX8_costYet_15 (c_costOf hc (s &&& ((im 17 4) ^^^ (-1)))) ⟨by decide, by decide⟩ (kC0 hC) (lC0 hC) cl_2 (Nat.le_of_ble_eq_true rfl) ⟨Nat.le_refl _, Nat.le_refl _⟩ ?_
  exact r_iret dX8_costYet_18 rfl rfl (Nat.le_refl _) (Nat.le_refl _)

set_option maxRecDepth 100000 in
set_option maxHeartbeats 4000000 in
theorem c_offerFor {im : IM} {pl it : Nat} (hc : CA im pl) (v c left : Int32) : MT YX8_offerFor 3 0 0 [.ref 0, .int v, .int c, .int left] 137 im (RR pl it) (some (.int (ofS im pl v c left)), 137, im, RR pl it) := by
  obtain ⟨hC, W, T, S, hW, hW8, hT, hT6, hS, hS5⟩ := id hc
  have htW : tn (im pl 0) = W := by rw [hW, tn_nI (by omega)]
  have htT : tn (im pl 2) = T := by rw [hT, tn_nI (by omega)]
  have htS : tn (im pl 6) = S := by rw [hS, tn_nI (by omega)]
  refine mt_of (by decide +kernel) (Nat.le_of_ble_eq_true rfl) ?_
  show WW _ _ _ _ _ _ _ 0 [(0, .ref 0), (1, .int v), (2, .int c), (3, .int left)] [] _ _ _
  refine r_iload_n dX8_offerFor_0 rfl ?_
  refine r_i2l dX8_offerFor_1 ?_
  refine r_aload_n dX8_offerFor_2 rfl ?_
  refine r_getr fl_X8_23 dX8_offerFor_3 kd_0 ln_0 rfl rfl ?_
  refine r_iconst (v := 0) dX8_offerFor_6 (by decide) ?_
  refine r_iload_n dX8_offerFor_7 rfl ?_
  refine r_V2s cv_X8_219 dX8_offerFor_8 (c_beliefIn hc 0 left) ⟨by decide, by decide⟩ (kC0 hC) (lC0 hC) cl_2 (Nat.le_of_ble_eq_true rfl) ⟨Nat.le_refl _, Nat.le_refl _⟩ ?_
  refine r_i2l dX8_offerFor_11 ?_
  refine r_lmul dX8_offerFor_12 ?_
  refine r_ldc2 dX8_offerFor_13 kn_X8_298 ?_
  refine r_ldiv dX8_offerFor_16 (by decide) ?_
  refine r_lstore dX8_offerFor_17 (by decide) ?_
  refine r_lload dX8_offerFor_19 rfl ?_
  refine r_l2i dX8_offerFor_21 ?_
  refine r_iload_n dX8_offerFor_22 rfl ?_
  refine r_isub dX8_offerFor_23 ?_
  refine r_iconst (v := 0) dX8_offerFor_24 (by decide) ?_
  refine r_max cv_X8_300 dX8_offerFor_25 (by decide) (Nat.le_of_ble_eq_true rfl) ⟨Nat.le_refl _, Nat.le_refl _⟩ ?_
  exact r_iret dX8_offerFor_28 rfl rfl (Nat.le_refl _) (Nat.le_refl _)

set_option maxRecDepth 100000 in
set_option maxHeartbeats 4000000 in
theorem c_spent {im : IM} {pl it : Nat} (hc : CA im pl) : MT YX8_spent 2 0 0 [.ref 0] 137 im (RR pl it) (some (.int (spX im pl)), 137, im, RR pl it) := by
  obtain ⟨hC, W, T, S, hW, hW8, hT, hT6, hS, hS5⟩ := id hc
  have htW : tn (im pl 0) = W := by rw [hW, tn_nI (by omega)]
  have htT : tn (im pl 2) = T := by rw [hT, tn_nI (by omega)]
  have htS : tn (im pl 6) = S := by rw [hS, tn_nI (by omega)]
  refine mt_of (by decide +kernel) (Nat.le_of_ble_eq_true rfl) ?_
  show WW _ _ _ _ _ _ _ 0 [(0, .ref 0)] [] _ _ _
  refine r_aload_n dX8_spent_0 rfl ?_
  refine r_getr fl_X8_23 dX8_spent_1 kd_0 ln_0 rfl rfl ?_
  refine r_aload_n dX8_spent_4 rfl ?_
  refine r_getr fl_X8_30 dX8_spent_5 kd_0 ln_0 rfl rfl ?_
  refine r_geti fl_X8_124 dX8_spent_8 kd_17 ln_17 rfl ?_
  refine r_V1s cv_X8_286 dX8_spent_11 (c_costOf hc (im 17 4)) ⟨by decide, by decide⟩ (kC0 hC) (lC0 hC) cl_2 (Nat.le_of_ble_eq_true rfl) ⟨Nat.le_refl _, Nat.le_refl _⟩ ?_
  refine r_istore_n dX8_spent_14 (by decide) ?_
  refine r_iconst (v := 0) dX8_spent_15 (by decide) ?_
  refine r_istore_n dX8_spent_16 (by decide) ?_
  refine r_lv (lv' := [(0, .ref 0), (1, .int (adF (smF (im (pl + 4)) (im 17 4) (tn (im pl 2))) (im 19) 0)), (2, .int (nI 0))]) (al_cons rfl (al_int rfl rfl (al_int rfl (by exact (cI 0)) al_nil))) ?_
  refine WW.loop (fun t => [(0, .ref 0), (1, .int (adF (smF (im (pl + 4)) (im 17 4) (tn (im pl 2))) (im 19) t)), (2, .int (nI t))]) (fun _ => im) (N := S) ?_ ?_ 0 (Nat.zero_le _)
  · show WW _ _ _ _ _ _ _ 17 [(0, .ref 0), (1, .int (adF (smF (im (pl + 4)) (im 17 4) (tn (im pl 2))) (im 19) S)), (2, .int (nI S))] _ _ _ _
    refine r_iload_n dX8_spent_17 rfl ?_
    refine r_aload_n dX8_spent_18 rfl ?_
    refine r_getr fl_X8_23 dX8_spent_19 kd_0 ln_0 rfl rfl ?_
    refine r_geti fl_X8_102 dX8_spent_22 (kC0 hC) (lC0 hC) rfl ?_
    refine r_icmp_ge_t (tgt := 46) dX8_spent_25 (by decide) (ix_le hS rfl (by omega) (by omega)) ?_
    refine r_iload_n dX8_spent_46 rfl ?_
    refine r_ldcw dX8_spent_47 kn_X8_289 ?_
    refine r_min cv_X8_290 dX8_spent_50 (by decide) (Nat.le_of_ble_eq_true rfl) ⟨Nat.le_refl _, Nat.le_refl _⟩ ?_
    exact r_iret dX8_spent_53 rfl (by rw [spX, htS]) (Nat.le_refl _) (Nat.le_refl _)
  · intro t ht iht
    show WW _ _ _ _ _ _ _ 17 [(0, .ref 0), (1, .int (adF (smF (im (pl + 4)) (im 17 4) (tn (im pl 2))) (im 19) t)), (2, .int (nI t))] _ _ _ _
    refine r_iload_n dX8_spent_17 rfl ?_
    refine r_aload_n dX8_spent_18 rfl ?_
    refine r_getr fl_X8_23 dX8_spent_19 kd_0 ln_0 rfl rfl ?_
    refine r_geti fl_X8_102 dX8_spent_22 (kC0 hC) (lC0 hC) rfl ?_
    refine r_icmp_ge_f (tgt := 46) dX8_spent_25 (by decide) (ix_nle hS rfl (by omega) (by omega)) ?_
    refine r_iload_n dX8_spent_28 rfl ?_
    refine r_aload_n dX8_spent_29 rfl ?_
    refine r_getr fl_X8_30 dX8_spent_30 kd_0 ln_0 rfl rfl ?_
    refine r_getr fl_X8_176 dX8_spent_33 kd_17 ln_17 rfl rfl ?_
    refine r_iload_n dX8_spent_36 rfl ?_
    refine r_iald (j := t) dX8_spent_37 kd_19 ln_19 rfl (by omega) (by decide) ?_
    refine r_iadd dX8_spent_38 ?_
    refine r_istore_n dX8_spent_39 (by decide) ?_
    refine r_iinc dX8_spent_40 rfl (by decide) (ix_inc rfl) ?_
    refine r_goto (tgt := 17) dX8_spent_43 (by decide) ?_
    refine r_lv (lv' := [(0, .ref 0), (1, .int (adF (smF (im (pl + 4)) (im 17 4) (tn (im pl 2))) (im 19) (t + 1))), (2, .int (nI (t + 1)))]) (al_cons rfl (al_int rfl rfl (al_cons rfl al_nil))) ?_
    exact iht

set_option maxRecDepth 100000 in
set_option maxHeartbeats 4000000 in
theorem c_liarsBy {im : IM} {pl it : Nat} (hc : CA im pl) (w : Int32) : MT YX8_liarsBy 1 0 0 [.ref 0, .int w] 137 im (RR pl it) (some (.int (lrX im pl w)), 137, im, RR pl it) := by
  obtain ⟨hC, W, T, S, hW, hW8, hT, hT6, hS, hS5⟩ := id hc
  have htW : tn (im pl 0) = W := by rw [hW, tn_nI (by omega)]
  have htT : tn (im pl 2) = T := by rw [hT, tn_nI (by omega)]
  have htS : tn (im pl 6) = S := by rw [hS, tn_nI (by omega)]
  refine mt_of (by decide +kernel) (Nat.le_of_ble_eq_true rfl) ?_
  show WW _ _ _ _ _ _ _ 0 [(0, .ref 0), (1, .int w)] [] _ _ _
  refine r_iconst (v := 0) dX8_liarsBy_0 (by decide) ?_
  refine r_istore_n dX8_liarsBy_1 (by decide) ?_
  refine r_iconst (v := 0) dX8_liarsBy_2 (by decide) ?_
  refine r_istore_n dX8_liarsBy_3 (by decide) ?_
  refine r_lv (lv' := [(0, .ref 0), (1, .int w), (2, .int (lrF (im 18) w 0)), (3, .int (nI 0))]) (al_cons rfl (al_cons rfl (al_int rfl rfl (al_int rfl (by exact (cI 0)) al_nil)))) ?_
  refine WW.loop (fun t => [(0, .ref 0), (1, .int w), (2, .int (lrF (im 18) w t)), (3, .int (nI t))]) (fun _ => im) (N := S) ?_ ?_ 0 (Nat.zero_le _)
  · show WW _ _ _ _ _ _ _ 4 [(0, .ref 0), (1, .int w), (2, .int (lrF (im 18) w S)), (3, .int (nI S))] _ _ _ _
    refine r_iload_n dX8_liarsBy_4 rfl ?_
    refine r_aload_n dX8_liarsBy_5 rfl ?_
    refine r_getr fl_X8_23 dX8_liarsBy_6 kd_0 ln_0 rfl rfl ?_
    refine r_geti fl_X8_102 dX8_liarsBy_9 (kC0 hC) (lC0 hC) rfl ?_
    refine r_icmp_ge_t (tgt := 43) dX8_liarsBy_12 (by decide) (ix_le hS rfl (by omega) (by omega)) ?_
    refine r_iload_n dX8_liarsBy_43 rfl ?_
    exact r_iret dX8_liarsBy_44 rfl (by rw [lrX, htS]) (Nat.le_refl _) (Nat.le_refl _)
  · intro t ht iht
    show WW _ _ _ _ _ _ _ 4 [(0, .ref 0), (1, .int w), (2, .int (lrF (im 18) w t)), (3, .int (nI t))] _ _ _ _
    refine r_iload_n dX8_liarsBy_4 rfl ?_
    refine r_aload_n dX8_liarsBy_5 rfl ?_
    refine r_getr fl_X8_23 dX8_liarsBy_6 kd_0 ln_0 rfl rfl ?_
    refine r_geti fl_X8_102 dX8_liarsBy_9 (kC0 hC) (lC0 hC) rfl ?_
    refine r_icmp_ge_f (tgt := 43) dX8_liarsBy_12 (by decide) (ix_nle hS rfl (by omega) (by omega)) ?_
    refine r_aload_n dX8_liarsBy_15 rfl ?_
    refine r_getr fl_X8_30 dX8_liarsBy_16 kd_0 ln_0 rfl rfl ?_
    refine r_getr fl_X8_170 dX8_liarsBy_19 kd_17 ln_17 rfl rfl ?_
    refine r_iload_n dX8_liarsBy_22 rfl ?_
    refine r_iald (j := t) dX8_liarsBy_23 kd_18 ln_18 rfl (by omega) (by decide) ?_
    refine r_iload_n dX8_liarsBy_24 rfl ?_
    refine r_S2s cv_X8_163 dX8_liarsBy_25 (c_has (im 18 t) w) ⟨by decide, by decide⟩ (Nat.le_of_ble_eq_true rfl) ⟨Nat.le_refl _, Nat.le_refl _⟩ ?_
    refine r_bz_ne (tgt := 37) dX8_liarsBy_28 (by decide) (fun h28 => ?_) (fun h28 => ?_)
    · refine r_iinc dX8_liarsBy_37 rfl (by decide) (ix_inc rfl) ?_
      refine r_goto (tgt := 4) dX8_liarsBy_40 (by decide) ?_
      refine r_lv (lv' := [(0, .ref 0), (1, .int w), (2, .int (lrF (im 18) w (t + 1))), (3, .int (nI (t + 1)))]) (al_cons rfl (al_cons rfl (al_int rfl (by simp only [lrF, eq_self, Bool.false_eq_true, Bool.true_eq_false, if_true, if_false, reduceIte, true_and, and_true, false_and, and_false, true_or, or_true, false_or, or_false, not_true_eq_false, not_false_eq_true, Bool.not_true, Bool.not_false, Bool.true_and, Bool.and_true, Bool.false_and, Bool.and_false, decide_true, decide_false, h28]) (al_cons rfl al_nil)))) ?_
      exact iht
    · refine r_iload_n dX8_liarsBy_31 rfl ?_
      refine r_iconst (v := 1) dX8_liarsBy_32 (by decide) ?_
      refine r_iload_n dX8_liarsBy_33 rfl ?_
      refine r_ishl dX8_liarsBy_34 ?_
      refine r_ior dX8_liarsBy_35 ?_
      refine r_istore_n dX8_liarsBy_36 (by decide) ?_
      refine r_iinc dX8_liarsBy_37 rfl (by decide) (ix_inc rfl) ?_
      refine r_goto (tgt := 4) dX8_liarsBy_40 (by decide) ?_
      refine r_lv (lv' := [(0, .ref 0), (1, .int w), (2, .int (lrF (im 18) w (t + 1))), (3, .int (nI (t + 1)))]) (al_cons rfl (al_cons rfl (al_int rfl (by simp only [lrF, eq_self, Bool.false_eq_true, Bool.true_eq_false, if_true, if_false, reduceIte, true_and, and_true, false_and, and_false, true_or, or_true, false_or, or_false, not_true_eq_false, not_false_eq_true, Bool.not_true, Bool.not_false, Bool.true_and, Bool.and_true, Bool.false_and, Bool.and_false, decide_true, decide_false, h28]) (al_cons rfl al_nil)))) ?_
      exact iht

set_option maxRecDepth 100000 in
set_option maxHeartbeats 4000000 in
theorem c_wayOfFewest {im : IM} {pl it : Nat} (hc : CA im pl) : MT YX8_wayOfFewestLiars 3 0 0 [.ref 0] 137 im (RR pl it) (some (.int (wfX im pl)), 137, im, RR pl it) := by
  obtain ⟨hC, W, T, S, hW, hW8, hT, hT6, hS, hS5⟩ := id hc
  have htW : tn (im pl 0) = W := by rw [hW, tn_nI (by omega)]
  have htT : tn (im pl 2) = T := by rw [hT, tn_nI (by omega)]
  have htS : tn (im pl 6) = S := by rw [hS, tn_nI (by omega)]
  refine mt_of (by decide +kernel) (Nat.le_of_ble_eq_true rfl) ?_
  show WW _ _ _ _ _ _ _ 0 [(0, .ref 0)] [] _ _ _
  refine r_aload_n dX8_wayOfFewestLiars_0 rfl ?_
  refine r_V0s cv_X8_127 dX8_wayOfFewestLiars_1 (c_waysLeft hc) ⟨by decide, by decide⟩ kd_0 ln_0 cl_8 (Nat.le_of_ble_eq_true rfl) ⟨Nat.le_refl _, Nat.le_refl _⟩ ?_
  refine r_istore_n dX8_wayOfFewestLiars_4 (by decide) ?_
  refine r_iconst (v := 0) dX8_wayOfFewestLiars_5 (by decide) ?_
  refine r_istore_n dX8_wayOfFewestLiars_6 (by decide) ?_
  refine r_bipush (v := 6) dX8_wayOfFewestLiars_7 (by decide) ?_
  refine r_istore_n dX8_wayOfFewestLiars_9 (by decide) ?_
  refine r_iconst (v := 0) dX8_wayOfFewestLiars_10 (by decide) ?_
  refine r_istore dX8_wayOfFewestLiars_11 (by decide) ?_
  refine r_lv (lv' := [(0, .ref 0), (1, .int (wlX im pl)), (2, .int ((wfF (wlX im pl) (fun w => bcI (lrX im pl w)) 0).1)), (3, .int ((wfF (wlX im pl) (fun w => bcI (lrX im pl w)) 0).2)), (4, .int (nI 0))]) (al_cons rfl (al_cons rfl (al_int rfl rfl (al_int rfl rfl (al_int rfl (by exact (cI 0)) al_nil))))) ?_
  refine WW.loop (fun t => [(0, .ref 0), (1, .int (wlX im pl)), (2, .int ((wfF (wlX im pl) (fun w => bcI (lrX im pl w)) t).1)), (3, .int ((wfF (wlX im pl) (fun w => bcI (lrX im pl w)) t).2)), (4, .int (nI t))]) (fun _ => im) (N := W) ?_ ?_ 0 (Nat.zero_le _)
  · show WW _ _ _ _ _ _ _ 13 [(0, .ref 0), (1, .int (wlX im pl)), (2, .int ((wfF (wlX im pl) (fun w => bcI (lrX im pl w)) W).1)), (3, .int ((wfF (wlX im pl) (fun w => bcI (lrX im pl w)) W).2)), (4, .int (nI W))] _ _ _ _
    refine r_iload dX8_wayOfFewestLiars_13 rfl ?_
    refine r_aload_n dX8_wayOfFewestLiars_15 rfl ?_
    refine r_getr fl_X8_23 dX8_wayOfFewestLiars_16 kd_0 ln_0 rfl rfl ?_
    refine r_geti fl_X8_96 dX8_wayOfFewestLiars_19 (kC0 hC) (lC0 hC) rfl ?_
    refine r_icmp_ge_t (tgt := 63) dX8_wayOfFewestLiars_22 (by decide) (ix_le hW rfl (by omega) (by omega)) ?_
    refine r_iload_n dX8_wayOfFewestLiars_63 rfl ?_
    exact r_iret dX8_wayOfFewestLiars_64 rfl (by rw [wfX, htW]) (Nat.le_refl _) (Nat.le_refl _)
  · intro t ht iht
    show WW _ _ _ _ _ _ _ 13 [(0, .ref 0), (1, .int (wlX im pl)), (2, .int ((wfF (wlX im pl) (fun w => bcI (lrX im pl w)) t).1)), (3, .int ((wfF (wlX im pl) (fun w => bcI (lrX im pl w)) t).2)), (4, .int (nI t))] _ _ _ _
    refine r_iload dX8_wayOfFewestLiars_13 rfl ?_
    refine r_aload_n dX8_wayOfFewestLiars_15 rfl ?_
    refine r_getr fl_X8_23 dX8_wayOfFewestLiars_16 kd_0 ln_0 rfl rfl ?_
    refine r_geti fl_X8_96 dX8_wayOfFewestLiars_19 (kC0 hC) (lC0 hC) rfl ?_
    refine r_icmp_ge_f (tgt := 63) dX8_wayOfFewestLiars_22 (by decide) (ix_nle hW rfl (by omega) (by omega)) ?_
    refine r_aload_n dX8_wayOfFewestLiars_25 rfl ?_
    refine r_iload dX8_wayOfFewestLiars_26 rfl ?_
    refine r_V1s cv_X8_223 dX8_wayOfFewestLiars_28 (c_liarsBy hc (nI t)) ⟨by decide, by decide⟩ kd_0 ln_0 cl_8 (Nat.le_of_ble_eq_true rfl) ⟨Nat.le_refl _, Nat.le_refl _⟩ ?_
    refine r_S1s cv_X8_229 dX8_wayOfFewestLiars_31 (c_bitCount (lrX im pl (nI t))) ⟨by decide, by decide⟩ (Nat.le_of_ble_eq_true rfl) ⟨Nat.le_refl _, Nat.le_refl _⟩ ?_
    refine r_istore dX8_wayOfFewestLiars_34 (by decide) ?_
    refine r_iload_n dX8_wayOfFewestLiars_36 rfl ?_
    refine r_iload dX8_wayOfFewestLiars_37 rfl ?_
    refine r_S2s cv_X8_163 dX8_wayOfFewestLiars_39 (c_has (wlX im pl) (nI t)) ⟨by decide, by decide⟩ (Nat.le_of_ble_eq_true rfl) ⟨Nat.le_refl _, Nat.le_refl _⟩ ?_
    refine r_bz_eq (tgt := 57) dX8_wayOfFewestLiars_42 (by decide) (fun h42 => ?_) (fun h42 => ?_)
    · refine r_iinc dX8_wayOfFewestLiars_57 rfl (by decide) (ix_inc rfl) ?_
      refine r_goto (tgt := 13) dX8_wayOfFewestLiars_60 (by decide) ?_
      refine r_lv (lv' := [(0, .ref 0), (1, .int (wlX im pl)), (2, .int ((wfF (wlX im pl) (fun w => bcI (lrX im pl w)) (t + 1)).1)), (3, .int ((wfF (wlX im pl) (fun w => bcI (lrX im pl w)) (t + 1)).2)), (4, .int (nI (t + 1)))]) (al_cons rfl (al_cons rfl (al_int rfl (by simp only [wfF, eq_self, Bool.false_eq_true, Bool.true_eq_false, if_true, if_false, reduceIte, true_and, and_true, false_and, and_false, true_or, or_true, false_or, or_false, not_true_eq_false, not_false_eq_true, Bool.not_true, Bool.not_false, Bool.true_and, Bool.and_true, Bool.false_and, Bool.and_false, decide_true, decide_false, h42]) (al_int rfl (by simp only [wfF, eq_self, Bool.false_eq_true, Bool.true_eq_false, if_true, if_false, reduceIte, true_and, and_true, false_and, and_false, true_or, or_true, false_or, or_false, not_true_eq_false, not_false_eq_true, Bool.not_true, Bool.not_false, Bool.true_and, Bool.and_true, Bool.false_and, Bool.and_false, decide_true, decide_false, h42]) (al_cons rfl al_nil))))) ?_
      exact iht
    · refine r_iload dX8_wayOfFewestLiars_45 rfl ?_
      refine r_iload_n dX8_wayOfFewestLiars_47 rfl ?_
      refine r_icmp_ge (tgt := 57) dX8_wayOfFewestLiars_48 (by decide) (fun h48 => ?_) (fun h48 => ?_)
      · refine r_iinc dX8_wayOfFewestLiars_57 rfl (by decide) (ix_inc rfl) ?_
        refine r_goto (tgt := 13) dX8_wayOfFewestLiars_60 (by decide) ?_
        refine r_lv (lv' := [(0, .ref 0), (1, .int (wlX im pl)), (2, .int ((wfF (wlX im pl) (fun w => bcI (lrX im pl w)) (t + 1)).1)), (3, .int ((wfF (wlX im pl) (fun w => bcI (lrX im pl w)) (t + 1)).2)), (4, .int (nI (t + 1)))]) (al_cons rfl (al_cons rfl (al_int rfl (by simp only [wfF, eq_self, Bool.false_eq_true, Bool.true_eq_false, if_true, if_false, reduceIte, true_and, and_true, false_and, and_false, true_or, or_true, false_or, or_false, not_true_eq_false, not_false_eq_true, Bool.not_true, Bool.not_false, Bool.true_and, Bool.and_true, Bool.false_and, Bool.and_false, decide_true, decide_false, h42, h48]) (al_int rfl (by simp only [wfF, eq_self, Bool.false_eq_true, Bool.true_eq_false, if_true, if_false, reduceIte, true_and, and_true, false_and, and_false, true_or, or_true, false_or, or_false, not_true_eq_false, not_false_eq_true, Bool.not_true, Bool.not_false, Bool.true_and, Bool.and_true, Bool.false_and, Bool.and_false, decide_true, decide_false, h42, h48]) (al_cons rfl al_nil))))) ?_
        exact iht
      · refine r_iload dX8_wayOfFewestLiars_51 rfl ?_
        refine r_istore_n dX8_wayOfFewestLiars_53 (by decide) ?_
        refine r_iload dX8_wayOfFewestLiars_54 rfl ?_
        refine r_istore_n dX8_wayOfFewestLiars_56 (by decide) ?_
        refine r_iinc dX8_wayOfFewestLiars_57 rfl (by decide) (ix_inc rfl) ?_
        refine r_goto (tgt := 13) dX8_wayOfFewestLiars_60 (by decide) ?_
        refine r_lv (lv' := [(0, .ref 0), (1, .int (wlX im pl)), (2, .int ((wfF (wlX im pl) (fun w => bcI (lrX im pl w)) (t + 1)).1)), (3, .int ((wfF (wlX im pl) (fun w => bcI (lrX im pl w)) (t + 1)).2)), (4, .int (nI (t + 1)))]) (al_cons rfl (al_cons rfl (al_int rfl (by simp only [wfF, eq_self, Bool.false_eq_true, Bool.true_eq_false, if_true, if_false, reduceIte, true_and, and_true, false_and, and_false, true_or, or_true, false_or, or_false, not_true_eq_false, not_false_eq_true, Bool.not_true, Bool.not_false, Bool.true_and, Bool.and_true, Bool.false_and, Bool.and_false, decide_true, decide_false, h42, h48]) (al_int rfl (by simp only [wfF, eq_self, Bool.false_eq_true, Bool.true_eq_false, if_true, if_false, reduceIte, true_and, and_true, false_and, and_false, true_or, or_true, false_or, or_false, not_true_eq_false, not_false_eq_true, Bool.not_true, Bool.not_false, Bool.true_and, Bool.and_true, Bool.false_and, Bool.and_false, decide_true, decide_false, h42, h48]) (al_cons rfl al_nil))))) ?_
        exact iht

set_option maxRecDepth 100000 in
set_option maxHeartbeats 4000000 in
theorem c_cheapest {im : IM} {pl it : Nat} (hc : CA im pl) (ways secrets : Int32) : MT YX8_cheapestTests 3 0 0 [.ref 0, .int ways, .int secrets] 137 im (RR pl it) (some (.int (ctX im pl ways secrets)), 137, im, RR pl it) := by
  obtain ⟨hC, W, T, S, hW, hW8, hT, hT6, hS, hS5⟩ := id hc
  have htW : tn (im pl 0) = W := by rw [hW, tn_nI (by omega)]
  have htT : tn (im pl 2) = T := by rw [hT, tn_nI (by omega)]
  have htS : tn (im pl 6) = S := by rw [hS, tn_nI (by omega)]
  have hsh : (1 : Int32) <<< (im pl 2 &&& 31) = nI (2 ^ T) := by rw [hT]; exact shl_nI T (by omega)
  have hpw : 2 ^ T ≤ 64 := Nat.pow_le_pow_right (n := 2) (by omega) hT6
  refine mt_of (by decide +kernel) (Nat.le_of_ble_eq_true rfl) ?_
  show WW _ _ _ _ _ _ _ 0 [(0, .ref 0), (1, .int ways), (2, .int secrets)] [] _ _ _
  refine r_iconst (v := (-1)) dX8_cheapestTests_0 (by decide) ?_
  refine r_istore_n dX8_cheapestTests_1 (by decide) ?_
  refine r_iconst (v := 0) dX8_cheapestTests_2 (by decide) ?_
  refine r_istore dX8_cheapestTests_3 (by decide) ?_
  refine r_iconst (v := 0) dX8_cheapestTests_5 (by decide) ?_
  refine r_istore dX8_cheapestTests_6 (by decide) ?_
  refine r_lv (lv' := [(0, .ref 0), (1, .int ways), (2, .int secrets), (3, .int ((ctF (fun s => lfS (im pl 0) (im pl 2) (im (pl + 2)) s) (fun s => orF (im (pl + 3)) s (tn (im pl 2))) (cyX im pl) ways secrets 0).1)), (4, .int ((ctF (fun s => lfS (im pl 0) (im pl 2) (im (pl + 2)) s) (fun s => orF (im (pl + 3)) s (tn (im pl 2))) (cyX im pl) ways secrets 0).2)), (5, .int (nI 0))]) (al_cons rfl (al_cons rfl (al_cons rfl (al_int rfl rfl (al_int rfl rfl (al_int rfl (by exact (cI 0)) al_nil)))))) ?_
  refine WW.loop (fun t => [(0, .ref 0), (1, .int ways), (2, .int secrets), (3, .int ((ctF (fun s => lfS (im pl 0) (im pl 2) (im (pl + 2)) s) (fun s => orF (im (pl + 3)) s (tn (im pl 2))) (cyX im pl) ways secrets t).1)), (4, .int ((ctF (fun s => lfS (im pl 0) (im pl 2) (im (pl + 2)) s) (fun s => orF (im (pl + 3)) s (tn (im pl 2))) (cyX im pl) ways secrets t).2)), (5, .int (nI t))]) (fun _ => im) (N := 2 ^ T) ?_ ?_ 0 (Nat.zero_le _)
  · show WW _ _ _ _ _ _ _ 8 [(0, .ref 0), (1, .int ways), (2, .int secrets), (3, .int ((ctF (fun s => lfS (im pl 0) (im pl 2) (im (pl + 2)) s) (fun s => orF (im (pl + 3)) s (tn (im pl 2))) (cyX im pl) ways secrets (2 ^ T)).1)), (4, .int ((ctF (fun s => lfS (im pl 0) (im pl 2) (im (pl + 2)) s) (fun s => orF (im (pl + 3)) s (tn (im pl 2))) (cyX im pl) ways secrets (2 ^ T)).2)), (5, .int (nI (2 ^ T)))] _ _ _ _
    refine r_iload dX8_cheapestTests_8 rfl ?_
    refine r_iconst (v := 1) dX8_cheapestTests_10 (by decide) ?_
    refine r_aload_n dX8_cheapestTests_11 rfl ?_
    refine r_getr fl_X8_23 dX8_cheapestTests_12 kd_0 ln_0 rfl rfl ?_
    refine r_geti fl_X8_99 dX8_cheapestTests_15 (kC0 hC) (lC0 hC) rfl ?_
    refine r_ishl dX8_cheapestTests_18 ?_
    refine r_icmp_ge_t (tgt := 109) dX8_cheapestTests_19 (by decide) (ix_le (hsh) rfl (Nat.le_refl _) (by omega)) ?_
    refine r_iload_n dX8_cheapestTests_109 rfl ?_
    exact r_iret dX8_cheapestTests_110 rfl (by rw [ctX, htT]) (Nat.le_refl _) (Nat.le_refl _)
  · intro t ht iht
    show WW _ _ _ _ _ _ _ 8 [(0, .ref 0), (1, .int ways), (2, .int secrets), (3, .int ((ctF (fun s => lfS (im pl 0) (im pl 2) (im (pl + 2)) s) (fun s => orF (im (pl + 3)) s (tn (im pl 2))) (cyX im pl) ways secrets t).1)), (4, .int ((ctF (fun s => lfS (im pl 0) (im pl 2) (im (pl + 2)) s) (fun s => orF (im (pl + 3)) s (tn (im pl 2))) (cyX im pl) ways secrets t).2)), (5, .int (nI t))] _ _ _ _
    refine r_iload dX8_cheapestTests_8 rfl ?_
    refine r_iconst (v := 1) dX8_cheapestTests_10 (by decide) ?_
    refine r_aload_n dX8_cheapestTests_11 rfl ?_
    refine r_getr fl_X8_23 dX8_cheapestTests_12 kd_0 ln_0 rfl rfl ?_
    refine r_geti fl_X8_99 dX8_cheapestTests_15 (kC0 hC) (lC0 hC) rfl ?_
    refine r_ishl dX8_cheapestTests_18 ?_
    refine r_icmp_ge_f (tgt := 109) dX8_cheapestTests_19 (by decide) (ix_nle (hsh) rfl ht (by omega)) ?_
    refine r_iload_n dX8_cheapestTests_22 rfl ?_
    refine r_aload_n dX8_cheapestTests_23 rfl ?_
    refine r_getr fl_X8_23 dX8_cheapestTests_24 kd_0 ln_0 rfl rfl ?_
    refine r_iload dX8_cheapestTests_27 rfl ?_
    refine r_V1s cv_X8_283 dX8_cheapestTests_29 (c_leftBy hc (nI t)) ⟨by decide, by decide⟩ (kC0 hC) (lC0 hC) cl_2 (Nat.le_of_ble_eq_true rfl) ⟨Nat.le_refl _, Nat.le_refl _⟩ ?_
    refine r_iand dX8_cheapestTests_32 ?_
    refine r_if_ne (tgt := 40) dX8_cheapestTests_33 (by decide) (fun h33 => ?_) (fun h33 => ?_)
    · refine r_iconst (v := 0) dX8_cheapestTests_40 (by decide) ?_
      refine r_istore dX8_cheapestTests_41 (by decide) ?_
      refine r_aload_n dX8_cheapestTests_43 rfl ?_
      refine r_getr fl_X8_23 dX8_cheapestTests_44 kd_0 ln_0 rfl rfl ?_
      refine r_iload dX8_cheapestTests_47 rfl ?_
      refine r_V1s cv_X8_130 dX8_cheapestTests_49 (c_secretsOf hc (nI t)) ⟨by decide, by decide⟩ (kC0 hC) (lC0 hC) cl_2 (Nat.le_of_ble_eq_true rfl) ⟨Nat.le_refl _, Nat.le_refl _⟩ ?_
      refine r_iload_n dX8_cheapestTests_52 rfl ?_
      refine r_iconst (v := (-1)) dX8_cheapestTests_53 (by decide) ?_
      refine r_ixor dX8_cheapestTests_54 ?_
      refine r_iand dX8_cheapestTests_55 ?_
      refine r_if_ne (tgt := 63) dX8_cheapestTests_56 (by decide) (fun h56 => ?_) (fun h56 => ?_)
      · refine r_iconst (v := 0) dX8_cheapestTests_63 (by decide) ?_
        refine r_istore dX8_cheapestTests_64 (by decide) ?_
        refine r_aload_n dX8_cheapestTests_66 rfl ?_
        refine r_iload dX8_cheapestTests_67 rfl ?_
        refine r_V1s cv_X8_237 dX8_cheapestTests_69 (c_costYet hc (nI t)) ⟨by decide, by decide⟩ kd_0 ln_0 cl_8 (Nat.le_of_ble_eq_true rfl) ⟨Nat.le_refl _, Nat.le_refl _⟩ ?_
        refine r_istore dX8_cheapestTests_72 (by decide) ?_
        refine r_iload dX8_cheapestTests_74 rfl ?_
        refine r_if_eq_t (tgt := 103) dX8_cheapestTests_76 (by decide) (by decide) ?_
        refine r_iinc dX8_cheapestTests_103 rfl (by decide) (ix_inc rfl) ?_
        refine r_goto (tgt := 8) dX8_cheapestTests_106 (by decide) ?_
        refine r_lv (lv' := [(0, .ref 0), (1, .int ways), (2, .int secrets), (3, .int ((ctF (fun s => lfS (im pl 0) (im pl 2) (im (pl + 2)) s) (fun s => orF (im (pl + 3)) s (tn (im pl 2))) (cyX im pl) ways secrets (t + 1)).1)), (4, .int ((ctF (fun s => lfS (im pl 0) (im pl 2) (im (pl + 2)) s) (fun s => orF (im (pl + 3)) s (tn (im pl 2))) (cyX im pl) ways secrets (t + 1)).2)), (5, .int (nI (t + 1)))]) (al_cons rfl (al_cons rfl (al_cons rfl (al_int rfl (by simp only [ctF, eq_self, Bool.false_eq_true, Bool.true_eq_false, if_true, if_false, reduceIte, true_and, and_true, false_and, and_false, true_or, or_true, false_or, or_false, not_true_eq_false, not_false_eq_true, Bool.not_true, Bool.not_false, Bool.true_and, Bool.and_true, Bool.false_and, Bool.and_false, decide_true, decide_false, h33, h56]) (al_int rfl (by simp only [ctF, eq_self, Bool.false_eq_true, Bool.true_eq_false, if_true, if_false, reduceIte, true_and, and_true, false_and, and_false, true_or, or_true, false_or, or_false, not_true_eq_false, not_false_eq_true, Bool.not_true, Bool.not_false, Bool.true_and, Bool.and_true, Bool.false_and, Bool.and_false, decide_true, decide_false, h33, h56]) (al_cons rfl al_nil)))))) ?_
        exact iht
      · refine r_iconst (v := 1) dX8_cheapestTests_59 (by decide) ?_
        refine r_goto (tgt := 64) dX8_cheapestTests_60 (by decide) ?_
        refine r_istore dX8_cheapestTests_64 (by decide) ?_
        refine r_aload_n dX8_cheapestTests_66 rfl ?_
        refine r_iload dX8_cheapestTests_67 rfl ?_
        refine r_V1s cv_X8_237 dX8_cheapestTests_69 (c_costYet hc (nI t)) ⟨by decide, by decide⟩ kd_0 ln_0 cl_8 (Nat.le_of_ble_eq_true rfl) ⟨Nat.le_refl _, Nat.le_refl _⟩ ?_
        refine r_istore dX8_cheapestTests_72 (by decide) ?_
        refine r_iload dX8_cheapestTests_74 rfl ?_
        refine r_if_eq_t (tgt := 103) dX8_cheapestTests_76 (by decide) (by decide) ?_
        refine r_iinc dX8_cheapestTests_103 rfl (by decide) (ix_inc rfl) ?_
        refine r_goto (tgt := 8) dX8_cheapestTests_106 (by decide) ?_
        refine r_lv (lv' := [(0, .ref 0), (1, .int ways), (2, .int secrets), (3, .int ((ctF (fun s => lfS (im pl 0) (im pl 2) (im (pl + 2)) s) (fun s => orF (im (pl + 3)) s (tn (im pl 2))) (cyX im pl) ways secrets (t + 1)).1)), (4, .int ((ctF (fun s => lfS (im pl 0) (im pl 2) (im (pl + 2)) s) (fun s => orF (im (pl + 3)) s (tn (im pl 2))) (cyX im pl) ways secrets (t + 1)).2)), (5, .int (nI (t + 1)))]) (al_cons rfl (al_cons rfl (al_cons rfl (al_int rfl (by simp only [ctF, eq_self, Bool.false_eq_true, Bool.true_eq_false, if_true, if_false, reduceIte, true_and, and_true, false_and, and_false, true_or, or_true, false_or, or_false, not_true_eq_false, not_false_eq_true, Bool.not_true, Bool.not_false, Bool.true_and, Bool.and_true, Bool.false_and, Bool.and_false, decide_true, decide_false, h33, eq_true h56]) (al_int rfl (by simp only [ctF, eq_self, Bool.false_eq_true, Bool.true_eq_false, if_true, if_false, reduceIte, true_and, and_true, false_and, and_false, true_or, or_true, false_or, or_false, not_true_eq_false, not_false_eq_true, Bool.not_true, Bool.not_false, Bool.true_and, Bool.and_true, Bool.false_and, Bool.and_false, decide_true, decide_false, h33, eq_true h56]) (al_cons rfl al_nil)))))) ?_
        exact iht
    · refine r_iconst (v := 1) dX8_cheapestTests_36 (by decide) ?_
      refine r_goto (tgt := 41) dX8_cheapestTests_37 (by decide) ?_
      refine r_istore dX8_cheapestTests_41 (by decide) ?_
      refine r_aload_n dX8_cheapestTests_43 rfl ?_
      refine r_getr fl_X8_23 dX8_cheapestTests_44 kd_0 ln_0 rfl rfl ?_
      refine r_iload dX8_cheapestTests_47 rfl ?_
      refine r_V1s cv_X8_130 dX8_cheapestTests_49 (c_secretsOf hc (nI t)) ⟨by decide, by decide⟩ (kC0 hC) (lC0 hC) cl_2 (Nat.le_of_ble_eq_true rfl) ⟨Nat.le_refl _, Nat.le_refl _⟩ ?_
      refine r_iload_n dX8_cheapestTests_52 rfl ?_
      refine r_iconst (v := (-1)) dX8_cheapestTests_53 (by decide) ?_
      refine r_ixor dX8_cheapestTests_54 ?_
      refine r_iand dX8_cheapestTests_55 ?_
      refine r_if_ne (tgt := 63) dX8_cheapestTests_56 (by decide) (fun h56 => ?_) (fun h56 => ?_)
      · refine r_iconst (v := 0) dX8_cheapestTests_63 (by decide) ?_
        refine r_istore dX8_cheapestTests_64 (by decide) ?_
        refine r_aload_n dX8_cheapestTests_66 rfl ?_
        refine r_iload dX8_cheapestTests_67 rfl ?_
        refine r_V1s cv_X8_237 dX8_cheapestTests_69 (c_costYet hc (nI t)) ⟨by decide, by decide⟩ kd_0 ln_0 cl_8 (Nat.le_of_ble_eq_true rfl) ⟨Nat.le_refl _, Nat.le_refl _⟩ ?_
        refine r_istore dX8_cheapestTests_72 (by decide) ?_
        refine r_iload dX8_cheapestTests_74 rfl ?_
        refine r_if_eq_f (tgt := 103) dX8_cheapestTests_76 (by decide) (by decide) ?_
        refine r_iload dX8_cheapestTests_79 rfl ?_
        refine r_if_eq_t (tgt := 103) dX8_cheapestTests_81 (by decide) (by decide) ?_
        refine r_iinc dX8_cheapestTests_103 rfl (by decide) (ix_inc rfl) ?_
        refine r_goto (tgt := 8) dX8_cheapestTests_106 (by decide) ?_
        refine r_lv (lv' := [(0, .ref 0), (1, .int ways), (2, .int secrets), (3, .int ((ctF (fun s => lfS (im pl 0) (im pl 2) (im (pl + 2)) s) (fun s => orF (im (pl + 3)) s (tn (im pl 2))) (cyX im pl) ways secrets (t + 1)).1)), (4, .int ((ctF (fun s => lfS (im pl 0) (im pl 2) (im (pl + 2)) s) (fun s => orF (im (pl + 3)) s (tn (im pl 2))) (cyX im pl) ways secrets (t + 1)).2)), (5, .int (nI (t + 1)))]) (al_cons rfl (al_cons rfl (al_cons rfl (al_int rfl (by simp only [ctF, eq_self, Bool.false_eq_true, Bool.true_eq_false, if_true, if_false, reduceIte, true_and, and_true, false_and, and_false, true_or, or_true, false_or, or_false, not_true_eq_false, not_false_eq_true, Bool.not_true, Bool.not_false, Bool.true_and, Bool.and_true, Bool.false_and, Bool.and_false, decide_true, decide_false, eq_true h33, h56]) (al_int rfl (by simp only [ctF, eq_self, Bool.false_eq_true, Bool.true_eq_false, if_true, if_false, reduceIte, true_and, and_true, false_and, and_false, true_or, or_true, false_or, or_false, not_true_eq_false, not_false_eq_true, Bool.not_true, Bool.not_false, Bool.true_and, Bool.and_true, Bool.false_and, Bool.and_false, decide_true, decide_false, eq_true h33, h56]) (al_cons rfl al_nil)))))) ?_
        exact iht
      · refine r_iconst (v := 1) dX8_cheapestTests_59 (by decide) ?_
        refine r_goto (tgt := 64) dX8_cheapestTests_60 (by decide) ?_
        refine r_istore dX8_cheapestTests_64 (by decide) ?_
        refine r_aload_n dX8_cheapestTests_66 rfl ?_
        refine r_iload dX8_cheapestTests_67 rfl ?_
        refine r_V1s cv_X8_237 dX8_cheapestTests_69 (c_costYet hc (nI t)) ⟨by decide, by decide⟩ kd_0 ln_0 cl_8 (Nat.le_of_ble_eq_true rfl) ⟨Nat.le_refl _, Nat.le_refl _⟩ ?_
        refine r_istore dX8_cheapestTests_72 (by decide) ?_
        refine r_iload dX8_cheapestTests_74 rfl ?_
        refine r_if_eq_f (tgt := 103) dX8_cheapestTests_76 (by decide) (by decide) ?_
        refine r_iload dX8_cheapestTests_79 rfl ?_
        refine r_if_eq_f (tgt := 103) dX8_cheapestTests_81 (by decide) (by decide) ?_
        refine r_iload_n dX8_cheapestTests_84 rfl ?_
        refine r_iconst (v := (-1)) dX8_cheapestTests_85 (by decide) ?_
        refine r_icmp_eq (tgt := 96) dX8_cheapestTests_86 (by decide) (fun h86 => ?_) (fun h86 => ?_)
        · refine r_iload dX8_cheapestTests_96 rfl ?_
          refine r_istore_n dX8_cheapestTests_98 (by decide) ?_
          refine r_iload dX8_cheapestTests_99 rfl ?_
          refine r_istore dX8_cheapestTests_101 (by decide) ?_
          refine r_iinc dX8_cheapestTests_103 rfl (by decide) (ix_inc rfl) ?_
          refine r_goto (tgt := 8) dX8_cheapestTests_106 (by decide) ?_
          refine r_lv (lv' := [(0, .ref 0), (1, .int ways), (2, .int secrets), (3, .int ((ctF (fun s => lfS (im pl 0) (im pl 2) (im (pl + 2)) s) (fun s => orF (im (pl + 3)) s (tn (im pl 2))) (cyX im pl) ways secrets (t + 1)).1)), (4, .int ((ctF (fun s => lfS (im pl 0) (im pl 2) (im (pl + 2)) s) (fun s => orF (im (pl + 3)) s (tn (im pl 2))) (cyX im pl) ways secrets (t + 1)).2)), (5, .int (nI (t + 1)))]) (al_cons rfl (al_cons rfl (al_cons rfl (al_int rfl (by simp only [ctF, eq_self, Bool.false_eq_true, Bool.true_eq_false, if_true, if_false, reduceIte, true_and, and_true, false_and, and_false, true_or, or_true, false_or, or_false, not_true_eq_false, not_false_eq_true, Bool.not_true, Bool.not_false, Bool.true_and, Bool.and_true, Bool.false_and, Bool.and_false, decide_true, decide_false, eq_true h33, eq_true h56, eq_true h86]) (al_int rfl (by simp only [ctF, eq_self, Bool.false_eq_true, Bool.true_eq_false, if_true, if_false, reduceIte, true_and, and_true, false_and, and_false, true_or, or_true, false_or, or_false, not_true_eq_false, not_false_eq_true, Bool.not_true, Bool.not_false, Bool.true_and, Bool.and_true, Bool.false_and, Bool.and_false, decide_true, decide_false, eq_true h33, eq_true h56, eq_true h86]) (al_cons rfl al_nil)))))) ?_
          exact iht
        · refine r_iload dX8_cheapestTests_89 rfl ?_
          refine r_iload dX8_cheapestTests_91 rfl ?_
          refine r_icmp_ge (tgt := 103) dX8_cheapestTests_93 (by decide) (fun h93 => ?_) (fun h93 => ?_)
          · refine r_iinc dX8_cheapestTests_103 rfl (by decide) (ix_inc rfl) ?_
            refine r_goto (tgt := 8) dX8_cheapestTests_106 (by decide) ?_
            refine r_lv (lv' := [(0, .ref 0), (1, .int ways), (2, .int secrets), (3, .int ((ctF (fun s => lfS (im pl 0) (im pl 2) (im (pl + 2)) s) (fun s => orF (im (pl + 3)) s (tn (im pl 2))) (cyX im pl) ways secrets (t + 1)).1)), (4, .int ((ctF (fun s => lfS (im pl 0) (im pl 2) (im (pl + 2)) s) (fun s => orF (im (pl + 3)) s (tn (im pl 2))) (cyX im pl) ways secrets (t + 1)).2)), (5, .int (nI (t + 1)))]) (al_cons rfl (al_cons rfl (al_cons rfl (al_int rfl (by simp only [ctF, eq_self, Bool.false_eq_true, Bool.true_eq_false, if_true, if_false, reduceIte, true_and, and_true, false_and, and_false, true_or, or_true, false_or, or_false, not_true_eq_false, not_false_eq_true, Bool.not_true, Bool.not_false, Bool.true_and, Bool.and_true, Bool.false_and, Bool.and_false, decide_true, decide_false, eq_true h33, eq_true h56, h86, h93]) (al_int rfl (by simp only [ctF, eq_self, Bool.false_eq_true, Bool.true_eq_false, if_true, if_false, reduceIte, true_and, and_true, false_and, and_false, true_or, or_true, false_or, or_false, not_true_eq_false, not_false_eq_true, Bool.not_true, Bool.not_false, Bool.true_and, Bool.and_true, Bool.false_and, Bool.and_false, decide_true, decide_false, eq_true h33, eq_true h56, h86, h93]) (al_cons rfl al_nil)))))) ?_
            exact iht
          · refine r_iload dX8_cheapestTests_96 rfl ?_
            refine r_istore_n dX8_cheapestTests_98 (by decide) ?_
            refine r_iload dX8_cheapestTests_99 rfl ?_
            refine r_istore dX8_cheapestTests_101 (by decide) ?_
            refine r_iinc dX8_cheapestTests_103 rfl (by decide) (ix_inc rfl) ?_
            refine r_goto (tgt := 8) dX8_cheapestTests_106 (by decide) ?_
            refine r_lv (lv' := [(0, .ref 0), (1, .int ways), (2, .int secrets), (3, .int ((ctF (fun s => lfS (im pl 0) (im pl 2) (im (pl + 2)) s) (fun s => orF (im (pl + 3)) s (tn (im pl 2))) (cyX im pl) ways secrets (t + 1)).1)), (4, .int ((ctF (fun s => lfS (im pl 0) (im pl 2) (im (pl + 2)) s) (fun s => orF (im (pl + 3)) s (tn (im pl 2))) (cyX im pl) ways secrets (t + 1)).2)), (5, .int (nI (t + 1)))]) (al_cons rfl (al_cons rfl (al_cons rfl (al_int rfl (by simp only [ctF, eq_self, Bool.false_eq_true, Bool.true_eq_false, if_true, if_false, reduceIte, true_and, and_true, false_and, and_false, true_or, or_true, false_or, or_false, not_true_eq_false, not_false_eq_true, Bool.not_true, Bool.not_false, Bool.true_and, Bool.and_true, Bool.false_and, Bool.and_false, decide_true, decide_false, eq_true h33, eq_true h56, h86, h93]) (al_int rfl (by simp only [ctF, eq_self, Bool.false_eq_true, Bool.true_eq_false, if_true, if_false, reduceIte, true_and, and_true, false_and, and_false, true_or, or_true, false_or, or_false, not_true_eq_false, not_false_eq_true, Bool.not_true, Bool.not_false, Bool.true_and, Bool.and_true, Bool.false_and, Bool.and_false, decide_true, decide_false, eq_true h33, eq_true h56, h86, h93]) (al_cons rfl al_nil)))))) ?_
            exact iht

set_option maxRecDepth 100000 in
set_option maxHeartbeats 4000000 in
theorem c_next {im : IM} {pl it : Nat} (hc : CA im pl) : MT YX8_next 3 0 0 [.ref 0] 137 im (RR pl it) (some (.int (nxX im pl)), 137, im, RR pl it) := by
  obtain ⟨hC, W, T, S, hW, hW8, hT, hT6, hS, hS5⟩ := id hc
  have htW : tn (im pl 0) = W := by rw [hW, tn_nI (by omega)]
  have htT : tn (im pl 2) = T := by rw [hT, tn_nI (by omega)]
  have htS : tn (im pl 6) = S := by rw [hS, tn_nI (by omega)]
  refine mt_of (by decide +kernel) (Nat.le_of_ble_eq_true rfl) ?_
  show WW _ _ _ _ _ _ _ 0 [(0, .ref 0)] [] _ _ _
  refine r_aload_n dX8_next_0 rfl ?_
  refine r_V0s cv_X8_127 dX8_next_1 (c_waysLeft hc) ⟨by decide, by decide⟩ kd_0 ln_0 cl_8 (Nat.le_of_ble_eq_true rfl) ⟨Nat.le_refl _, Nat.le_refl _⟩ ?_
  refine r_istore_n dX8_next_4 (by decide) ?_
  refine r_iconst (v := (-1)) dX8_next_5 (by decide) ?_
  refine r_istore_n dX8_next_6 (by decide) ?_
  refine r_aload_n dX8_next_7 rfl ?_
  refine r_getr fl_X8_23 dX8_next_8 kd_0 ln_0 rfl rfl ?_
  refine r_iload_n dX8_next_11 rfl ?_
  refine r_V1s cv_X8_240 dX8_next_12 (c_likelyOf hc (wlX im pl)) ⟨by decide, by decide⟩ (kC0 hC) (lC0 hC) cl_2 (Nat.le_of_ble_eq_true rfl) ⟨Nat.le_refl _, Nat.le_refl _⟩ ?_
  refine r_istore_n dX8_next_15 (by decide) ?_
  refine r_iconst (v := 0) dX8_next_16 (by decide) ?_
  refine r_istore dX8_next_17 (by decide) ?_
  refine r_lv (lv' := [(0, .ref 0), (1, .int (wlX im pl)), (2, .int ((nxF (im 17 4) (wlX im pl) (fun s => smF (im (pl + 1)) s (tn (im pl 0))) (im (pl + 2)) (im (pl + 4)) 0).1)), (3, .int ((nxF (im 17 4) (wlX im pl) (fun s => smF (im (pl + 1)) s (tn (im pl 0))) (im (pl + 2)) (im (pl + 4)) 0).2)), (4, .int (nI 0))]) (al_cons rfl (al_cons rfl (al_int rfl rfl (al_int rfl rfl (al_int rfl (by exact (cI 0)) al_nil))))) ?_
  refine WW.loop (fun t => [(0, .ref 0), (1, .int (wlX im pl)), (2, .int ((nxF (im 17 4) (wlX im pl) (fun s => smF (im (pl + 1)) s (tn (im pl 0))) (im (pl + 2)) (im (pl + 4)) t).1)), (3, .int ((nxF (im 17 4) (wlX im pl) (fun s => smF (im (pl + 1)) s (tn (im pl 0))) (im (pl + 2)) (im (pl + 4)) t).2)), (4, .int (nI t))]) (fun _ => im) (N := T) ?_ ?_ 0 (Nat.zero_le _)
  · show WW _ _ _ _ _ _ _ 19 [(0, .ref 0), (1, .int (wlX im pl)), (2, .int ((nxF (im 17 4) (wlX im pl) (fun s => smF (im (pl + 1)) s (tn (im pl 0))) (im (pl + 2)) (im (pl + 4)) T).1)), (3, .int ((nxF (im 17 4) (wlX im pl) (fun s => smF (im (pl + 1)) s (tn (im pl 0))) (im (pl + 2)) (im (pl + 4)) T).2)), (4, .int (nI T))] _ _ _ _
    refine r_iload dX8_next_19 rfl ?_
    refine r_aload_n dX8_next_21 rfl ?_
    refine r_getr fl_X8_23 dX8_next_22 kd_0 ln_0 rfl rfl ?_
    refine r_geti fl_X8_99 dX8_next_25 (kC0 hC) (lC0 hC) rfl ?_
    refine r_icmp_ge_t (tgt := 135) dX8_next_28 (by decide) (ix_le hT rfl (by omega) (by omega)) ?_
    refine r_iload_n dX8_next_135 rfl ?_
    exact r_iret dX8_next_136 rfl (by rw [nxX, htT]) (Nat.le_refl _) (Nat.le_refl _)
  · intro t ht iht
    show WW _ _ _ _ _ _ _ 19 [(0, .ref 0), (1, .int (wlX im pl)), (2, .int ((nxF (im 17 4) (wlX im pl) (fun s => smF (im (pl + 1)) s (tn (im pl 0))) (im (pl + 2)) (im (pl + 4)) t).1)), (3, .int ((nxF (im 17 4) (wlX im pl) (fun s => smF (im (pl + 1)) s (tn (im pl 0))) (im (pl + 2)) (im (pl + 4)) t).2)), (4, .int (nI t))] _ _ _ _
    refine r_iload dX8_next_19 rfl ?_
    refine r_aload_n dX8_next_21 rfl ?_
    refine r_getr fl_X8_23 dX8_next_22 kd_0 ln_0 rfl rfl ?_
    refine r_geti fl_X8_99 dX8_next_25 (kC0 hC) (lC0 hC) rfl ?_
    refine r_icmp_ge_f (tgt := 135) dX8_next_28 (by decide) (ix_nle hT rfl (by omega) (by omega)) ?_
    refine r_aload_n dX8_next_31 rfl ?_
    refine r_getr fl_X8_30 dX8_next_32 kd_0 ln_0 rfl rfl ?_
    refine r_geti fl_X8_124 dX8_next_35 kd_17 ln_17 rfl ?_
    refine r_iload dX8_next_38 rfl ?_
    refine r_S2s cv_X8_163 dX8_next_40 (c_has (im 17 4) (nI t)) ⟨by decide, by decide⟩ (Nat.le_of_ble_eq_true rfl) ⟨Nat.le_refl _, Nat.le_refl _⟩ ?_
    refine r_bz_eq (tgt := 49) dX8_next_43 (by decide) (fun h43 => ?_) (fun h43 => ?_)
    · refine r_aload_n dX8_next_49 rfl ?_
      refine r_getr fl_X8_23 dX8_next_50 kd_0 ln_0 rfl rfl ?_
      refine r_iload_n dX8_next_53 rfl ?_
      refine r_aload_n dX8_next_54 rfl ?_
      refine r_getr fl_X8_23 dX8_next_55 kd_0 ln_0 rfl rfl ?_
      refine r_getr fl_X8_154 dX8_next_58 (kC0 hC) (lC0 hC) rfl (rrC3 hC) ?_
      refine r_iload dX8_next_61 rfl ?_
      refine r_iald (j := t) dX8_next_63 (kC2 hC) (lC2 hC) rfl (by omega) (by decide) ?_
      refine r_iconst (v := (-1)) dX8_next_64 (by decide) ?_
      refine r_ixor dX8_next_65 ?_
      refine r_iand dX8_next_66 ?_
      refine r_V1s cv_X8_240 dX8_next_67 (c_likelyOf hc ((wlX im pl) &&& ((im (pl + 2) t) ^^^ (-1)))) ⟨by decide, by decide⟩ (kC0 hC) (lC0 hC) cl_2 (Nat.le_of_ble_eq_true rfl) ⟨Nat.le_refl _, Nat.le_refl _⟩ ?_
      refine r_istore dX8_next_70 (by decide) ?_
      refine r_iload_n dX8_next_72 rfl ?_
      refine r_iconst (v := (-1)) dX8_next_73 (by decide) ?_
      refine r_icmp_eq (tgt := 109) dX8_next_74 (by decide) (fun h74 => ?_) (fun h74 => ?_)
      · refine r_iconst (v := 0) dX8_next_109 (by decide) ?_
        refine r_istore dX8_next_110 (by decide) ?_
        refine r_iload dX8_next_112 rfl ?_
        refine r_iload_n dX8_next_114 rfl ?_
        refine r_icmp_lt (tgt := 123) dX8_next_115 (by decide) (fun h115 => ?_) (fun h115 => ?_)
        · refine r_iload dX8_next_123 rfl ?_
          refine r_istore_n dX8_next_125 (by decide) ?_
          refine r_iload dX8_next_126 rfl ?_
          refine r_istore_n dX8_next_128 (by decide) ?_
          refine r_iinc dX8_next_129 rfl (by decide) (ix_inc rfl) ?_
          refine r_goto (tgt := 19) dX8_next_132 (by decide) ?_
          refine r_lv (lv' := [(0, .ref 0), (1, .int (wlX im pl)), (2, .int ((nxF (im 17 4) (wlX im pl) (fun s => smF (im (pl + 1)) s (tn (im pl 0))) (im (pl + 2)) (im (pl + 4)) (t + 1)).1)), (3, .int ((nxF (im 17 4) (wlX im pl) (fun s => smF (im (pl + 1)) s (tn (im pl 0))) (im (pl + 2)) (im (pl + 4)) (t + 1)).2)), (4, .int (nI (t + 1)))]) (al_cons rfl (al_cons rfl (al_int rfl (by rw [nxF, if_neg (show ¬ _ = true by rw [h43]; decide), if_pos (Or.inl h115)]) (al_int rfl (by rw [nxF, if_neg (show ¬ _ = true by rw [h43]; decide), if_pos (Or.inl h115)]) (al_cons rfl al_nil))))) ?_
          exact iht
        · refine r_iload dX8_next_118 rfl ?_
          refine r_if_eq_t (tgt := 129) dX8_next_120 (by decide) (by decide) ?_
          refine r_iinc dX8_next_129 rfl (by decide) (ix_inc rfl) ?_
          refine r_goto (tgt := 19) dX8_next_132 (by decide) ?_
          refine r_lv (lv' := [(0, .ref 0), (1, .int (wlX im pl)), (2, .int ((nxF (im 17 4) (wlX im pl) (fun s => smF (im (pl + 1)) s (tn (im pl 0))) (im (pl + 2)) (im (pl + 4)) (t + 1)).1)), (3, .int ((nxF (im 17 4) (wlX im pl) (fun s => smF (im (pl + 1)) s (tn (im pl 0))) (im (pl + 2)) (im (pl + 4)) (t + 1)).2)), (4, .int (nI (t + 1)))]) (al_cons rfl (al_cons rfl (al_int rfl (by rw [nxF, if_neg (show ¬ _ = true by rw [h43]; decide), if_neg (by rintro (q | ⟨q, -⟩); exact h115 q; exact q h74)]) (al_int rfl (by rw [nxF, if_neg (show ¬ _ = true by rw [h43]; decide), if_neg (by rintro (q | ⟨q, -⟩); exact h115 q; exact q h74)]) (al_cons rfl al_nil))))) ?_
          exact iht
      · refine r_iload dX8_next_77 rfl ?_
        refine r_iload_n dX8_next_79 rfl ?_
        refine r_icmp_ne (tgt := 109) dX8_next_80 (by decide) (fun h80 => ?_) (fun h80 => ?_)
        · refine r_iconst (v := 0) dX8_next_109 (by decide) ?_
          refine r_istore dX8_next_110 (by decide) ?_
          refine r_iload dX8_next_112 rfl ?_
          refine r_iload_n dX8_next_114 rfl ?_
          refine r_icmp_lt (tgt := 123) dX8_next_115 (by decide) (fun h115 => ?_) (fun h115 => ?_)
          · refine r_iload dX8_next_123 rfl ?_
            refine r_istore_n dX8_next_125 (by decide) ?_
            refine r_iload dX8_next_126 rfl ?_
            refine r_istore_n dX8_next_128 (by decide) ?_
            refine r_iinc dX8_next_129 rfl (by decide) (ix_inc rfl) ?_
            refine r_goto (tgt := 19) dX8_next_132 (by decide) ?_
            refine r_lv (lv' := [(0, .ref 0), (1, .int (wlX im pl)), (2, .int ((nxF (im 17 4) (wlX im pl) (fun s => smF (im (pl + 1)) s (tn (im pl 0))) (im (pl + 2)) (im (pl + 4)) (t + 1)).1)), (3, .int ((nxF (im 17 4) (wlX im pl) (fun s => smF (im (pl + 1)) s (tn (im pl 0))) (im (pl + 2)) (im (pl + 4)) (t + 1)).2)), (4, .int (nI (t + 1)))]) (al_cons rfl (al_cons rfl (al_int rfl (by rw [nxF, if_neg (show ¬ _ = true by rw [h43]; decide), if_pos (Or.inl h115)]) (al_int rfl (by rw [nxF, if_neg (show ¬ _ = true by rw [h43]; decide), if_pos (Or.inl h115)]) (al_cons rfl al_nil))))) ?_
            exact iht
          · refine r_iload dX8_next_118 rfl ?_
            refine r_if_eq_t (tgt := 129) dX8_next_120 (by decide) (by decide) ?_
            refine r_iinc dX8_next_129 rfl (by decide) (ix_inc rfl) ?_
            refine r_goto (tgt := 19) dX8_next_132 (by decide) ?_
            refine r_lv (lv' := [(0, .ref 0), (1, .int (wlX im pl)), (2, .int ((nxF (im 17 4) (wlX im pl) (fun s => smF (im (pl + 1)) s (tn (im pl 0))) (im (pl + 2)) (im (pl + 4)) (t + 1)).1)), (3, .int ((nxF (im 17 4) (wlX im pl) (fun s => smF (im (pl + 1)) s (tn (im pl 0))) (im (pl + 2)) (im (pl + 4)) (t + 1)).2)), (4, .int (nI (t + 1)))]) (al_cons rfl (al_cons rfl (al_int rfl (by rw [nxF, if_neg (show ¬ _ = true by rw [h43]; decide), if_neg (by rintro (q | ⟨-, q, -⟩); exact h115 q; exact h80 q)]) (al_int rfl (by rw [nxF, if_neg (show ¬ _ = true by rw [h43]; decide), if_neg (by rintro (q | ⟨-, q, -⟩); exact h115 q; exact h80 q)]) (al_cons rfl al_nil))))) ?_
            exact iht
        · refine r_aload_n dX8_next_83 rfl ?_
          refine r_getr fl_X8_23 dX8_next_84 kd_0 ln_0 rfl rfl ?_
          refine r_getr fl_X8_160 dX8_next_87 (kC0 hC) (lC0 hC) rfl (rrC5 hC) ?_
          refine r_iload dX8_next_90 rfl ?_
          refine r_iald (j := t) dX8_next_92 (kC4 hC) (lC4 hC) rfl (by omega) (by decide) ?_
          obtain ⟨jb, hjb, hb⟩ := (nxF_b (im 17 4) (wlX im pl) (fun s => smF (im (pl + 1)) s (tn (im pl 0))) (im (pl + 2)) (im (pl + 4)) t).resolve_left h74
          have htb : tn (nxF (im 17 4) (wlX im pl) (fun s => smF (im (pl + 1)) s (tn (im pl 0))) (im (pl + 2)) (im (pl + 4)) t).1 = jb := by rw [hb, tn_nI (by omega)]
          refine r_aload_n dX8_next_93 rfl ?_
          refine r_getr fl_X8_23 dX8_next_94 kd_0 ln_0 rfl rfl ?_
          refine r_getr fl_X8_160 dX8_next_97 (kC0 hC) (lC0 hC) rfl (rrC5 hC) ?_
          refine r_iload_n dX8_next_100 rfl ?_
          refine r_iald (j := jb) dX8_next_101 (kC4 hC) (lC4 hC) hb (by omega) (by decide) ?_
          refine r_icmp_ge (tgt := 109) dX8_next_102 (by decide) (fun h102 => ?_) (fun h102 => ?_)
          · refine r_iconst (v := 0) dX8_next_109 (by decide) ?_
            refine r_istore dX8_next_110 (by decide) ?_
            refine r_iload dX8_next_112 rfl ?_
            refine r_iload_n dX8_next_114 rfl ?_
            refine r_icmp_lt (tgt := 123) dX8_next_115 (by decide) (fun h115 => ?_) (fun h115 => ?_)
            · refine r_iload dX8_next_123 rfl ?_
              refine r_istore_n dX8_next_125 (by decide) ?_
              refine r_iload dX8_next_126 rfl ?_
              refine r_istore_n dX8_next_128 (by decide) ?_
              refine r_iinc dX8_next_129 rfl (by decide) (ix_inc rfl) ?_
              refine r_goto (tgt := 19) dX8_next_132 (by decide) ?_
              refine r_lv (lv' := [(0, .ref 0), (1, .int (wlX im pl)), (2, .int ((nxF (im 17 4) (wlX im pl) (fun s => smF (im (pl + 1)) s (tn (im pl 0))) (im (pl + 2)) (im (pl + 4)) (t + 1)).1)), (3, .int ((nxF (im 17 4) (wlX im pl) (fun s => smF (im (pl + 1)) s (tn (im pl 0))) (im (pl + 2)) (im (pl + 4)) (t + 1)).2)), (4, .int (nI (t + 1)))]) (al_cons rfl (al_cons rfl (al_int rfl (by rw [nxF, if_neg (show ¬ _ = true by rw [h43]; decide), if_pos (Or.inl h115)]) (al_int rfl (by rw [nxF, if_neg (show ¬ _ = true by rw [h43]; decide), if_pos (Or.inl h115)]) (al_cons rfl al_nil))))) ?_
              exact iht
            · refine r_iload dX8_next_118 rfl ?_
              refine r_if_eq_t (tgt := 129) dX8_next_120 (by decide) (by decide) ?_
              refine r_iinc dX8_next_129 rfl (by decide) (ix_inc rfl) ?_
              refine r_goto (tgt := 19) dX8_next_132 (by decide) ?_
              refine r_lv (lv' := [(0, .ref 0), (1, .int (wlX im pl)), (2, .int ((nxF (im 17 4) (wlX im pl) (fun s => smF (im (pl + 1)) s (tn (im pl 0))) (im (pl + 2)) (im (pl + 4)) (t + 1)).1)), (3, .int ((nxF (im 17 4) (wlX im pl) (fun s => smF (im (pl + 1)) s (tn (im pl 0))) (im (pl + 2)) (im (pl + 4)) (t + 1)).2)), (4, .int (nI (t + 1)))]) (al_cons rfl (al_cons rfl (al_int rfl (by rw [nxF, if_neg (show ¬ _ = true by rw [h43]; decide), if_neg (by rintro (q | ⟨-, -, q⟩); exact h115 q; exact q (by rw [htb]; exact h102))]) (al_int rfl (by rw [nxF, if_neg (show ¬ _ = true by rw [h43]; decide), if_neg (by rintro (q | ⟨-, -, q⟩); exact h115 q; exact q (by rw [htb]; exact h102))]) (al_cons rfl al_nil))))) ?_
              exact iht
          · refine r_iconst (v := 1) dX8_next_105 (by decide) ?_
            refine r_goto (tgt := 110) dX8_next_106 (by decide) ?_
            refine r_istore dX8_next_110 (by decide) ?_
            refine r_iload dX8_next_112 rfl ?_
            refine r_iload_n dX8_next_114 rfl ?_
            refine r_icmp_lt (tgt := 123) dX8_next_115 (by decide) (fun h115 => ?_) (fun h115 => ?_)
            · refine r_iload dX8_next_123 rfl ?_
              refine r_istore_n dX8_next_125 (by decide) ?_
              refine r_iload dX8_next_126 rfl ?_
              refine r_istore_n dX8_next_128 (by decide) ?_
              refine r_iinc dX8_next_129 rfl (by decide) (ix_inc rfl) ?_
              refine r_goto (tgt := 19) dX8_next_132 (by decide) ?_
              refine r_lv (lv' := [(0, .ref 0), (1, .int (wlX im pl)), (2, .int ((nxF (im 17 4) (wlX im pl) (fun s => smF (im (pl + 1)) s (tn (im pl 0))) (im (pl + 2)) (im (pl + 4)) (t + 1)).1)), (3, .int ((nxF (im 17 4) (wlX im pl) (fun s => smF (im (pl + 1)) s (tn (im pl 0))) (im (pl + 2)) (im (pl + 4)) (t + 1)).2)), (4, .int (nI (t + 1)))]) (al_cons rfl (al_cons rfl (al_int rfl (by rw [nxF, if_neg (show ¬ _ = true by rw [h43]; decide), if_pos (Or.inl h115)]) (al_int rfl (by rw [nxF, if_neg (show ¬ _ = true by rw [h43]; decide), if_pos (Or.inl h115)]) (al_cons rfl al_nil))))) ?_
              exact iht
            · refine r_iload dX8_next_118 rfl ?_
              refine r_if_eq_f (tgt := 129) dX8_next_120 (by decide) (by decide) ?_
              refine r_iload dX8_next_123 rfl ?_
              refine r_istore_n dX8_next_125 (by decide) ?_
              refine r_iload dX8_next_126 rfl ?_
              refine r_istore_n dX8_next_128 (by decide) ?_
              refine r_iinc dX8_next_129 rfl (by decide) (ix_inc rfl) ?_
              refine r_goto (tgt := 19) dX8_next_132 (by decide) ?_
              refine r_lv (lv' := [(0, .ref 0), (1, .int (wlX im pl)), (2, .int ((nxF (im 17 4) (wlX im pl) (fun s => smF (im (pl + 1)) s (tn (im pl 0))) (im (pl + 2)) (im (pl + 4)) (t + 1)).1)), (3, .int ((nxF (im 17 4) (wlX im pl) (fun s => smF (im (pl + 1)) s (tn (im pl 0))) (im (pl + 2)) (im (pl + 4)) (t + 1)).2)), (4, .int (nI (t + 1)))]) (al_cons rfl (al_cons rfl (al_int rfl (by rw [nxF, if_neg (show ¬ _ = true by rw [h43]; decide), if_pos (Or.inr ⟨h74, h80, by rw [htb]; exact h102⟩)]) (al_int rfl (by rw [nxF, if_neg (show ¬ _ = true by rw [h43]; decide), if_pos (Or.inr ⟨h74, h80, by rw [htb]; exact h102⟩)]) (al_cons rfl al_nil))))) ?_
              exact iht
    · refine r_goto (tgt := 129) dX8_next_46 (by decide) ?_
      refine r_iinc dX8_next_129 rfl (by decide) (ix_inc rfl) ?_
      refine r_goto (tgt := 19) dX8_next_132 (by decide) ?_
      refine r_lv (lv' := [(0, .ref 0), (1, .int (wlX im pl)), (2, .int ((nxF (im 17 4) (wlX im pl) (fun s => smF (im (pl + 1)) s (tn (im pl 0))) (im (pl + 2)) (im (pl + 4)) (t + 1)).1)), (3, .int ((nxF (im 17 4) (wlX im pl) (fun s => smF (im (pl + 1)) s (tn (im pl 0))) (im (pl + 2)) (im (pl + 4)) (t + 1)).2)), (4, .int (nI (t + 1)))]) (al_cons rfl (al_cons rfl (al_int rfl (by rw [nxF, if_pos h43]) (al_int rfl (by rw [nxF, if_pos h43]) (al_cons rfl al_nil))))) ?_
      exact iht

set_option maxRecDepth 100000 in
set_option maxHeartbeats 4000000 in
theorem c_fault {im : IM} {pl it : Nat} (hc : CA im pl) : MT YX8_fault 0 0 0 [.ref 0] 137 im (RR pl it) (some (.int (im 0 0)), 137, im, RR pl it) := by
  obtain ⟨hC, W, T, S, hW, hW8, hT, hT6, hS, hS5⟩ := id hc
  have htW : tn (im pl 0) = W := by rw [hW, tn_nI (by omega)]
  have htT : tn (im pl 2) = T := by rw [hT, tn_nI (by omega)]
  have htS : tn (im pl 6) = S := by rw [hS, tn_nI (by omega)]
  refine mt_of (by decide +kernel) (Nat.le_of_ble_eq_true rfl) ?_
  show WW _ _ _ _ _ _ _ 0 [(0, .ref 0)] [] _ _ _
  refine r_aload_n dX8_fault_0 rfl ?_
  refine r_geti fl_X8_9 dX8_fault_1 kd_0 ln_0 rfl ?_
  exact r_iret dX8_fault_4 rfl rfl (Nat.le_refl _) (Nat.le_refl _)

set_option maxRecDepth 100000 in
set_option maxHeartbeats 4000000 in
theorem c_told {im : IM} {pl it : Nat} (hc : CA im pl) (w : Int32) : MT YX8_told 3 0 0 [.ref 0, .int w] 137 im (RR pl it) (some (.int (tdX im pl w)), 137, im, RR pl it) := by
  obtain ⟨hC, W, T, S, hW, hW8, hT, hT6, hS, hS5⟩ := id hc
  have htW : tn (im pl 0) = W := by rw [hW, tn_nI (by omega)]
  have htT : tn (im pl 2) = T := by rw [hT, tn_nI (by omega)]
  have htS : tn (im pl 6) = S := by rw [hS, tn_nI (by omega)]
  refine mt_of (by decide +kernel) (Nat.le_of_ble_eq_true rfl) ?_
  show WW _ _ _ _ _ _ _ 0 [(0, .ref 0), (1, .int w)] [] _ _ _
  refine r_iload_n dX8_told_0 rfl ?_
  rcases sw_split (x := w) (lo := 0) (n := 18) (by decide) (by decide) with hsw | ⟨jsw, hjsw, hsw⟩
  · refine r_tabOut (tgt := 249) dX8_told_1 (sw_out hsw) (by decide) ?_
    refine r_ldc dX8_told_249 kn_X8_73 ?_
    exact r_iret dX8_told_251 rfl (by simp only [tdX, td_out hsw, eq_self, Bool.false_eq_true, Bool.true_eq_false, if_true, if_false, reduceIte]) (Nat.le_refl _) (Nat.le_refl _)
  · match jsw, hjsw, hsw with
    | 0, _, hsw =>
      refine r_tabIn (off := 87) (tgt := 88) dX8_told_1 (sw_a hsw (by decide) (by decide)) (sw_b hsw (by decide) (by decide)) (sw_c hsw (by decide) (by decide)) (by decide) ?_
      refine r_aload_n dX8_told_88 rfl ?_
      refine r_getr fl_X8_23 dX8_told_89 kd_0 ln_0 rfl rfl ?_
      refine r_geti fl_X8_96 dX8_told_92 (kC0 hC) (lC0 hC) rfl ?_
      exact r_iret dX8_told_95 rfl (by subst hsw; simp (config := {decide := true}) only [tdX, Nat.reduceAdd, Nat.reduceMod, eq_self, Bool.false_eq_true, Bool.true_eq_false, if_true, if_false, reduceIte, nI_lit]) (Nat.le_refl _) (Nat.le_refl _)
    | 1, _, hsw =>
      refine r_tabIn (off := 95) (tgt := 96) dX8_told_1 (sw_a hsw (by decide) (by decide)) (sw_b hsw (by decide) (by decide)) (sw_c hsw (by decide) (by decide)) (by decide) ?_
      refine r_aload_n dX8_told_96 rfl ?_
      refine r_getr fl_X8_23 dX8_told_97 kd_0 ln_0 rfl rfl ?_
      refine r_geti fl_X8_99 dX8_told_100 (kC0 hC) (lC0 hC) rfl ?_
      exact r_iret dX8_told_103 rfl (by subst hsw; simp (config := {decide := true}) only [tdX, Nat.reduceAdd, Nat.reduceMod, eq_self, Bool.false_eq_true, Bool.true_eq_false, if_true, if_false, reduceIte, nI_lit]) (Nat.le_refl _) (Nat.le_refl _)
    | 2, _, hsw =>
      refine r_tabIn (off := 103) (tgt := 104) dX8_told_1 (sw_a hsw (by decide) (by decide)) (sw_b hsw (by decide) (by decide)) (sw_c hsw (by decide) (by decide)) (by decide) ?_
      refine r_aload_n dX8_told_104 rfl ?_
      refine r_getr fl_X8_23 dX8_told_105 kd_0 ln_0 rfl rfl ?_
      refine r_geti fl_X8_102 dX8_told_108 (kC0 hC) (lC0 hC) rfl ?_
      exact r_iret dX8_told_111 rfl (by subst hsw; simp (config := {decide := true}) only [tdX, Nat.reduceAdd, Nat.reduceMod, eq_self, Bool.false_eq_true, Bool.true_eq_false, if_true, if_false, reduceIte, nI_lit]) (Nat.le_refl _) (Nat.le_refl _)
    | 3, _, hsw =>
      refine r_tabIn (off := 111) (tgt := 112) dX8_told_1 (sw_a hsw (by decide) (by decide)) (sw_b hsw (by decide) (by decide)) (sw_c hsw (by decide) (by decide)) (by decide) ?_
      refine r_aload_n dX8_told_112 rfl ?_
      refine r_getr fl_X8_16 dX8_told_113 kd_0 ln_0 rfl rfl ?_
      refine r_geti fl_X8_78 dX8_told_116 kd_1 ln_1 rfl ?_
      exact r_iret dX8_told_119 rfl (by subst hsw; simp (config := {decide := true}) only [tdX, Nat.reduceAdd, Nat.reduceMod, eq_self, Bool.false_eq_true, Bool.true_eq_false, if_true, if_false, reduceIte, nI_lit]) (Nat.le_refl _) (Nat.le_refl _)
    | 4, _, hsw =>
      refine r_tabIn (off := 119) (tgt := 120) dX8_told_1 (sw_a hsw (by decide) (by decide)) (sw_b hsw (by decide) (by decide)) (sw_c hsw (by decide) (by decide)) (by decide) ?_
      refine r_aload_n dX8_told_120 rfl ?_
      refine r_getr fl_X8_23 dX8_told_121 kd_0 ln_0 rfl rfl ?_
      refine r_geti fl_X8_105 dX8_told_124 (kC0 hC) (lC0 hC) rfl ?_
      exact r_iret dX8_told_127 rfl (by subst hsw; simp (config := {decide := true}) only [tdX, Nat.reduceAdd, Nat.reduceMod, eq_self, Bool.false_eq_true, Bool.true_eq_false, if_true, if_false, reduceIte, nI_lit]) (Nat.le_refl _) (Nat.le_refl _)
    | 5, _, hsw =>
      refine r_tabIn (off := 127) (tgt := 128) dX8_told_1 (sw_a hsw (by decide) (by decide)) (sw_b hsw (by decide) (by decide)) (sw_c hsw (by decide) (by decide)) (by decide) ?_
      refine r_aload_n dX8_told_128 rfl ?_
      refine r_getr fl_X8_23 dX8_told_129 kd_0 ln_0 rfl rfl ?_
      refine r_geti fl_X8_108 dX8_told_132 (kC0 hC) (lC0 hC) rfl ?_
      exact r_iret dX8_told_135 rfl (by subst hsw; simp (config := {decide := true}) only [tdX, Nat.reduceAdd, Nat.reduceMod, eq_self, Bool.false_eq_true, Bool.true_eq_false, if_true, if_false, reduceIte, nI_lit]) (Nat.le_refl _) (Nat.le_refl _)
    | 6, _, hsw =>
      refine r_tabIn (off := 135) (tgt := 136) dX8_told_1 (sw_a hsw (by decide) (by decide)) (sw_b hsw (by decide) (by decide)) (sw_c hsw (by decide) (by decide)) (by decide) ?_
      refine r_aload_n dX8_told_136 rfl ?_
      refine r_getr fl_X8_30 dX8_told_137 kd_0 ln_0 rfl rfl ?_
      refine r_geti fl_X8_111 dX8_told_140 kd_17 ln_17 rfl ?_
      exact r_iret dX8_told_143 rfl (by subst hsw; simp (config := {decide := true}) only [tdX, Nat.reduceAdd, Nat.reduceMod, eq_self, Bool.false_eq_true, Bool.true_eq_false, if_true, if_false, reduceIte, nI_lit]) (Nat.le_refl _) (Nat.le_refl _)
    | 7, _, hsw =>
      refine r_tabIn (off := 143) (tgt := 144) dX8_told_1 (sw_a hsw (by decide) (by decide)) (sw_b hsw (by decide) (by decide)) (sw_c hsw (by decide) (by decide)) (by decide) ?_
      refine r_aload_n dX8_told_144 rfl ?_
      refine r_getr fl_X8_30 dX8_told_145 kd_0 ln_0 rfl rfl ?_
      refine r_geti fl_X8_114 dX8_told_148 kd_17 ln_17 rfl ?_
      exact r_iret dX8_told_151 rfl (by subst hsw; simp (config := {decide := true}) only [tdX, Nat.reduceAdd, Nat.reduceMod, eq_self, Bool.false_eq_true, Bool.true_eq_false, if_true, if_false, reduceIte, nI_lit]) (Nat.le_refl _) (Nat.le_refl _)
    | 8, _, hsw =>
      refine r_tabIn (off := 151) (tgt := 152) dX8_told_1 (sw_a hsw (by decide) (by decide)) (sw_b hsw (by decide) (by decide)) (sw_c hsw (by decide) (by decide)) (by decide) ?_
      refine r_aload_n dX8_told_152 rfl ?_
      refine r_getr fl_X8_30 dX8_told_153 kd_0 ln_0 rfl rfl ?_
      refine r_geti fl_X8_117 dX8_told_156 kd_17 ln_17 rfl ?_
      refine r_if_eq (tgt := 166) dX8_told_159 (by decide) (fun h159 => ?_) (fun h159 => ?_)
      · refine r_iconst (v := 0) dX8_told_166 (by decide) ?_
        exact r_iret dX8_told_167 rfl (by subst hsw; simp (config := {decide := true}) only [tdX, Nat.reduceAdd, Nat.reduceMod, eq_self, Bool.false_eq_true, Bool.true_eq_false, if_true, if_false, reduceIte, nI_lit, eq_true h159]) (Nat.le_refl _) (Nat.le_refl _)
      · refine r_iconst (v := 1) dX8_told_162 (by decide) ?_
        refine r_goto (tgt := 167) dX8_told_163 (by decide) ?_
        exact r_iret dX8_told_167 rfl (by subst hsw; simp (config := {decide := true}) only [tdX, Nat.reduceAdd, Nat.reduceMod, eq_self, Bool.false_eq_true, Bool.true_eq_false, if_true, if_false, reduceIte, nI_lit, h159]) (Nat.le_refl _) (Nat.le_refl _)
    | 9, _, hsw =>
      refine r_tabIn (off := 167) (tgt := 168) dX8_told_1 (sw_a hsw (by decide) (by decide)) (sw_b hsw (by decide) (by decide)) (sw_c hsw (by decide) (by decide)) (by decide) ?_
      refine r_aload_n dX8_told_168 rfl ?_
      refine r_getr fl_X8_30 dX8_told_169 kd_0 ln_0 rfl rfl ?_
      refine r_geti fl_X8_121 dX8_told_172 kd_17 ln_17 rfl ?_
      refine r_if_eq (tgt := 182) dX8_told_175 (by decide) (fun h175 => ?_) (fun h175 => ?_)
      · refine r_iconst (v := 0) dX8_told_182 (by decide) ?_
        exact r_iret dX8_told_183 rfl (by subst hsw; simp (config := {decide := true}) only [tdX, Nat.reduceAdd, Nat.reduceMod, eq_self, Bool.false_eq_true, Bool.true_eq_false, if_true, if_false, reduceIte, nI_lit, eq_true h175]) (Nat.le_refl _) (Nat.le_refl _)
      · refine r_iconst (v := 1) dX8_told_178 (by decide) ?_
        refine r_goto (tgt := 183) dX8_told_179 (by decide) ?_
        exact r_iret dX8_told_183 rfl (by subst hsw; simp (config := {decide := true}) only [tdX, Nat.reduceAdd, Nat.reduceMod, eq_self, Bool.false_eq_true, Bool.true_eq_false, if_true, if_false, reduceIte, nI_lit, h175]) (Nat.le_refl _) (Nat.le_refl _)
    | 10, _, hsw =>
      refine r_tabIn (off := 183) (tgt := 184) dX8_told_1 (sw_a hsw (by decide) (by decide)) (sw_b hsw (by decide) (by decide)) (sw_c hsw (by decide) (by decide)) (by decide) ?_
      refine r_aload_n dX8_told_184 rfl ?_
      refine r_getr fl_X8_30 dX8_told_185 kd_0 ln_0 rfl rfl ?_
      refine r_geti fl_X8_124 dX8_told_188 kd_17 ln_17 rfl ?_
      exact r_iret dX8_told_191 rfl (by subst hsw; simp (config := {decide := true}) only [tdX, Nat.reduceAdd, Nat.reduceMod, eq_self, Bool.false_eq_true, Bool.true_eq_false, if_true, if_false, reduceIte, nI_lit]) (Nat.le_refl _) (Nat.le_refl _)
    | 11, _, hsw =>
      refine r_tabIn (off := 191) (tgt := 192) dX8_told_1 (sw_a hsw (by decide) (by decide)) (sw_b hsw (by decide) (by decide)) (sw_c hsw (by decide) (by decide)) (by decide) ?_
      refine r_aload_n dX8_told_192 rfl ?_
      refine r_V0s cv_X8_127 dX8_told_193 (c_waysLeft hc) ⟨by decide, by decide⟩ kd_0 ln_0 cl_8 (Nat.le_of_ble_eq_true rfl) ⟨Nat.le_refl _, Nat.le_refl _⟩ ?_
      exact r_iret dX8_told_196 rfl (by subst hsw; simp (config := {decide := true}) only [tdX, Nat.reduceAdd, Nat.reduceMod, eq_self, Bool.false_eq_true, Bool.true_eq_false, if_true, if_false, reduceIte, nI_lit]) (Nat.le_refl _) (Nat.le_refl _)
    | 12, _, hsw =>
      refine r_tabIn (off := 196) (tgt := 197) dX8_told_1 (sw_a hsw (by decide) (by decide)) (sw_b hsw (by decide) (by decide)) (sw_c hsw (by decide) (by decide)) (by decide) ?_
      refine r_aload_n dX8_told_197 rfl ?_
      refine r_getr fl_X8_23 dX8_told_198 kd_0 ln_0 rfl rfl ?_
      refine r_aload_n dX8_told_201 rfl ?_
      refine r_getr fl_X8_30 dX8_told_202 kd_0 ln_0 rfl rfl ?_
      refine r_geti fl_X8_124 dX8_told_205 kd_17 ln_17 rfl ?_
      refine r_V1s cv_X8_130 dX8_told_208 (c_secretsOf hc (im 17 4)) ⟨by decide, by decide⟩ (kC0 hC) (lC0 hC) cl_2 (Nat.le_of_ble_eq_true rfl) ⟨Nat.le_refl _, Nat.le_refl _⟩ ?_
      exact r_iret dX8_told_211 rfl (by subst hsw; simp (config := {decide := true}) only [tdX, Nat.reduceAdd, Nat.reduceMod, eq_self, Bool.false_eq_true, Bool.true_eq_false, if_true, if_false, reduceIte, nI_lit]) (Nat.le_refl _) (Nat.le_refl _)
    | 13, _, hsw =>
      refine r_tabIn (off := 211) (tgt := 212) dX8_told_1 (sw_a hsw (by decide) (by decide)) (sw_b hsw (by decide) (by decide)) (sw_c hsw (by decide) (by decide)) (by decide) ?_
      refine r_aload_n dX8_told_212 rfl ?_
      refine r_getr fl_X8_30 dX8_told_213 kd_0 ln_0 rfl rfl ?_
      refine r_geti fl_X8_134 dX8_told_216 kd_17 ln_17 rfl ?_
      exact r_iret dX8_told_219 rfl (by subst hsw; simp (config := {decide := true}) only [tdX, Nat.reduceAdd, Nat.reduceMod, eq_self, Bool.false_eq_true, Bool.true_eq_false, if_true, if_false, reduceIte, nI_lit]) (Nat.le_refl _) (Nat.le_refl _)
    | 14, _, hsw =>
      refine r_tabIn (off := 219) (tgt := 220) dX8_told_1 (sw_a hsw (by decide) (by decide)) (sw_b hsw (by decide) (by decide)) (sw_c hsw (by decide) (by decide)) (by decide) ?_
      refine r_aload_n dX8_told_220 rfl ?_
      refine r_V0s cv_X8_137 dX8_told_221 (c_spent hc) ⟨by decide, by decide⟩ kd_0 ln_0 cl_8 (Nat.le_of_ble_eq_true rfl) ⟨Nat.le_refl _, Nat.le_refl _⟩ ?_
      exact r_iret dX8_told_224 rfl (by subst hsw; simp (config := {decide := true}) only [tdX, Nat.reduceAdd, Nat.reduceMod, eq_self, Bool.false_eq_true, Bool.true_eq_false, if_true, if_false, reduceIte, nI_lit]) (Nat.le_refl _) (Nat.le_refl _)
    | 15, _, hsw =>
      refine r_tabIn (off := 224) (tgt := 225) dX8_told_1 (sw_a hsw (by decide) (by decide)) (sw_b hsw (by decide) (by decide)) (sw_c hsw (by decide) (by decide)) (by decide) ?_
      refine r_aload_n dX8_told_225 rfl ?_
      refine r_getr fl_X8_44 dX8_told_226 kd_0 ln_0 rfl rfl ?_
      refine r_geti fl_X8_140 dX8_told_229 kd_103 ln_103 rfl ?_
      exact r_iret dX8_told_232 rfl (by subst hsw; simp (config := {decide := true}) only [tdX, Nat.reduceAdd, Nat.reduceMod, eq_self, Bool.false_eq_true, Bool.true_eq_false, if_true, if_false, reduceIte, nI_lit]) (Nat.le_refl _) (Nat.le_refl _)
    | 16, _, hsw =>
      refine r_tabIn (off := 232) (tgt := 233) dX8_told_1 (sw_a hsw (by decide) (by decide)) (sw_b hsw (by decide) (by decide)) (sw_c hsw (by decide) (by decide)) (by decide) ?_
      refine r_aload_n dX8_told_233 rfl ?_
      refine r_getr fl_X8_51 dX8_told_234 kd_0 ln_0 rfl rfl ?_
      refine r_geti fl_X8_141 dX8_told_237 kd_106 ln_106 rfl ?_
      exact r_iret dX8_told_240 rfl (by subst hsw; simp (config := {decide := true}) only [tdX, Nat.reduceAdd, Nat.reduceMod, eq_self, Bool.false_eq_true, Bool.true_eq_false, if_true, if_false, reduceIte, nI_lit]) (Nat.le_refl _) (Nat.le_refl _)
    | 17, _, hsw =>
      refine r_tabIn (off := 240) (tgt := 241) dX8_told_1 (sw_a hsw (by decide) (by decide)) (sw_b hsw (by decide) (by decide)) (sw_c hsw (by decide) (by decide)) (by decide) ?_
      refine r_aload_n dX8_told_241 rfl ?_
      refine r_getr fl_X8_37 dX8_told_242 kd_0 ln_0 rfl rfl ?_
      refine r_geti fl_X8_142 dX8_told_245 kd_21 ln_21 rfl ?_
      exact r_iret dX8_told_248 rfl (by subst hsw; simp (config := {decide := true}) only [tdX, Nat.reduceAdd, Nat.reduceMod, eq_self, Bool.false_eq_true, Bool.true_eq_false, if_true, if_false, reduceIte, nI_lit]) (Nat.le_refl _) (Nat.le_refl _)
    | j + 18, hj, _ => exact absurd hj (by omega)

set_option maxRecDepth 100000 in
set_option maxHeartbeats 4000000 in
theorem c_likely {im : IM} {pl it : Nat} (hc : CA im pl) (x : Int32) : MT YX8_likely 2 0 0 [.ref 0, .int x] 137 im (RR pl it) (some (.int (if inB x 0 (im pl 0 - 1) = true then im (pl + 1) (tn x) else (-1000000001))), 137, im, RR pl it) := by
  obtain ⟨hC, W, T, S, hW, hW8, hT, hT6, hS, hS5⟩ := id hc
  have htW : tn (im pl 0) = W := by rw [hW, tn_nI (by omega)]
  have htT : tn (im pl 2) = T := by rw [hT, tn_nI (by omega)]
  have htS : tn (im pl 6) = S := by rw [hS, tn_nI (by omega)]
  refine mt_of (by decide +kernel) (Nat.le_of_ble_eq_true rfl) ?_
  show WW _ _ _ _ _ _ _ 0 [(0, .ref 0), (1, .int x)] [] _ _ _
  refine r_aload_n dX8_likely_0 rfl ?_
  refine r_getr fl_X8_23 dX8_likely_1 kd_0 ln_0 rfl rfl ?_
  refine r_iload_n dX8_likely_4 rfl ?_
  refine r_V1s cv_X8_143 dX8_likely_5 (c_hasWay hc x) ⟨by decide, by decide⟩ (kC0 hC) (lC0 hC) cl_2 (Nat.le_of_ble_eq_true rfl) ⟨Nat.le_refl _, Nat.le_refl _⟩ ?_
  refine r_bz_eq (tgt := 23) dX8_likely_8 (by decide) (fun h8 => ?_) (fun h8 => ?_)
  · refine r_ldc dX8_likely_23 kn_X8_150 ?_
    exact r_iret dX8_likely_25 rfl (by simp only [eq_self, Bool.false_eq_true, Bool.true_eq_false, if_true, if_false, reduceIte, h8]) (Nat.le_refl _) (Nat.le_refl _)
  · obtain ⟨jw, hjw, hj⟩ := inB_nat (W := W) (by rw [← hW]; exact h8) (by omega)
    have htt : tn x = jw := by rw [hj, tn_nI (by omega)]
    refine r_aload_n dX8_likely_11 rfl ?_
    refine r_getr fl_X8_23 dX8_likely_12 kd_0 ln_0 rfl rfl ?_
    refine r_getr fl_X8_146 dX8_likely_15 (kC0 hC) (lC0 hC) rfl (rrC1 hC) ?_
    refine r_iload_n dX8_likely_18 rfl ?_
    refine r_iald (j := jw) dX8_likely_19 (kC1 hC) (lC1 hC) hj (by omega) (by decide) ?_
    refine r_goto (tgt := 25) dX8_likely_20 (by decide) ?_
    exact r_iret dX8_likely_25 rfl (by simp only [eq_self, Bool.false_eq_true, Bool.true_eq_false, if_true, if_false, reduceIte, h8, htt]) (Nat.le_refl _) (Nat.le_refl _)

set_option maxRecDepth 100000 in
set_option maxHeartbeats 4000000 in
theorem c_belief {im : IM} {pl it : Nat} (hc : CA im pl) (x : Int32) : MT YX8_belief 3 0 0 [.ref 0, .int x] 137 im (RR pl it) (some (.int (if inB x 0 (im pl 0 - 1) = true then beS (im pl 0) (im (pl + 1)) x (wlX im pl) else (-1000000001))), 137, im, RR pl it) := by
  obtain ⟨hC, W, T, S, hW, hW8, hT, hT6, hS, hS5⟩ := id hc
  have htW : tn (im pl 0) = W := by rw [hW, tn_nI (by omega)]
  have htT : tn (im pl 2) = T := by rw [hT, tn_nI (by omega)]
  have htS : tn (im pl 6) = S := by rw [hS, tn_nI (by omega)]
  refine mt_of (by decide +kernel) (Nat.le_of_ble_eq_true rfl) ?_
  show WW _ _ _ _ _ _ _ 0 [(0, .ref 0), (1, .int x)] [] _ _ _
  refine r_aload_n dX8_belief_0 rfl ?_
  refine r_getr fl_X8_23 dX8_belief_1 kd_0 ln_0 rfl rfl ?_
  refine r_iload_n dX8_belief_4 rfl ?_
  refine r_V1s cv_X8_143 dX8_belief_5 (c_hasWay hc x) ⟨by decide, by decide⟩ (kC0 hC) (lC0 hC) cl_2 (Nat.le_of_ble_eq_true rfl) ⟨Nat.le_refl _, Nat.le_refl _⟩ ?_
  refine r_bz_eq (tgt := 26) dX8_belief_8 (by decide) (fun h8 => ?_) (fun h8 => ?_)
  · refine r_ldc dX8_belief_26 kn_X8_150 ?_
    exact r_iret dX8_belief_28 rfl (by simp only [eq_self, Bool.false_eq_true, Bool.true_eq_false, if_true, if_false, reduceIte, true_and, and_true, false_and, and_false, true_or, or_true, false_or, or_false, not_true_eq_false, not_false_eq_true, Bool.not_true, Bool.not_false, Bool.true_and, Bool.and_true, Bool.false_and, Bool.and_false, decide_true, decide_false, h8]) (Nat.le_refl _) (Nat.le_refl _)
  · refine r_aload_n dX8_belief_11 rfl ?_
    refine r_getr fl_X8_23 dX8_belief_12 kd_0 ln_0 rfl rfl ?_
    refine r_iload_n dX8_belief_15 rfl ?_
    refine r_aload_n dX8_belief_16 rfl ?_
    refine r_V0s cv_X8_127 dX8_belief_17 (c_waysLeft hc) ⟨by decide, by decide⟩ kd_0 ln_0 cl_8 (Nat.le_of_ble_eq_true rfl) ⟨Nat.le_refl _, Nat.le_refl _⟩ ?_
    refine r_V2s cv_X8_219 dX8_belief_20 (c_beliefIn hc x (wlX im pl)) ⟨by decide, by decide⟩ (kC0 hC) (lC0 hC) cl_2 (Nat.le_of_ble_eq_true rfl) ⟨Nat.le_refl _, Nat.le_refl _⟩ ?_
    refine r_goto (tgt := 28) dX8_belief_23 (by decide) ?_
    exact r_iret dX8_belief_28 rfl (by simp only [eq_self, Bool.false_eq_true, Bool.true_eq_false, if_true, if_false, reduceIte, true_and, and_true, false_and, and_false, true_or, or_true, false_or, or_false, not_true_eq_false, not_false_eq_true, Bool.not_true, Bool.not_false, Bool.true_and, Bool.and_true, Bool.false_and, Bool.and_false, decide_true, decide_false, h8]) (Nat.le_refl _) (Nat.le_refl _)

set_option maxRecDepth 100000 in
set_option maxHeartbeats 4000000 in
theorem c_liars {im : IM} {pl it : Nat} (hc : CA im pl) (x : Int32) : MT YX8_liars 2 0 0 [.ref 0, .int x] 137 im (RR pl it) (some (.int (if inB x 0 (im pl 0 - 1) = true then lrX im pl x else (-1000000001))), 137, im, RR pl it) := by
  obtain ⟨hC, W, T, S, hW, hW8, hT, hT6, hS, hS5⟩ := id hc
  have htW : tn (im pl 0) = W := by rw [hW, tn_nI (by omega)]
  have htT : tn (im pl 2) = T := by rw [hT, tn_nI (by omega)]
  have htS : tn (im pl 6) = S := by rw [hS, tn_nI (by omega)]
  refine mt_of (by decide +kernel) (Nat.le_of_ble_eq_true rfl) ?_
  show WW _ _ _ _ _ _ _ 0 [(0, .ref 0), (1, .int x)] [] _ _ _
  refine r_aload_n dX8_liars_0 rfl ?_
  refine r_getr fl_X8_23 dX8_liars_1 kd_0 ln_0 rfl rfl ?_
  refine r_iload_n dX8_liars_4 rfl ?_
  refine r_V1s cv_X8_143 dX8_liars_5 (c_hasWay hc x) ⟨by decide, by decide⟩ (kC0 hC) (lC0 hC) cl_2 (Nat.le_of_ble_eq_true rfl) ⟨Nat.le_refl _, Nat.le_refl _⟩ ?_
  refine r_bz_eq (tgt := 19) dX8_liars_8 (by decide) (fun h8 => ?_) (fun h8 => ?_)
  · refine r_ldc dX8_liars_19 kn_X8_150 ?_
    exact r_iret dX8_liars_21 rfl (by simp only [eq_self, Bool.false_eq_true, Bool.true_eq_false, if_true, if_false, reduceIte, true_and, and_true, false_and, and_false, true_or, or_true, false_or, or_false, not_true_eq_false, not_false_eq_true, Bool.not_true, Bool.not_false, Bool.true_and, Bool.and_true, Bool.false_and, Bool.and_false, decide_true, decide_false, h8]) (Nat.le_refl _) (Nat.le_refl _)
  · refine r_aload_n dX8_liars_11 rfl ?_
    refine r_iload_n dX8_liars_12 rfl ?_
    refine r_V1s cv_X8_223 dX8_liars_13 (c_liarsBy hc x) ⟨by decide, by decide⟩ kd_0 ln_0 cl_8 (Nat.le_of_ble_eq_true rfl) ⟨Nat.le_refl _, Nat.le_refl _⟩ ?_
    refine r_goto (tgt := 21) dX8_liars_16 (by decide) ?_
    exact r_iret dX8_liars_21 rfl (by simp only [eq_self, Bool.false_eq_true, Bool.true_eq_false, if_true, if_false, reduceIte, true_and, and_true, false_and, and_false, true_or, or_true, false_or, or_false, not_true_eq_false, not_false_eq_true, Bool.not_true, Bool.not_false, Bool.true_and, Bool.and_true, Bool.false_and, Bool.and_false, decide_true, decide_false, h8]) (Nat.le_refl _) (Nat.le_refl _)

set_option maxRecDepth 100000 in
set_option maxHeartbeats 4000000 in
theorem c_leastLiars {im : IM} {pl it : Nat} (hc : CA im pl) (x : Int32) : MT YX8_leastLiars 4 0 0 [.ref 0, .int x] 137 im (RR pl it) (some (.int (if inB x 0 1 = true then (if decide (0 < im pl 0) = true then (if x = 0 then wfX im pl else bcI (lrX im pl (wfX im pl))) else (-1000000003)) else (-1000000002))), 137, im, RR pl it) := by
  obtain ⟨hC, W, T, S, hW, hW8, hT, hT6, hS, hS5⟩ := id hc
  have htW : tn (im pl 0) = W := by rw [hW, tn_nI (by omega)]
  have htT : tn (im pl 2) = T := by rw [hT, tn_nI (by omega)]
  have htS : tn (im pl 6) = S := by rw [hS, tn_nI (by omega)]
  refine mt_of (by decide +kernel) (Nat.le_of_ble_eq_true rfl) ?_
  show WW _ _ _ _ _ _ _ 0 [(0, .ref 0), (1, .int x)] [] _ _ _
  refine r_iload_n dX8_leastLiars_0 rfl ?_
  refine r_iconst (v := 0) dX8_leastLiars_1 (by decide) ?_
  refine r_iconst (v := 1) dX8_leastLiars_2 (by decide) ?_
  refine r_S3s cv_X8_69 dX8_leastLiars_3 (c_within x 0 1) ⟨by decide, by decide⟩ (Nat.le_of_ble_eq_true rfl) ⟨Nat.le_refl _, Nat.le_refl _⟩ ?_
  refine r_bz_ne (tgt := 12) dX8_leastLiars_6 (by decide) (fun h6 => ?_) (fun h6 => ?_)
  · refine r_aload_n dX8_leastLiars_12 rfl ?_
    refine r_getr fl_X8_23 dX8_leastLiars_13 kd_0 ln_0 rfl rfl ?_
    refine r_V0s cv_X8_198 dX8_leastLiars_16 (c_stands hc) ⟨by decide, by decide⟩ (kC0 hC) (lC0 hC) cl_2 (Nat.le_of_ble_eq_true rfl) ⟨Nat.le_refl _, Nat.le_refl _⟩ ?_
    refine r_bz_ne (tgt := 25) dX8_leastLiars_19 (by decide) (fun h19 => ?_) (fun h19 => ?_)
    · refine r_aload_n dX8_leastLiars_25 rfl ?_
      refine r_V0s cv_X8_226 dX8_leastLiars_26 (c_wayOfFewest hc) ⟨by decide, by decide⟩ kd_0 ln_0 cl_8 (Nat.le_of_ble_eq_true rfl) ⟨Nat.le_refl _, Nat.le_refl _⟩ ?_
      refine r_istore_n dX8_leastLiars_29 (by decide) ?_
      refine r_iload_n dX8_leastLiars_30 rfl ?_
      refine r_if_ne (tgt := 38) dX8_leastLiars_31 (by decide) (fun h31 => ?_) (fun h31 => ?_)
      · refine r_aload_n dX8_leastLiars_38 rfl ?_
        refine r_iload_n dX8_leastLiars_39 rfl ?_
        refine r_V1s cv_X8_223 dX8_leastLiars_40 (c_liarsBy hc (wfX im pl)) ⟨by decide, by decide⟩ kd_0 ln_0 cl_8 (Nat.le_of_ble_eq_true rfl) ⟨Nat.le_refl _, Nat.le_refl _⟩ ?_
        refine r_S1s cv_X8_229 dX8_leastLiars_43 (c_bitCount (lrX im pl (wfX im pl))) ⟨by decide, by decide⟩ (Nat.le_of_ble_eq_true rfl) ⟨Nat.le_refl _, Nat.le_refl _⟩ ?_
        exact r_iret dX8_leastLiars_46 rfl (by simp only [eq_self, Bool.false_eq_true, Bool.true_eq_false, if_true, if_false, reduceIte, true_and, and_true, false_and, and_false, true_or, or_true, false_or, or_false, not_true_eq_false, not_false_eq_true, Bool.not_true, Bool.not_false, Bool.true_and, Bool.and_true, Bool.false_and, Bool.and_false, decide_true, decide_false, h6, h19, h31]) (Nat.le_refl _) (Nat.le_refl _)
      · refine r_iload_n dX8_leastLiars_34 rfl ?_
        refine r_goto (tgt := 46) dX8_leastLiars_35 (by decide) ?_
        exact r_iret dX8_leastLiars_46 rfl (by simp only [eq_self, Bool.false_eq_true, Bool.true_eq_false, if_true, if_false, reduceIte, true_and, and_true, false_and, and_false, true_or, or_true, false_or, or_false, not_true_eq_false, not_false_eq_true, Bool.not_true, Bool.not_false, Bool.true_and, Bool.and_true, Bool.false_and, Bool.and_false, decide_true, decide_false, h6, h19, eq_true h31]) (Nat.le_refl _) (Nat.le_refl _)
    · refine r_ldc dX8_leastLiars_22 kn_X8_197 ?_
      exact r_iret dX8_leastLiars_24 rfl (by simp only [eq_self, Bool.false_eq_true, Bool.true_eq_false, if_true, if_false, reduceIte, true_and, and_true, false_and, and_false, true_or, or_true, false_or, or_false, not_true_eq_false, not_false_eq_true, Bool.not_true, Bool.not_false, Bool.true_and, Bool.and_true, Bool.false_and, Bool.and_false, decide_true, decide_false, h6, h19]) (Nat.le_refl _) (Nat.le_refl _)
  · refine r_ldc dX8_leastLiars_9 kn_X8_73 ?_
    exact r_iret dX8_leastLiars_11 rfl (by simp only [eq_self, Bool.false_eq_true, Bool.true_eq_false, if_true, if_false, reduceIte, true_and, and_true, false_and, and_false, true_or, or_true, false_or, or_false, not_true_eq_false, not_false_eq_true, Bool.not_true, Bool.not_false, Bool.true_and, Bool.and_true, Bool.false_and, Bool.and_false, decide_true, decide_false, h6]) (Nat.le_refl _) (Nat.le_refl _)

def roX (im : IM) (pl : Nat) (a b x : Int32) : Int32 := if decide (a &&& (alS (im pl 0) ^^^ (-1)) = 0) = false then (-1000000001) else if hasB a 0 = true then (-1000000001) else if inB b 0 63 = false then (-1000000001) else if inB x 0 1 = false then (-1000000002) else if ctX im pl a b = -1 then ctX im pl a b else if x = 0 then ctX im pl a b else cyX im pl (ctX im pl a b)

set_option maxRecDepth 100000 in
set_option maxHeartbeats 4000000 in
theorem c_ruleOut {im : IM} {pl it : Nat} (hc : CA im pl) (a b x : Int32) : MT YX8_ruleOut 4 0 0 [.ref 0, .int a, .int b, .int x] 137 im (RR pl it) (some (.int (roX im pl a b x)), 137, im, RR pl it) := by
  obtain ⟨hC, W, T, S, hW, hW8, hT, hT6, hS, hS5⟩ := id hc
  have htW : tn (im pl 0) = W := by rw [hW, tn_nI (by omega)]
  have htT : tn (im pl 2) = T := by rw [hT, tn_nI (by omega)]
  have htS : tn (im pl 6) = S := by rw [hS, tn_nI (by omega)]
  refine mt_of (by decide +kernel) (Nat.le_of_ble_eq_true rfl) ?_
  show WW _ _ _ _ _ _ _ 0 [(0, .ref 0), (1, .int a), (2, .int b), (3, .int x)] [] _ _ _
  refine r_aload_n dX8_ruleOut_0 rfl ?_
  refine r_getr fl_X8_23 dX8_ruleOut_1 kd_0 ln_0 rfl rfl ?_
  refine r_iload_n dX8_ruleOut_4 rfl ?_
  refine r_V1s cv_X8_206 dX8_ruleOut_5 (c_hasWays hc a) ⟨by decide, by decide⟩ (kC0 hC) (lC0 hC) cl_2 (Nat.le_of_ble_eq_true rfl) ⟨Nat.le_refl _, Nat.le_refl _⟩ ?_
  refine r_bz_eq (tgt := 29) dX8_ruleOut_8 (by decide) (fun h8 => ?_) (fun h8 => ?_)
  · refine r_ldc dX8_ruleOut_29 kn_X8_150 ?_
    exact r_iret dX8_ruleOut_31 rfl (by simp only [roX, eq_self, Bool.false_eq_true, Bool.true_eq_false, if_true, if_false, reduceIte, true_and, and_true, false_and, and_false, true_or, or_true, false_or, or_false, not_true_eq_false, not_false_eq_true, Bool.not_true, Bool.not_false, Bool.true_and, Bool.and_true, Bool.false_and, Bool.and_false, decide_true, decide_false, h8]) (Nat.le_refl _) (Nat.le_refl _)
  · refine r_iload_n dX8_ruleOut_11 rfl ?_
    refine r_iconst (v := 0) dX8_ruleOut_12 (by decide) ?_
    refine r_S2s cv_X8_163 dX8_ruleOut_13 (c_has a 0) ⟨by decide, by decide⟩ (Nat.le_of_ble_eq_true rfl) ⟨Nat.le_refl _, Nat.le_refl _⟩ ?_
    refine r_bz_ne (tgt := 29) dX8_ruleOut_16 (by decide) (fun h16 => ?_) (fun h16 => ?_)
    · refine r_ldc dX8_ruleOut_29 kn_X8_150 ?_
      exact r_iret dX8_ruleOut_31 rfl (by simp only [roX, eq_self, Bool.false_eq_true, Bool.true_eq_false, if_true, if_false, reduceIte, true_and, and_true, false_and, and_false, true_or, or_true, false_or, or_false, not_true_eq_false, not_false_eq_true, Bool.not_true, Bool.not_false, Bool.true_and, Bool.and_true, Bool.false_and, Bool.and_false, decide_true, decide_false, h8, h16]) (Nat.le_refl _) (Nat.le_refl _)
    · refine r_iload_n dX8_ruleOut_19 rfl ?_
      refine r_iconst (v := 0) dX8_ruleOut_20 (by decide) ?_
      refine r_bipush (v := 63) dX8_ruleOut_21 (by decide) ?_
      refine r_S3s cv_X8_69 dX8_ruleOut_23 (c_within b 0 63) ⟨by decide, by decide⟩ (Nat.le_of_ble_eq_true rfl) ⟨Nat.le_refl _, Nat.le_refl _⟩ ?_
      refine r_bz_ne (tgt := 32) dX8_ruleOut_26 (by decide) (fun h26 => ?_) (fun h26 => ?_)
      · refine r_iload_n dX8_ruleOut_32 rfl ?_
        refine r_iconst (v := 0) dX8_ruleOut_33 (by decide) ?_
        refine r_iconst (v := 1) dX8_ruleOut_34 (by decide) ?_
        refine r_S3s cv_X8_69 dX8_ruleOut_35 (c_within x 0 1) ⟨by decide, by decide⟩ (Nat.le_of_ble_eq_true rfl) ⟨Nat.le_refl _, Nat.le_refl _⟩ ?_
        refine r_bz_ne (tgt := 44) dX8_ruleOut_38 (by decide) (fun h38 => ?_) (fun h38 => ?_)
        · refine r_aload_n dX8_ruleOut_44 rfl ?_
          refine r_iload_n dX8_ruleOut_45 rfl ?_
          refine r_iload_n dX8_ruleOut_46 rfl ?_
          refine r_V2s cv_X8_234 dX8_ruleOut_47 (c_cheapest hc a b) ⟨by decide, by decide⟩ kd_0 ln_0 cl_8 (Nat.le_of_ble_eq_true rfl) ⟨Nat.le_refl _, Nat.le_refl _⟩ ?_
          refine r_istore dX8_ruleOut_50 (by decide) ?_
          refine r_iload dX8_ruleOut_52 rfl ?_
          refine r_iconst (v := (-1)) dX8_ruleOut_54 (by decide) ?_
          refine r_icmp_eq (tgt := 62) dX8_ruleOut_55 (by decide) (fun h55 => ?_) (fun h55 => ?_)
          · refine r_iload dX8_ruleOut_62 rfl ?_
            exact r_iret dX8_ruleOut_64 rfl (by simp only [roX, eq_self, Bool.false_eq_true, Bool.true_eq_false, if_true, if_false, reduceIte, true_and, and_true, false_and, and_false, true_or, or_true, false_or, or_false, not_true_eq_false, not_false_eq_true, Bool.not_true, Bool.not_false, Bool.true_and, Bool.and_true, Bool.false_and, Bool.and_false, decide_true, decide_false, h8, h16, h26, h38, eq_true h55]) (Nat.le_refl _) (Nat.le_refl _)
          · refine r_iload_n dX8_ruleOut_58 rfl ?_
            refine r_if_ne (tgt := 65) dX8_ruleOut_59 (by decide) (fun h59 => ?_) (fun h59 => ?_)
            · refine r_aload_n dX8_ruleOut_65 rfl ?_
              refine r_iload dX8_ruleOut_66 rfl ?_
              refine r_V1s cv_X8_237 dX8_ruleOut_68 (c_costYet hc (ctX im pl a b)) ⟨by decide, by decide⟩ kd_0 ln_0 cl_8 (Nat.le_of_ble_eq_true rfl) ⟨Nat.le_refl _, Nat.le_refl _⟩ ?_
              exact r_iret dX8_ruleOut_71 rfl (by simp only [roX, eq_self, Bool.false_eq_true, Bool.true_eq_false, if_true, if_false, reduceIte, true_and, and_true, false_and, and_false, true_or, or_true, false_or, or_false, not_true_eq_false, not_false_eq_true, Bool.not_true, Bool.not_false, Bool.true_and, Bool.and_true, Bool.false_and, Bool.and_false, decide_true, decide_false, h8, h16, h26, h38, h55, h59]) (Nat.le_refl _) (Nat.le_refl _)
            · refine r_iload dX8_ruleOut_62 rfl ?_
              exact r_iret dX8_ruleOut_64 rfl (by simp only [roX, eq_self, Bool.false_eq_true, Bool.true_eq_false, if_true, if_false, reduceIte, true_and, and_true, false_and, and_false, true_or, or_true, false_or, or_false, not_true_eq_false, not_false_eq_true, Bool.not_true, Bool.not_false, Bool.true_and, Bool.and_true, Bool.false_and, Bool.and_false, decide_true, decide_false, h8, h16, h26, h38, h55, eq_true h59]) (Nat.le_refl _) (Nat.le_refl _)
        · refine r_ldc dX8_ruleOut_41 kn_X8_73 ?_
          exact r_iret dX8_ruleOut_43 rfl (by simp only [roX, eq_self, Bool.false_eq_true, Bool.true_eq_false, if_true, if_false, reduceIte, true_and, and_true, false_and, and_false, true_or, or_true, false_or, or_false, not_true_eq_false, not_false_eq_true, Bool.not_true, Bool.not_false, Bool.true_and, Bool.and_true, Bool.false_and, Bool.and_false, decide_true, decide_false, h8, h16, h26, h38]) (Nat.le_refl _) (Nat.le_refl _)
      · refine r_ldc dX8_ruleOut_29 kn_X8_150 ?_
        exact r_iret dX8_ruleOut_31 rfl (by simp only [roX, eq_self, Bool.false_eq_true, Bool.true_eq_false, if_true, if_false, reduceIte, true_and, and_true, false_and, and_false, true_or, or_true, false_or, or_false, not_true_eq_false, not_false_eq_true, Bool.not_true, Bool.not_false, Bool.true_and, Bool.and_true, Bool.false_and, Bool.and_false, decide_true, decide_false, h8, h16, h26]) (Nat.le_refl _) (Nat.le_refl _)

set_option maxRecDepth 100000 in
set_option maxHeartbeats 4000000 in
theorem c_offer {im : IM} {pl it : Nat} (hc : CA im pl) (v c : Int32) : MT YX8_offer 4 0 0 [.ref 0, .int v, .int c] 137 im (RR pl it) (some (.int (if inB v 0 9999 = false then (-1000000002) else if inB c 0 9999 = false then (-1000000002) else if decide (0 < im pl 0) = false then (-1000000003) else ofS im pl v c (wlX im pl))), 137, im, RR pl it) := by
  obtain ⟨hC, W, T, S, hW, hW8, hT, hT6, hS, hS5⟩ := id hc
  have htW : tn (im pl 0) = W := by rw [hW, tn_nI (by omega)]
  have htT : tn (im pl 2) = T := by rw [hT, tn_nI (by omega)]
  have htS : tn (im pl 6) = S := by rw [hS, tn_nI (by omega)]
  refine mt_of (by decide +kernel) (Nat.le_of_ble_eq_true rfl) ?_
  show WW _ _ _ _ _ _ _ 0 [(0, .ref 0), (1, .int v), (2, .int c)] [] _ _ _
  refine r_iload_n dX8_offer_0 rfl ?_
  refine r_iconst (v := 0) dX8_offer_1 (by decide) ?_
  refine r_sipush (v := 9999) dX8_offer_2 (by decide) ?_
  refine r_S3s cv_X8_69 dX8_offer_5 (c_within v 0 9999) ⟨by decide, by decide⟩ (Nat.le_of_ble_eq_true rfl) ⟨Nat.le_refl _, Nat.le_refl _⟩ ?_
  refine r_bz_eq (tgt := 22) dX8_offer_8 (by decide) (fun h8 => ?_) (fun h8 => ?_)
  · refine r_ldc dX8_offer_22 kn_X8_73 ?_
    exact r_iret dX8_offer_24 rfl (by simp only [eq_self, Bool.false_eq_true, Bool.true_eq_false, if_true, if_false, reduceIte, true_and, and_true, false_and, and_false, true_or, or_true, false_or, or_false, not_true_eq_false, not_false_eq_true, Bool.not_true, Bool.not_false, Bool.true_and, Bool.and_true, Bool.false_and, Bool.and_false, decide_true, decide_false, h8]) (Nat.le_refl _) (Nat.le_refl _)
  · refine r_iload_n dX8_offer_11 rfl ?_
    refine r_iconst (v := 0) dX8_offer_12 (by decide) ?_
    refine r_sipush (v := 9999) dX8_offer_13 (by decide) ?_
    refine r_S3s cv_X8_69 dX8_offer_16 (c_within c 0 9999) ⟨by decide, by decide⟩ (Nat.le_of_ble_eq_true rfl) ⟨Nat.le_refl _, Nat.le_refl _⟩ ?_
    refine r_bz_ne (tgt := 25) dX8_offer_19 (by decide) (fun h19 => ?_) (fun h19 => ?_)
    · refine r_aload_n dX8_offer_25 rfl ?_
      refine r_getr fl_X8_23 dX8_offer_26 kd_0 ln_0 rfl rfl ?_
      refine r_V0s cv_X8_198 dX8_offer_29 (c_stands hc) ⟨by decide, by decide⟩ (kC0 hC) (lC0 hC) cl_2 (Nat.le_of_ble_eq_true rfl) ⟨Nat.le_refl _, Nat.le_refl _⟩ ?_
      refine r_bz_ne (tgt := 38) dX8_offer_32 (by decide) (fun h32 => ?_) (fun h32 => ?_)
      · refine r_aload_n dX8_offer_38 rfl ?_
        refine r_iload_n dX8_offer_39 rfl ?_
        refine r_iload_n dX8_offer_40 rfl ?_
        refine r_aload_n dX8_offer_41 rfl ?_
        refine r_V0s cv_X8_127 dX8_offer_42 (c_waysLeft hc) ⟨by decide, by decide⟩ kd_0 ln_0 cl_8 (Nat.le_of_ble_eq_true rfl) ⟨Nat.le_refl _, Nat.le_refl _⟩ ?_
        refine r_V3s cv_X8_243 dX8_offer_45 (c_offerFor hc v c (wlX im pl)) ⟨by decide, by decide⟩ kd_0 ln_0 cl_8 (Nat.le_of_ble_eq_true rfl) ⟨Nat.le_refl _, Nat.le_refl _⟩ ?_
        exact r_iret dX8_offer_48 rfl (by simp only [eq_self, Bool.false_eq_true, Bool.true_eq_false, if_true, if_false, reduceIte, true_and, and_true, false_and, and_false, true_or, or_true, false_or, or_false, not_true_eq_false, not_false_eq_true, Bool.not_true, Bool.not_false, Bool.true_and, Bool.and_true, Bool.false_and, Bool.and_false, decide_true, decide_false, h8, h19, h32]) (Nat.le_refl _) (Nat.le_refl _)
      · refine r_ldc dX8_offer_35 kn_X8_197 ?_
        exact r_iret dX8_offer_37 rfl (by simp only [eq_self, Bool.false_eq_true, Bool.true_eq_false, if_true, if_false, reduceIte, true_and, and_true, false_and, and_false, true_or, or_true, false_or, or_false, not_true_eq_false, not_false_eq_true, Bool.not_true, Bool.not_false, Bool.true_and, Bool.and_true, Bool.false_and, Bool.and_false, decide_true, decide_false, h8, h19, h32]) (Nat.le_refl _) (Nat.le_refl _)
    · refine r_ldc dX8_offer_22 kn_X8_73 ?_
      exact r_iret dX8_offer_24 rfl (by simp only [eq_self, Bool.false_eq_true, Bool.true_eq_false, if_true, if_false, reduceIte, true_and, and_true, false_and, and_false, true_or, or_true, false_or, or_false, not_true_eq_false, not_false_eq_true, Bool.not_true, Bool.not_false, Bool.true_and, Bool.and_true, Bool.false_and, Bool.and_false, decide_true, decide_false, h8, h19]) (Nat.le_refl _) (Nat.le_refl _)

set_option maxRecDepth 100000 in
set_option maxHeartbeats 4000000 in
theorem c_both {im : IM} {pl it : Nat} (hc : CA im pl) (v c x : Int32) : MT YX8_both 4 0 0 [.ref 0, .int v, .int c, .int x] 137 im (RR pl it) (some (.int (if inB v 0 9999 = false then (-1000000002) else if inB c 0 9999 = false then (-1000000002) else if inB x 0 9999 = false then (-1000000002) else if decide (0 < im pl 0) = false then (-1000000003) else if ofS im pl v c (wlX im pl) ≤ x then 0 else (ofS im pl v c (wlX im pl) - x) / 2)), 137, im, RR pl it) := by
  obtain ⟨hC, W, T, S, hW, hW8, hT, hT6, hS, hS5⟩ := id hc
  have htW : tn (im pl 0) = W := by rw [hW, tn_nI (by omega)]
  have htT : tn (im pl 2) = T := by rw [hT, tn_nI (by omega)]
  have htS : tn (im pl 6) = S := by rw [hS, tn_nI (by omega)]
  refine mt_of (by decide +kernel) (Nat.le_of_ble_eq_true rfl) ?_
  show WW _ _ _ _ _ _ _ 0 [(0, .ref 0), (1, .int v), (2, .int c), (3, .int x)] [] _ _ _
  refine r_iload_n dX8_both_0 rfl ?_
  refine r_iconst (v := 0) dX8_both_1 (by decide) ?_
  refine r_sipush (v := 9999) dX8_both_2 (by decide) ?_
  refine r_S3s cv_X8_69 dX8_both_5 (c_within v 0 9999) ⟨by decide, by decide⟩ (Nat.le_of_ble_eq_true rfl) ⟨Nat.le_refl _, Nat.le_refl _⟩ ?_
  refine r_bz_eq (tgt := 33) dX8_both_8 (by decide) (fun h8 => ?_) (fun h8 => ?_)
  · refine r_ldc dX8_both_33 kn_X8_73 ?_
    exact r_iret dX8_both_35 rfl (by simp only [eq_self, Bool.false_eq_true, Bool.true_eq_false, if_true, if_false, reduceIte, true_and, and_true, false_and, and_false, true_or, or_true, false_or, or_false, not_true_eq_false, not_false_eq_true, Bool.not_true, Bool.not_false, Bool.true_and, Bool.and_true, Bool.false_and, Bool.and_false, decide_true, decide_false, h8]) (Nat.le_refl _) (Nat.le_refl _)
  · refine r_iload_n dX8_both_11 rfl ?_
    refine r_iconst (v := 0) dX8_both_12 (by decide) ?_
    refine r_sipush (v := 9999) dX8_both_13 (by decide) ?_
    refine r_S3s cv_X8_69 dX8_both_16 (c_within c 0 9999) ⟨by decide, by decide⟩ (Nat.le_of_ble_eq_true rfl) ⟨Nat.le_refl _, Nat.le_refl _⟩ ?_
    refine r_bz_eq (tgt := 33) dX8_both_19 (by decide) (fun h19 => ?_) (fun h19 => ?_)
    · refine r_ldc dX8_both_33 kn_X8_73 ?_
      exact r_iret dX8_both_35 rfl (by simp only [eq_self, Bool.false_eq_true, Bool.true_eq_false, if_true, if_false, reduceIte, true_and, and_true, false_and, and_false, true_or, or_true, false_or, or_false, not_true_eq_false, not_false_eq_true, Bool.not_true, Bool.not_false, Bool.true_and, Bool.and_true, Bool.false_and, Bool.and_false, decide_true, decide_false, h8, h19]) (Nat.le_refl _) (Nat.le_refl _)
    · refine r_iload_n dX8_both_22 rfl ?_
      refine r_iconst (v := 0) dX8_both_23 (by decide) ?_
      refine r_sipush (v := 9999) dX8_both_24 (by decide) ?_
      refine r_S3s cv_X8_69 dX8_both_27 (c_within x 0 9999) ⟨by decide, by decide⟩ (Nat.le_of_ble_eq_true rfl) ⟨Nat.le_refl _, Nat.le_refl _⟩ ?_
      refine r_bz_ne (tgt := 36) dX8_both_30 (by decide) (fun h30 => ?_) (fun h30 => ?_)
      · refine r_aload_n dX8_both_36 rfl ?_
        refine r_getr fl_X8_23 dX8_both_37 kd_0 ln_0 rfl rfl ?_
        refine r_V0s cv_X8_198 dX8_both_40 (c_stands hc) ⟨by decide, by decide⟩ (kC0 hC) (lC0 hC) cl_2 (Nat.le_of_ble_eq_true rfl) ⟨Nat.le_refl _, Nat.le_refl _⟩ ?_
        refine r_bz_ne (tgt := 49) dX8_both_43 (by decide) (fun h43 => ?_) (fun h43 => ?_)
        · refine r_aload_n dX8_both_49 rfl ?_
          refine r_iload_n dX8_both_50 rfl ?_
          refine r_iload_n dX8_both_51 rfl ?_
          refine r_aload_n dX8_both_52 rfl ?_
          refine r_V0s cv_X8_127 dX8_both_53 (c_waysLeft hc) ⟨by decide, by decide⟩ kd_0 ln_0 cl_8 (Nat.le_of_ble_eq_true rfl) ⟨Nat.le_refl _, Nat.le_refl _⟩ ?_
          refine r_V3s cv_X8_243 dX8_both_56 (c_offerFor hc v c (wlX im pl)) ⟨by decide, by decide⟩ kd_0 ln_0 cl_8 (Nat.le_of_ble_eq_true rfl) ⟨Nat.le_refl _, Nat.le_refl _⟩ ?_
          refine r_istore dX8_both_59 (by decide) ?_
          refine r_iload dX8_both_61 rfl ?_
          refine r_iload_n dX8_both_63 rfl ?_
          refine r_icmp_le (tgt := 76) dX8_both_64 (by decide) (fun h64 => ?_) (fun h64 => ?_)
          · refine r_iconst (v := 0) dX8_both_76 (by decide) ?_
            exact r_iret dX8_both_77 rfl (by simp only [eq_self, Bool.false_eq_true, Bool.true_eq_false, if_true, if_false, reduceIte, true_and, and_true, false_and, and_false, true_or, or_true, false_or, or_false, not_true_eq_false, not_false_eq_true, Bool.not_true, Bool.not_false, Bool.true_and, Bool.and_true, Bool.false_and, Bool.and_false, decide_true, decide_false, h8, h19, h30, h43, h64]) (Nat.le_refl _) (Nat.le_refl _)
          · refine r_iload dX8_both_67 rfl ?_
            refine r_iload_n dX8_both_69 rfl ?_
            refine r_isub dX8_both_70 ?_
            refine r_iconst (v := 2) dX8_both_71 (by decide) ?_
            refine r_idiv dX8_both_72 (by decide) ?_
            refine r_goto (tgt := 77) dX8_both_73 (by decide) ?_
            exact r_iret dX8_both_77 rfl (by simp only [eq_self, Bool.false_eq_true, Bool.true_eq_false, if_true, if_false, reduceIte, true_and, and_true, false_and, and_false, true_or, or_true, false_or, or_false, not_true_eq_false, not_false_eq_true, Bool.not_true, Bool.not_false, Bool.true_and, Bool.and_true, Bool.false_and, Bool.and_false, decide_true, decide_false, h8, h19, h30, h43, h64]) (Nat.le_refl _) (Nat.le_refl _)
        · refine r_ldc dX8_both_46 kn_X8_197 ?_
          exact r_iret dX8_both_48 rfl (by simp only [eq_self, Bool.false_eq_true, Bool.true_eq_false, if_true, if_false, reduceIte, true_and, and_true, false_and, and_false, true_or, or_true, false_or, or_false, not_true_eq_false, not_false_eq_true, Bool.not_true, Bool.not_false, Bool.true_and, Bool.and_true, Bool.false_and, Bool.and_false, decide_true, decide_false, h8, h19, h30, h43]) (Nat.le_refl _) (Nat.le_refl _)
      · refine r_ldc dX8_both_33 kn_X8_73 ?_
        exact r_iret dX8_both_35 rfl (by simp only [eq_self, Bool.false_eq_true, Bool.true_eq_false, if_true, if_false, reduceIte, true_and, and_true, false_and, and_false, true_or, or_true, false_or, or_false, not_true_eq_false, not_false_eq_true, Bool.not_true, Bool.not_false, Bool.true_and, Bool.and_true, Bool.false_and, Bool.and_false, decide_true, decide_false, h8, h19, h30]) (Nat.le_refl _) (Nat.le_refl _)

set_option maxRecDepth 100000 in
set_option maxHeartbeats 4000000 in
theorem c_worth {im : IM} {pl it : Nat} (hc : CA im pl) (x v : Int32) : MT YX8_worth 4 0 0 [.ref 0, .int x, .int v] 137 im (RR pl it) (some (.int (if inB x 0 (im pl 2 - 1) = false then (-1000000001) else if inB v 0 9999 = false then (-1000000002) else ofS im pl v 0 (wlX im pl &&& (im (pl + 2) (tn x) ^^^ (-1))) - ofS im pl v 0 (wlX im pl) - im (pl + 4) (tn x) + 100000)), 137, im, RR pl it) := by
  obtain ⟨hC, W, T, S, hW, hW8, hT, hT6, hS, hS5⟩ := id hc
  have htW : tn (im pl 0) = W := by rw [hW, tn_nI (by omega)]
  have htT : tn (im pl 2) = T := by rw [hT, tn_nI (by omega)]
  have htS : tn (im pl 6) = S := by rw [hS, tn_nI (by omega)]
  refine mt_of (by decide +kernel) (Nat.le_of_ble_eq_true rfl) ?_
  show WW _ _ _ _ _ _ _ 0 [(0, .ref 0), (1, .int x), (2, .int v)] [] _ _ _
  refine r_aload_n dX8_worth_0 rfl ?_
  refine r_getr fl_X8_23 dX8_worth_1 kd_0 ln_0 rfl rfl ?_
  refine r_iload_n dX8_worth_4 rfl ?_
  refine r_V1s cv_X8_151 dX8_worth_5 (c_hasTest hc x) ⟨by decide, by decide⟩ (kC0 hC) (lC0 hC) cl_2 (Nat.le_of_ble_eq_true rfl) ⟨Nat.le_refl _, Nat.le_refl _⟩ ?_
  refine r_bz_ne (tgt := 14) dX8_worth_8 (by decide) (fun h8 => ?_) (fun h8 => ?_)
  · obtain ⟨jw, hjw, hj⟩ := inB_nat (W := T) (by rw [← hT]; exact h8) (by omega)
    have htt : tn x = jw := by rw [hj, tn_nI (by omega)]
    refine r_iload_n dX8_worth_14 rfl ?_
    refine r_iconst (v := 0) dX8_worth_15 (by decide) ?_
    refine r_sipush (v := 9999) dX8_worth_16 (by decide) ?_
    refine r_S3s cv_X8_69 dX8_worth_19 (c_within v 0 9999) ⟨by decide, by decide⟩ (Nat.le_of_ble_eq_true rfl) ⟨Nat.le_refl _, Nat.le_refl _⟩ ?_
    refine r_bz_ne (tgt := 28) dX8_worth_22 (by decide) (fun h22 => ?_) (fun h22 => ?_)
    · refine r_aload_n dX8_worth_28 rfl ?_
      refine r_V0s cv_X8_127 dX8_worth_29 (c_waysLeft hc) ⟨by decide, by decide⟩ kd_0 ln_0 cl_8 (Nat.le_of_ble_eq_true rfl) ⟨Nat.le_refl _, Nat.le_refl _⟩ ?_
      refine r_istore_n dX8_worth_32 (by decide) ?_
      refine r_aload_n dX8_worth_33 rfl ?_
      refine r_iload_n dX8_worth_34 rfl ?_
      refine r_iconst (v := 0) dX8_worth_35 (by decide) ?_
      refine r_iload_n dX8_worth_36 rfl ?_
      refine r_aload_n dX8_worth_37 rfl ?_
      refine r_getr fl_X8_23 dX8_worth_38 kd_0 ln_0 rfl rfl ?_
      refine r_getr fl_X8_154 dX8_worth_41 (kC0 hC) (lC0 hC) rfl (rrC3 hC) ?_
      refine r_iload_n dX8_worth_44 rfl ?_
      refine r_iald (j := jw) dX8_worth_45 (kC2 hC) (lC2 hC) hj (by omega) (by decide) ?_
      refine r_iconst (v := (-1)) dX8_worth_46 (by decide) ?_
      refine r_ixor dX8_worth_47 ?_
      refine r_iand dX8_worth_48 ?_
      refine r_V3s cv_X8_243 dX8_worth_49 (c_offerFor hc v 0 ((wlX im pl) &&& ((im (pl + 2) jw) ^^^ (-1)))) ⟨by decide, by decide⟩ kd_0 ln_0 cl_8 (Nat.le_of_ble_eq_true rfl) ⟨Nat.le_refl _, Nat.le_refl _⟩ ?_
      refine r_istore dX8_worth_52 (by decide) ?_
      refine r_iload dX8_worth_54 rfl ?_
      refine r_aload_n dX8_worth_56 rfl ?_
      refine r_iload_n dX8_worth_57 rfl ?_
      refine r_iconst (v := 0) dX8_worth_58 (by decide) ?_
      refine r_iload_n dX8_worth_59 rfl ?_
      refine r_V3s cv_X8_243 dX8_worth_60 (c_offerFor hc v 0 (wlX im pl)) ⟨by decide, by decide⟩ kd_0 ln_0 cl_8 (Nat.le_of_ble_eq_true rfl) ⟨Nat.le_refl _, Nat.le_refl _⟩ ?_
      refine r_isub dX8_worth_63 ?_
      refine r_aload_n dX8_worth_64 rfl ?_
      refine r_getr fl_X8_23 dX8_worth_65 kd_0 ln_0 rfl rfl ?_
      refine r_getr fl_X8_160 dX8_worth_68 (kC0 hC) (lC0 hC) rfl (rrC5 hC) ?_
      refine r_iload_n dX8_worth_71 rfl ?_
      refine r_iald (j := jw) dX8_worth_72 (kC4 hC) (lC4 hC) hj (by omega) (by decide) ?_
      refine r_isub dX8_worth_73 ?_
      refine r_ldc dX8_worth_74 kn_X8_247 ?_
      refine r_iadd dX8_worth_76 ?_
      exact r_iret dX8_worth_77 rfl (by simp only [eq_self, Bool.false_eq_true, Bool.true_eq_false, if_true, if_false, reduceIte, h8, h22, htt]) (Nat.le_refl _) (Nat.le_refl _)
    · refine r_ldc dX8_worth_25 kn_X8_73 ?_
      exact r_iret dX8_worth_27 rfl (by simp only [eq_self, Bool.false_eq_true, Bool.true_eq_false, if_true, if_false, reduceIte, h8, h22, htt]) (Nat.le_refl _) (Nat.le_refl _)
  · refine r_ldc dX8_worth_11 kn_X8_150 ?_
    exact r_iret dX8_worth_13 rfl (by simp only [eq_self, Bool.false_eq_true, Bool.true_eq_false, if_true, if_false, reduceIte, h8]) (Nat.le_refl _) (Nat.le_refl _)

set_option maxRecDepth 100000 in
set_option maxHeartbeats 4000000 in
theorem c_secret {im : IM} {pl it : Nat} (hc : CA im pl) (x q : Int32) : MT YX8_secret 1 0 0 [.ref 0, .int x, .int q] 137 im (RR pl it) (some (.int (if inB x 0 60 = false then (-1000000002) else if inB q 0 100 = false then (-1000000002) else scF q (tn x))), 137, im, RR pl it) := by
  obtain ⟨hC, W, T, S, hW, hW8, hT, hT6, hS, hS5⟩ := id hc
  have htW : tn (im pl 0) = W := by rw [hW, tn_nI (by omega)]
  have htT : tn (im pl 2) = T := by rw [hT, tn_nI (by omega)]
  have htS : tn (im pl 6) = S := by rw [hS, tn_nI (by omega)]
  refine mt_of (by decide +kernel) (Nat.le_of_ble_eq_true rfl) ?_
  show WW _ _ _ _ _ _ _ 0 [(0, .ref 0), (1, .int x), (2, .int q)] [] _ _ _
  refine r_iload_n dX8_secret_0 rfl ?_
  refine r_iconst (v := 0) dX8_secret_1 (by decide) ?_
  refine r_bipush (v := 60) dX8_secret_2 (by decide) ?_
  refine r_S3s cv_X8_69 dX8_secret_4 (c_within x 0 60) ⟨by decide, by decide⟩ (Nat.le_of_ble_eq_true rfl) ⟨Nat.le_refl _, Nat.le_refl _⟩ ?_
  refine r_bz_eq (tgt := 20) dX8_secret_7 (by decide) (fun h7 => ?_) (fun h7 => ?_)
  · refine r_ldc dX8_secret_20 kn_X8_73 ?_
    exact r_iret dX8_secret_22 rfl (by simp only [eq_self, Bool.false_eq_true, Bool.true_eq_false, if_true, if_false, reduceIte, h7]) (Nat.le_refl _) (Nat.le_refl _)
  · refine r_iload_n dX8_secret_10 rfl ?_
    refine r_iconst (v := 0) dX8_secret_11 (by decide) ?_
    refine r_bipush (v := 100) dX8_secret_12 (by decide) ?_
    refine r_S3s cv_X8_69 dX8_secret_14 (c_within q 0 100) ⟨by decide, by decide⟩ (Nat.le_of_ble_eq_true rfl) ⟨Nat.le_refl _, Nat.le_refl _⟩ ?_
    refine r_bz_ne (tgt := 23) dX8_secret_17 (by decide) (fun h17 => ?_) (fun h17 => ?_)
    · obtain ⟨jw, hjw, hj⟩ := inB_nat (W := 61) (w := x) h7 (by omega)
      have htt : tn x = jw := by rw [hj, tn_nI (by omega)]
      refine r_ldc dX8_secret_23 kn_X8_248 ?_
      refine r_istore_n dX8_secret_25 (by decide) ?_
      refine r_iconst (v := 0) dX8_secret_26 (by decide) ?_
      refine r_istore dX8_secret_27 (by decide) ?_
      refine r_lv (lv' := [(0, .ref 0), (1, .int x), (2, .int q), (3, .int (scF q 0)), (4, .int (nI 0))]) (al_cons rfl (al_cons rfl (al_cons rfl (al_int rfl rfl (al_int rfl (by exact (cI 0)) al_nil))))) ?_
      refine WW.loop (fun t => [(0, .ref 0), (1, .int x), (2, .int q), (3, .int (scF q t)), (4, .int (nI t))]) (fun _ => im) (N := jw) ?_ ?_ 0 (Nat.zero_le _)
      · show WW _ _ _ _ _ _ _ 29 [(0, .ref 0), (1, .int x), (2, .int q), (3, .int (scF q jw)), (4, .int (nI jw))] _ _ _ _
        refine r_iload dX8_secret_29 rfl ?_
        refine r_iload_n dX8_secret_31 rfl ?_
        refine r_icmp_ge_t (tgt := 51) dX8_secret_32 (by decide) (ix_le hj rfl (by omega) (by omega)) ?_
        refine r_iload_n dX8_secret_51 rfl ?_
        exact r_iret dX8_secret_52 rfl (by simp only [eq_self, Bool.false_eq_true, Bool.true_eq_false, if_true, if_false, reduceIte, h7, h17, htt]) (Nat.le_refl _) (Nat.le_refl _)
      · intro t ht iht
        show WW _ _ _ _ _ _ _ 29 [(0, .ref 0), (1, .int x), (2, .int q), (3, .int (scF q t)), (4, .int (nI t))] _ _ _ _
        refine r_iload dX8_secret_29 rfl ?_
        refine r_iload_n dX8_secret_31 rfl ?_
        refine r_icmp_ge_f (tgt := 51) dX8_secret_32 (by decide) (ix_nle hj rfl (by omega) (by omega)) ?_
        refine r_iload_n dX8_secret_35 rfl ?_
        refine r_bipush (v := 100) dX8_secret_36 (by decide) ?_
        refine r_iload_n dX8_secret_38 rfl ?_
        refine r_isub dX8_secret_39 ?_
        refine r_imul dX8_secret_40 ?_
        refine r_bipush (v := 100) dX8_secret_41 (by decide) ?_
        refine r_idiv dX8_secret_43 (by decide) ?_
        refine r_istore_n dX8_secret_44 (by decide) ?_
        refine r_iinc dX8_secret_45 rfl (by decide) (ix_inc rfl) ?_
        refine r_goto (tgt := 29) dX8_secret_48 (by decide) ?_
        refine r_lv (lv' := [(0, .ref 0), (1, .int x), (2, .int q), (3, .int (scF q (t + 1))), (4, .int (nI (t + 1)))]) (al_cons rfl (al_cons rfl (al_cons rfl (al_int rfl rfl (al_cons rfl al_nil))))) ?_
        exact iht
    · refine r_ldc dX8_secret_20 kn_X8_73 ?_
      exact r_iret dX8_secret_22 rfl (by simp only [eq_self, Bool.false_eq_true, Bool.true_eq_false, if_true, if_false, reduceIte, h7, h17]) (Nat.le_refl _) (Nat.le_refl _)

set_option maxRecDepth 100000 in
set_option maxHeartbeats 4000000 in
theorem c_refusal {im : IM} {pl it : Nat} (hc : CA im pl) (x : Int32) : MT YX8_refusalOfDays 1 0 0 [.ref 0, .int x] 137 im (RR pl it) (some (.int (rfD im pl x)), 137, im, RR pl it) := by
  obtain ⟨hC, W, T, S, hW, hW8, hT, hT6, hS, hS5⟩ := id hc
  have htW : tn (im pl 0) = W := by rw [hW, tn_nI (by omega)]
  have htT : tn (im pl 2) = T := by rw [hT, tn_nI (by omega)]
  have htS : tn (im pl 6) = S := by rw [hS, tn_nI (by omega)]
  refine mt_of (by decide +kernel) (Nat.le_of_ble_eq_true rfl) ?_
  show WW _ _ _ _ _ _ _ 0 [(0, .ref 0), (1, .int x)] [] _ _ _
  refine r_iload_n dX8_refusalOfDays_0 rfl ?_
  refine r_iconst (v := 1) dX8_refusalOfDays_1 (by decide) ?_
  refine r_bipush (v := 60) dX8_refusalOfDays_2 (by decide) ?_
  refine r_S3s cv_X8_69 dX8_refusalOfDays_4 (c_within x 1 60) ⟨by decide, by decide⟩ (Nat.le_of_ble_eq_true rfl) ⟨Nat.le_refl _, Nat.le_refl _⟩ ?_
  refine r_bz_ne (tgt := 13) dX8_refusalOfDays_7 (by decide) (fun h7 => ?_) (fun h7 => ?_)
  · refine r_aload_n dX8_refusalOfDays_13 rfl ?_
    refine r_getr fl_X8_23 dX8_refusalOfDays_14 kd_0 ln_0 rfl rfl ?_
    refine r_V0s cv_X8_198 dX8_refusalOfDays_17 (c_stands hc) ⟨by decide, by decide⟩ (kC0 hC) (lC0 hC) cl_2 (Nat.le_of_ble_eq_true rfl) ⟨Nat.le_refl _, Nat.le_refl _⟩ ?_
    refine r_bz_ne (tgt := 26) dX8_refusalOfDays_20 (by decide) (fun h20 => ?_) (fun h20 => ?_)
    · refine r_aload_n dX8_refusalOfDays_26 rfl ?_
      refine r_getr fl_X8_30 dX8_refusalOfDays_27 kd_0 ln_0 rfl rfl ?_
      refine r_geti fl_X8_111 dX8_refusalOfDays_30 kd_17 ln_17 rfl ?_
      refine r_sipush (v := 9000) dX8_refusalOfDays_33 (by decide) ?_
      refine r_icmp_le (tgt := 44) dX8_refusalOfDays_36 (by decide) (fun h36 => ?_) (fun h36 => ?_)
      · refine r_iconst (v := 0) dX8_refusalOfDays_44 (by decide) ?_
        exact r_iret dX8_refusalOfDays_45 rfl (by simp only [rfD, eq_self, Bool.false_eq_true, Bool.true_eq_false, if_true, if_false, reduceIte, true_and, and_true, false_and, and_false, true_or, or_true, false_or, or_false, not_true_eq_false, not_false_eq_true, Bool.not_true, Bool.not_false, Bool.true_and, Bool.and_true, Bool.false_and, Bool.and_false, decide_true, decide_false, h7, h20, h36]) (Nat.le_refl _) (Nat.le_refl _)
      · refine r_ldc dX8_refusalOfDays_39 kn_X8_81 ?_
        refine r_goto (tgt := 45) dX8_refusalOfDays_41 (by decide) ?_
        exact r_iret dX8_refusalOfDays_45 rfl (by simp only [rfD, eq_self, Bool.false_eq_true, Bool.true_eq_false, if_true, if_false, reduceIte, true_and, and_true, false_and, and_false, true_or, or_true, false_or, or_false, not_true_eq_false, not_false_eq_true, Bool.not_true, Bool.not_false, Bool.true_and, Bool.and_true, Bool.false_and, Bool.and_false, decide_true, decide_false, h7, h20, h36]) (Nat.le_refl _) (Nat.le_refl _)
    · refine r_ldc dX8_refusalOfDays_23 kn_X8_197 ?_
      exact r_iret dX8_refusalOfDays_25 rfl (by simp only [rfD, eq_self, Bool.false_eq_true, Bool.true_eq_false, if_true, if_false, reduceIte, true_and, and_true, false_and, and_false, true_or, or_true, false_or, or_false, not_true_eq_false, not_false_eq_true, Bool.not_true, Bool.not_false, Bool.true_and, Bool.and_true, Bool.false_and, Bool.and_false, decide_true, decide_false, h7, h20]) (Nat.le_refl _) (Nat.le_refl _)
  · refine r_ldc dX8_refusalOfDays_10 kn_X8_73 ?_
    exact r_iret dX8_refusalOfDays_12 rfl (by simp only [rfD, eq_self, Bool.false_eq_true, Bool.true_eq_false, if_true, if_false, reduceIte, true_and, and_true, false_and, and_false, true_or, or_true, false_or, or_false, not_true_eq_false, not_false_eq_true, Bool.not_true, Bool.not_false, Bool.true_and, Bool.and_true, Bool.false_and, Bool.and_false, decide_true, decide_false, h7]) (Nat.le_refl _) (Nat.le_refl _)

def tsX (im : IM) (pl : Nat) (x w : Int32) : Int32 := if inB x 0 (im pl 2 - 1) = false then (-1000000001) else if w = nI 0 then im (pl + 2) (tn x) else if w = nI 1 then im (pl + 3) (tn x) else if w = nI 2 then im (pl + 4) (tn x) else if w = nI 3 then bI (hasB (im 17 4) x) else (-1000000002)
def svX (im : IM) (pl : Nat) (x w : Int32) : Int32 := if inB x 0 (im pl 6 - 1) = false then (-1000000001) else if w = nI 0 then im 18 (tn x) else if w = nI 1 then im (pl + 6) (tn x) else if w = nI 2 then im 19 (tn x) else if w = nI 3 then (if hasB (im 17 5) x = true then im 20 (tn x) else -1) else (-1000000002)

set_option maxRecDepth 100000 in
set_option maxHeartbeats 4000000 in
theorem c_test {im : IM} {pl it : Nat} (hc : CA im pl) (x w : Int32) : MT YX8_test 2 0 0 [.ref 0, .int x, .int w] 137 im (RR pl it) (some (.int (tsX im pl x w)), 137, im, RR pl it) := by
  obtain ⟨hC, W, T, S, hW, hW8, hT, hT6, hS, hS5⟩ := id hc
  have htW : tn (im pl 0) = W := by rw [hW, tn_nI (by omega)]
  have htT : tn (im pl 2) = T := by rw [hT, tn_nI (by omega)]
  have htS : tn (im pl 6) = S := by rw [hS, tn_nI (by omega)]
  refine mt_of (by decide +kernel) (Nat.le_of_ble_eq_true rfl) ?_
  show WW _ _ _ _ _ _ _ 0 [(0, .ref 0), (1, .int x), (2, .int w)] [] _ _ _
  refine r_aload_n dX8_test_0 rfl ?_
  refine r_getr fl_X8_23 dX8_test_1 kd_0 ln_0 rfl rfl ?_
  refine r_iload_n dX8_test_4 rfl ?_
  refine r_V1s cv_X8_151 dX8_test_5 (c_hasTest hc x) ⟨by decide, by decide⟩ (kC0 hC) (lC0 hC) cl_2 (Nat.le_of_ble_eq_true rfl) ⟨Nat.le_refl _, Nat.le_refl _⟩ ?_
  refine r_bz_ne (tgt := 14) dX8_test_8 (by decide) (fun h8 => ?_) (fun h8 => ?_)
  · obtain ⟨jw, hjw, hj⟩ := inB_nat (W := T) (by rw [← hT]; exact h8) (by omega)
    have htt : tn x = jw := by rw [hj, tn_nI (by omega)]
    refine r_iload_n dX8_test_14 rfl ?_
    rcases sw_split (x := w) (lo := 0) (n := 4) (by decide) (by decide) with hsw | ⟨jsw, hjsw, hsw⟩
    · refine r_tabOut (tgt := 94) dX8_test_15 (sw_out hsw) (by decide) ?_
      refine r_ldc dX8_test_94 kn_X8_73 ?_
      exact r_iret dX8_test_96 rfl (by simp only [tsX, h8, td_out4 hsw, eq_self, Bool.false_eq_true, Bool.true_eq_false, if_true, if_false, reduceIte]) (Nat.le_refl _) (Nat.le_refl _)
    · match jsw, hjsw, hsw with
      | 0, _, hsw =>
        refine r_tabIn (off := 29) (tgt := 44) dX8_test_15 (sw_a hsw (by decide) (by decide)) (sw_b hsw (by decide) (by decide)) (sw_c hsw (by decide) (by decide)) (by decide) ?_
        refine r_aload_n dX8_test_44 rfl ?_
        refine r_getr fl_X8_23 dX8_test_45 kd_0 ln_0 rfl rfl ?_
        refine r_getr fl_X8_154 dX8_test_48 (kC0 hC) (lC0 hC) rfl (rrC3 hC) ?_
        refine r_iload_n dX8_test_51 rfl ?_
        refine r_iald (j := jw) dX8_test_52 (kC2 hC) (lC2 hC) hj (by omega) (by decide) ?_
        exact r_iret dX8_test_53 rfl (by subst hsw; simp (config := {decide := true}) only [tsX, Nat.reduceAdd, Nat.reduceMod, bI, htt, nI_lit, eq_self, Bool.false_eq_true, Bool.true_eq_false, if_true, if_false, reduceIte, h8]) (Nat.le_refl _) (Nat.le_refl _)
      | 1, _, hsw =>
        refine r_tabIn (off := 39) (tgt := 54) dX8_test_15 (sw_a hsw (by decide) (by decide)) (sw_b hsw (by decide) (by decide)) (sw_c hsw (by decide) (by decide)) (by decide) ?_
        refine r_aload_n dX8_test_54 rfl ?_
        refine r_getr fl_X8_23 dX8_test_55 kd_0 ln_0 rfl rfl ?_
        refine r_getr fl_X8_157 dX8_test_58 (kC0 hC) (lC0 hC) rfl (rrC4 hC) ?_
        refine r_iload_n dX8_test_61 rfl ?_
        refine r_iald (j := jw) dX8_test_62 (kC3 hC) (lC3 hC) hj (by omega) (by decide) ?_
        exact r_iret dX8_test_63 rfl (by subst hsw; simp (config := {decide := true}) only [tsX, Nat.reduceAdd, Nat.reduceMod, bI, htt, nI_lit, eq_self, Bool.false_eq_true, Bool.true_eq_false, if_true, if_false, reduceIte, h8]) (Nat.le_refl _) (Nat.le_refl _)
      | 2, _, hsw =>
        refine r_tabIn (off := 49) (tgt := 64) dX8_test_15 (sw_a hsw (by decide) (by decide)) (sw_b hsw (by decide) (by decide)) (sw_c hsw (by decide) (by decide)) (by decide) ?_
        refine r_aload_n dX8_test_64 rfl ?_
        refine r_getr fl_X8_23 dX8_test_65 kd_0 ln_0 rfl rfl ?_
        refine r_getr fl_X8_160 dX8_test_68 (kC0 hC) (lC0 hC) rfl (rrC5 hC) ?_
        refine r_iload_n dX8_test_71 rfl ?_
        refine r_iald (j := jw) dX8_test_72 (kC4 hC) (lC4 hC) hj (by omega) (by decide) ?_
        exact r_iret dX8_test_73 rfl (by subst hsw; simp (config := {decide := true}) only [tsX, Nat.reduceAdd, Nat.reduceMod, bI, htt, nI_lit, eq_self, Bool.false_eq_true, Bool.true_eq_false, if_true, if_false, reduceIte, h8]) (Nat.le_refl _) (Nat.le_refl _)
      | 3, _, hsw =>
        refine r_tabIn (off := 59) (tgt := 74) dX8_test_15 (sw_a hsw (by decide) (by decide)) (sw_b hsw (by decide) (by decide)) (sw_c hsw (by decide) (by decide)) (by decide) ?_
        refine r_aload_n dX8_test_74 rfl ?_
        refine r_getr fl_X8_30 dX8_test_75 kd_0 ln_0 rfl rfl ?_
        refine r_geti fl_X8_124 dX8_test_78 kd_17 ln_17 rfl ?_
        refine r_iload_n dX8_test_81 rfl ?_
        refine r_S2s cv_X8_163 dX8_test_82 (c_has (im 17 4) x) ⟨by decide, by decide⟩ (Nat.le_of_ble_eq_true rfl) ⟨Nat.le_refl _, Nat.le_refl _⟩ ?_
        refine r_bz_eq (tgt := 92) dX8_test_85 (by decide) (fun h85 => ?_) (fun h85 => ?_)
        · refine r_iconst (v := 0) dX8_test_92 (by decide) ?_
          exact r_iret dX8_test_93 rfl (by subst hsw; simp (config := {decide := true}) only [tsX, Nat.reduceAdd, Nat.reduceMod, bI, htt, nI_lit, eq_self, Bool.false_eq_true, Bool.true_eq_false, if_true, if_false, reduceIte, h8, h85]) (Nat.le_refl _) (Nat.le_refl _)
        · refine r_iconst (v := 1) dX8_test_88 (by decide) ?_
          refine r_goto (tgt := 93) dX8_test_89 (by decide) ?_
          exact r_iret dX8_test_93 rfl (by subst hsw; simp (config := {decide := true}) only [tsX, Nat.reduceAdd, Nat.reduceMod, bI, htt, nI_lit, eq_self, Bool.false_eq_true, Bool.true_eq_false, if_true, if_false, reduceIte, h8, h85]) (Nat.le_refl _) (Nat.le_refl _)
      | j + 4, hj, _ => exact absurd hj (by omega)
  · refine r_ldc dX8_test_11 kn_X8_150 ?_
    exact r_iret dX8_test_13 rfl (by simp only [tsX, h8, eq_self, Bool.false_eq_true, Bool.true_eq_false, if_true, if_false, reduceIte]) (Nat.le_refl _) (Nat.le_refl _)

set_option maxRecDepth 100000 in
set_option maxHeartbeats 4000000 in
theorem c_servant {im : IM} {pl it : Nat} (hc : CA im pl) (x w : Int32) : MT YX8_servant 2 0 0 [.ref 0, .int x, .int w] 137 im (RR pl it) (some (.int (svX im pl x w)), 137, im, RR pl it) := by
  obtain ⟨hC, W, T, S, hW, hW8, hT, hT6, hS, hS5⟩ := id hc
  have htW : tn (im pl 0) = W := by rw [hW, tn_nI (by omega)]
  have htT : tn (im pl 2) = T := by rw [hT, tn_nI (by omega)]
  have htS : tn (im pl 6) = S := by rw [hS, tn_nI (by omega)]
  refine mt_of (by decide +kernel) (Nat.le_of_ble_eq_true rfl) ?_
  show WW _ _ _ _ _ _ _ 0 [(0, .ref 0), (1, .int x), (2, .int w)] [] _ _ _
  refine r_aload_n dX8_servant_0 rfl ?_
  refine r_getr fl_X8_23 dX8_servant_1 kd_0 ln_0 rfl rfl ?_
  refine r_iload_n dX8_servant_4 rfl ?_
  refine r_V1s cv_X8_167 dX8_servant_5 (c_hasServant hc x) ⟨by decide, by decide⟩ (kC0 hC) (lC0 hC) cl_2 (Nat.le_of_ble_eq_true rfl) ⟨Nat.le_refl _, Nat.le_refl _⟩ ?_
  refine r_bz_ne (tgt := 14) dX8_servant_8 (by decide) (fun h8 => ?_) (fun h8 => ?_)
  · obtain ⟨jw, hjw, hj⟩ := inB_nat (W := S) (by rw [← hS]; exact h8) (by omega)
    have htt : tn x = jw := by rw [hj, tn_nI (by omega)]
    refine r_iload_n dX8_servant_14 rfl ?_
    rcases sw_split (x := w) (lo := 0) (n := 4) (by decide) (by decide) with hsw | ⟨jsw, hjsw, hsw⟩
    · refine r_tabOut (tgt := 102) dX8_servant_15 (sw_out hsw) (by decide) ?_
      refine r_ldc dX8_servant_102 kn_X8_73 ?_
      exact r_iret dX8_servant_104 rfl (by simp only [svX, h8, td_out4 hsw, eq_self, Bool.false_eq_true, Bool.true_eq_false, if_true, if_false, reduceIte]) (Nat.le_refl _) (Nat.le_refl _)
    · match jsw, hjsw, hsw with
      | 0, _, hsw =>
        refine r_tabIn (off := 29) (tgt := 44) dX8_servant_15 (sw_a hsw (by decide) (by decide)) (sw_b hsw (by decide) (by decide)) (sw_c hsw (by decide) (by decide)) (by decide) ?_
        refine r_aload_n dX8_servant_44 rfl ?_
        refine r_getr fl_X8_30 dX8_servant_45 kd_0 ln_0 rfl rfl ?_
        refine r_getr fl_X8_170 dX8_servant_48 kd_17 ln_17 rfl rfl ?_
        refine r_iload_n dX8_servant_51 rfl ?_
        refine r_iald (j := jw) dX8_servant_52 kd_18 ln_18 hj (by omega) (by decide) ?_
        exact r_iret dX8_servant_53 rfl (by subst hsw; simp (config := {decide := true}) only [svX, Nat.reduceAdd, Nat.reduceMod, bI, htt, nI_lit, eq_self, Bool.false_eq_true, Bool.true_eq_false, if_true, if_false, reduceIte, h8]) (Nat.le_refl _) (Nat.le_refl _)
      | 1, _, hsw =>
        refine r_tabIn (off := 39) (tgt := 54) dX8_servant_15 (sw_a hsw (by decide) (by decide)) (sw_b hsw (by decide) (by decide)) (sw_c hsw (by decide) (by decide)) (by decide) ?_
        refine r_aload_n dX8_servant_54 rfl ?_
        refine r_getr fl_X8_23 dX8_servant_55 kd_0 ln_0 rfl rfl ?_
        refine r_getr fl_X8_173 dX8_servant_58 (kC0 hC) (lC0 hC) rfl (rrC8 hC) ?_
        refine r_iload_n dX8_servant_61 rfl ?_
        refine r_iald (j := jw) dX8_servant_62 (kC6 hC) (lC6 hC) hj (by omega) (by decide) ?_
        exact r_iret dX8_servant_63 rfl (by subst hsw; simp (config := {decide := true}) only [svX, Nat.reduceAdd, Nat.reduceMod, bI, htt, nI_lit, eq_self, Bool.false_eq_true, Bool.true_eq_false, if_true, if_false, reduceIte, h8]) (Nat.le_refl _) (Nat.le_refl _)
      | 2, _, hsw =>
        refine r_tabIn (off := 49) (tgt := 64) dX8_servant_15 (sw_a hsw (by decide) (by decide)) (sw_b hsw (by decide) (by decide)) (sw_c hsw (by decide) (by decide)) (by decide) ?_
        refine r_aload_n dX8_servant_64 rfl ?_
        refine r_getr fl_X8_30 dX8_servant_65 kd_0 ln_0 rfl rfl ?_
        refine r_getr fl_X8_176 dX8_servant_68 kd_17 ln_17 rfl rfl ?_
        refine r_iload_n dX8_servant_71 rfl ?_
        refine r_iald (j := jw) dX8_servant_72 kd_19 ln_19 hj (by omega) (by decide) ?_
        exact r_iret dX8_servant_73 rfl (by subst hsw; simp (config := {decide := true}) only [svX, Nat.reduceAdd, Nat.reduceMod, bI, htt, nI_lit, eq_self, Bool.false_eq_true, Bool.true_eq_false, if_true, if_false, reduceIte, h8]) (Nat.le_refl _) (Nat.le_refl _)
      | 3, _, hsw =>
        refine r_tabIn (off := 59) (tgt := 74) dX8_servant_15 (sw_a hsw (by decide) (by decide)) (sw_b hsw (by decide) (by decide)) (sw_c hsw (by decide) (by decide)) (by decide) ?_
        refine r_aload_n dX8_servant_74 rfl ?_
        refine r_getr fl_X8_30 dX8_servant_75 kd_0 ln_0 rfl rfl ?_
        refine r_geti fl_X8_134 dX8_servant_78 kd_17 ln_17 rfl ?_
        refine r_iload_n dX8_servant_81 rfl ?_
        refine r_S2s cv_X8_163 dX8_servant_82 (c_has (im 17 5) x) ⟨by decide, by decide⟩ (Nat.le_of_ble_eq_true rfl) ⟨Nat.le_refl _, Nat.le_refl _⟩ ?_
        refine r_bz_eq (tgt := 100) dX8_servant_85 (by decide) (fun h85 => ?_) (fun h85 => ?_)
        · refine r_iconst (v := (-1)) dX8_servant_100 (by decide) ?_
          exact r_iret dX8_servant_101 rfl (by subst hsw; simp (config := {decide := true}) only [svX, Nat.reduceAdd, Nat.reduceMod, bI, htt, nI_lit, eq_self, Bool.false_eq_true, Bool.true_eq_false, if_true, if_false, reduceIte, h8, h85]) (Nat.le_refl _) (Nat.le_refl _)
        · refine r_aload_n dX8_servant_88 rfl ?_
          refine r_getr fl_X8_30 dX8_servant_89 kd_0 ln_0 rfl rfl ?_
          refine r_getr fl_X8_179 dX8_servant_92 kd_17 ln_17 rfl rfl ?_
          refine r_iload_n dX8_servant_95 rfl ?_
          refine r_iald (j := jw) dX8_servant_96 kd_20 ln_20 hj (by omega) (by decide) ?_
          refine r_goto (tgt := 101) dX8_servant_97 (by decide) ?_
          exact r_iret dX8_servant_101 rfl (by subst hsw; simp (config := {decide := true}) only [svX, Nat.reduceAdd, Nat.reduceMod, bI, htt, nI_lit, eq_self, Bool.false_eq_true, Bool.true_eq_false, if_true, if_false, reduceIte, h8, h85]) (Nat.le_refl _) (Nat.le_refl _)
      | j + 4, hj, _ => exact absurd hj (by omega)
  · refine r_ldc dX8_servant_11 kn_X8_150 ?_
    exact r_iret dX8_servant_13 rfl (by simp only [svX, h8, eq_self, Bool.false_eq_true, Bool.true_eq_false, if_true, if_false, reduceIte]) (Nat.le_refl _) (Nat.le_refl _)

