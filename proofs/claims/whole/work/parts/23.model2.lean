set_option maxRecDepth 100000 in
set_option maxHeartbeats 4000000 in
theorem m_passes {im : IM} {pl it : Nat} (hm : MA im) : MT YX9_passes 1 0 0 [.ref 120] 137 im (RR pl it) (none, 137, psX im, RR pl it) := by
  obtain ⟨W, T, S, hW, hW8, hT, hT6, hS, hS5⟩ := id hm
  have htW : tn (im 122 0) = W := by rw [hW, tn_nI (by omega)]
  have htT : tn (im 122 1) = T := by rw [hT, tn_nI (by omega)]
  have htS : tn (im 122 2) = S := by rw [hS, tn_nI (by omega)]
  refine mt_of (by decide +kernel) (Nat.le_of_ble_eq_true rfl) ?_
  show WW _ _ _ _ _ _ _ 0 [(0, .ref 120)] [] _ _ _
  refine r_aload_n dX9_passes_0 rfl ?_
  refine r_getr fl_X9_41 dX9_passes_1 kd_120 ln_120 rfl rfl ?_
  refine r_iconst (v := 0) dX9_passes_4 (by decide) ?_
  refine r_dup2 dX9_passes_5 rfl rfl ?_
  refine r_iald (j := 0) dX9_passes_6 kd_130 ln_130 (cI 0) (by omega) (by decide) ?_
  refine r_iconst (v := 1) dX9_passes_7 (by decide) ?_
  refine r_iadd dX9_passes_8 ?_
  refine r_as (j := 0) dX9_passes_9 kd_130 ln_130 (cI 0) (by omega) (by decide) ?_
  refine r_aload_n dX9_passes_10 rfl ?_
  refine r_getr fl_X9_41 dX9_passes_11 kd_120 ln_120 rfl rfl ?_
  refine r_iconst (v := 1) dX9_passes_14 (by decide) ?_
  refine r_dup2 dX9_passes_15 rfl rfl ?_
  refine r_ialx (j := 1) (x := im 130 1) dX9_passes_16 kd_130 ln_130 (cI 1) (by omega) (by decide) rfl ?_
  refine r_aload_n dX9_passes_17 rfl ?_
  refine r_getr fl_X9_41 dX9_passes_18 kd_120 ln_120 rfl rfl ?_
  refine r_iconst (v := 2) dX9_passes_21 (by decide) ?_
  refine r_ialx (j := 2) (x := im 130 2) dX9_passes_22 kd_130 ln_130 (cI 2) (by omega) (by decide) rfl ?_
  refine r_iadd dX9_passes_23 ?_
  refine r_as (j := 1) dX9_passes_24 kd_130 ln_130 (cI 1) (by omega) (by decide) ?_
  refine r_iconst (v := 0) dX9_passes_25 (by decide) ?_
  refine r_istore_n dX9_passes_26 (by decide) ?_
  refine r_lv (lv' := [(0, .ref 120), (1, .int (nI 0))]) (al_cons rfl (al_int rfl (by exact (cI 0)) al_nil)) ?_
  refine r_im (im' := psT im 0) psT_in ?_
  refine WW.loop (fun t => [(0, .ref 120), (1, .int (nI t))]) (fun t => psT im t) (N := S) ?_ ?_ 0 (Nat.zero_le _)
  · show WW _ _ _ _ _ _ _ 27 [(0, .ref 120), (1, .int (nI S))] _ _ (psT im S) _
    refine r_iload_n dX9_passes_27 rfl ?_
    refine r_aload_n dX9_passes_28 rfl ?_
    refine r_getr fl_X9_17 dX9_passes_29 kd_120 ln_120 rfl rfl ?_
    refine r_iconst (v := 2) dX9_passes_32 (by decide) ?_
    refine r_ialx (j := 2) (x := im 122 2) dX9_passes_33 kd_122 ln_122 (cI 2) (by omega) (by decide) (by rw [psT_row (by decide)]) ?_
    refine r_icmp_ge_t (tgt := 120) dX9_passes_34 (by decide) (ix_le hS rfl (by omega) (by omega)) ?_
    exact r_vret dX9_passes_120 rfl (by rw [psX, htS]) (Nat.le_refl _) (Nat.le_refl _)
  · intro t ht iht
    show WW _ _ _ _ _ _ _ 27 [(0, .ref 120), (1, .int (nI t))] _ _ (psT im t) _
    refine r_iload_n dX9_passes_27 rfl ?_
    refine r_aload_n dX9_passes_28 rfl ?_
    refine r_getr fl_X9_17 dX9_passes_29 kd_120 ln_120 rfl rfl ?_
    refine r_iconst (v := 2) dX9_passes_32 (by decide) ?_
    refine r_ialx (j := 2) (x := im 122 2) dX9_passes_33 kd_122 ln_122 (cI 2) (by omega) (by decide) (by rw [psT_row (by decide)]) ?_
    refine r_icmp_ge_f (tgt := 120) dX9_passes_34 (by decide) (ix_nle hS rfl (by omega) (by omega)) ?_
    refine r_aload_n dX9_passes_37 rfl ?_
    refine r_getr fl_X9_41 dX9_passes_38 kd_120 ln_120 rfl rfl ?_
    refine r_iconst (v := 5) dX9_passes_41 (by decide) ?_
    refine r_ialx (j := 5) (x := im 130 5) dX9_passes_42 kd_130 ln_130 (cI 5) (by omega) (by decide) (psT_lo (by decide) (by decide)) ?_
    refine r_iload_n dX9_passes_43 rfl ?_
    refine r_S2s cv_X9_135 dX9_passes_44 (m_has (im 130 5) (nI t)) ⟨by decide, by decide⟩ (Nat.le_of_ble_eq_true rfl) ⟨Nat.le_refl _, Nat.le_refl _⟩ ?_
    refine r_bz_eq (tgt := 114) dX9_passes_47 (by decide) (fun h47 => ?_) (fun h47 => ?_)
    · refine r_iinc dX9_passes_114 rfl (by decide) (ix_inc rfl) ?_
      refine r_goto (tgt := 27) dX9_passes_117 (by decide) ?_
      refine r_lv (lv' := [(0, .ref 120), (1, .int (nI (t + 1)))]) (al_cons rfl (al_cons rfl al_nil)) ?_
      refine r_im (im' := psT im (t + 1)) (psT_n h47) ?_
      exact iht
    · refine r_aload_n dX9_passes_50 rfl ?_
      refine r_getr fl_X9_41 dX9_passes_51 kd_120 ln_120 rfl rfl ?_
      refine r_bipush (v := 6) dX9_passes_54 (by decide) ?_
      refine r_iconst (v := 3) dX9_passes_56 (by decide) ?_
      refine r_iload_n dX9_passes_57 rfl ?_
      refine r_imul dX9_passes_58 ?_
      refine r_iadd dX9_passes_59 ?_
      refine r_iconst (v := 2) dX9_passes_60 (by decide) ?_
      refine r_iadd dX9_passes_61 ?_
      refine r_dup2 dX9_passes_62 rfl rfl ?_
      refine r_ialx (j := (6 + (3 * t)) + 2) (x := siM im t) dX9_passes_63 kd_130 ln_130 (ix_add (ix_add (cI 6) (ix_mul (cI 3) rfl)) (cI 2)) (by omega) (by decide) (psT_hi (by omega)) ?_
      refine r_iconst (v := 1) dX9_passes_64 (by decide) ?_
      refine r_iadd dX9_passes_65 ?_
      refine r_as (j := (6 + (3 * t)) + 2) dX9_passes_66 kd_130 ln_130 (ix_add (ix_add (cI 6) (ix_mul (cI 3) rfl)) (cI 2)) (by omega) (by decide) ?_
      refine r_aload_n dX9_passes_67 rfl ?_
      refine r_getr fl_X9_41 dX9_passes_68 kd_120 ln_120 rfl rfl ?_
      refine r_bipush (v := 6) dX9_passes_71 (by decide) ?_
      refine r_iconst (v := 3) dX9_passes_73 (by decide) ?_
      refine r_iload_n dX9_passes_74 rfl ?_
      refine r_imul dX9_passes_75 ?_
      refine r_iadd dX9_passes_76 ?_
      refine r_iconst (v := 2) dX9_passes_77 (by decide) ?_
      refine r_iadd dX9_passes_78 ?_
      refine r_ialx (j := (6 + (3 * t)) + 2) (x := siM im t + 1) dX9_passes_79 kd_130 ln_130 (ix_add (ix_add (cI 6) (ix_mul (cI 3) rfl)) (cI 2)) (by omega) (by decide) (st_same _ _ _ _) ?_
      refine r_aload_n dX9_passes_80 rfl ?_
      refine r_getr fl_X9_17 dX9_passes_81 kd_120 ln_120 rfl rfl ?_
      refine r_iconst (v := 4) dX9_passes_84 (by decide) ?_
      refine r_ialx (j := 4) (x := im 122 4) dX9_passes_85 kd_122 ln_122 (cI 4) (by omega) (by decide) (by rw [st_row (by decide), psT_row (by decide)]) ?_
      refine r_icmp_ne (tgt := 114) dX9_passes_86 (by decide) (fun h86 => ?_) (fun h86 => ?_)
      · refine r_iinc dX9_passes_114 rfl (by decide) (ix_inc rfl) ?_
        refine r_goto (tgt := 27) dX9_passes_117 (by decide) ?_
        refine r_lv (lv' := [(0, .ref 120), (1, .int (nI (t + 1)))]) (al_cons rfl (al_cons rfl al_nil)) ?_
        refine r_im (im' := psT im (t + 1)) (psT_l h47 h86) ?_
        exact iht
      · refine r_aload_n dX9_passes_89 rfl ?_
        refine r_getr fl_X9_41 dX9_passes_90 kd_120 ln_120 rfl rfl ?_
        refine r_bipush (v := 6) dX9_passes_93 (by decide) ?_
        refine r_iconst (v := 3) dX9_passes_95 (by decide) ?_
        refine r_iload_n dX9_passes_96 rfl ?_
        refine r_imul dX9_passes_97 ?_
        refine r_iadd dX9_passes_98 ?_
        refine r_iconst (v := 2) dX9_passes_99 (by decide) ?_
        refine r_iadd dX9_passes_100 ?_
        refine r_iconst (v := 0) dX9_passes_101 (by decide) ?_
        refine r_as (j := (6 + (3 * t)) + 2) dX9_passes_102 kd_130 ln_130 (ix_add (ix_add (cI 6) (ix_mul (cI 3) rfl)) (cI 2)) (by omega) (by decide) ?_
        refine r_aload_n dX9_passes_103 rfl ?_
        refine r_iload_n dX9_passes_104 rfl ?_
        refine r_aload_n dX9_passes_105 rfl ?_
        refine r_getr fl_X9_17 dX9_passes_106 kd_120 ln_120 rfl rfl ?_
        refine r_iconst (v := 3) dX9_passes_109 (by decide) ?_
        refine r_ialx (j := 3) (x := im 122 3) dX9_passes_110 kd_122 ln_122 (cI 3) (by omega) (by decide) (by rw [st_row (by decide), st_row (by decide), psT_row (by decide)]) ?_
        refine r_V2n cv_X9_160 dX9_passes_111 (by have q := m_gets (pl := pl) (it := it) (im := st (st (psT im t) 130 (6 + 3 * t + 2) (siM im t + 1)) 130 (6 + 3 * t + 2) 0) (j := t) (by omega) (nI t) (im 122 3) rfl; rw [geM, show goM (st (st (psT im t) 130 (6 + 3 * t + 2) (siM im t + 1)) 130 (6 + 3 * t + 2) 0) t = goM im t by unfold goM; rw [st_ne (by omega), st_ne (by omega)]; exact psT_hi (by omega)] at q; exact q) ⟨by decide, by decide⟩ kd_120 ln_120 cl_9 (Nat.le_of_ble_eq_true rfl) ⟨Nat.le_refl _, Nat.le_refl _⟩ ?_
        refine r_iinc dX9_passes_114 rfl (by decide) (ix_inc rfl) ?_
        refine r_goto (tgt := 27) dX9_passes_117 (by decide) ?_
        refine r_lv (lv' := [(0, .ref 120), (1, .int (nI (t + 1)))]) (al_cons rfl (al_cons rfl al_nil)) ?_
        refine r_im (im' := psT im (t + 1)) (psT_p h47 h86) ?_
        exact iht

set_option maxRecDepth 100000 in
set_option maxHeartbeats 4000000 in
theorem m_barred {im : IM} {pl it : Nat} (hm : MA im) (x : Int32) : MT YX9_barred 1 0 0 [.ref 120, .int x] 137 im (RR pl it) (some (.int (brM im x)), 137, im, RR pl it) := by
  obtain ⟨W, T, S, hW, hW8, hT, hT6, hS, hS5⟩ := id hm
  have htW : tn (im 122 0) = W := by rw [hW, tn_nI (by omega)]
  have htT : tn (im 122 1) = T := by rw [hT, tn_nI (by omega)]
  have htS : tn (im 122 2) = S := by rw [hS, tn_nI (by omega)]
  refine mt_of (by decide +kernel) (Nat.le_of_ble_eq_true rfl) ?_
  show WW _ _ _ _ _ _ _ 0 [(0, .ref 120), (1, .int x)] [] _ _ _
  refine r_iload_n dX9_barred_0 rfl ?_
  refine r_iconst (v := 1) dX9_barred_1 (by decide) ?_
  refine r_bipush (v := 60) dX9_barred_2 (by decide) ?_
  refine r_S3s cv_X9_63 dX9_barred_4 (m_in x 1 60) ⟨by decide, by decide⟩ (Nat.le_of_ble_eq_true rfl) ⟨Nat.le_refl _, Nat.le_refl _⟩ ?_
  refine r_bz_ne (tgt := 15) dX9_barred_7 (by decide) (fun h7 => ?_) (fun h7 => ?_)
  · refine r_aload_n dX9_barred_15 rfl ?_
    refine r_V0s cv_X9_164 dX9_barred_16 (m_isCastle hm) ⟨by decide, by decide⟩ kd_120 ln_120 cl_9 (Nat.le_of_ble_eq_true rfl) ⟨Nat.le_refl _, Nat.le_refl _⟩ ?_
    refine r_bz_ne (tgt := 27) dX9_barred_19 (by decide) (fun h19 => ?_) (fun h19 => ?_)
    · refine r_aload_n dX9_barred_27 rfl ?_
      refine r_getr fl_X9_41 dX9_barred_28 kd_120 ln_120 rfl rfl ?_
      refine r_iconst (v := 0) dX9_barred_31 (by decide) ?_
      refine r_iald (j := 0) dX9_barred_32 kd_130 ln_130 (cI 0) (by omega) (by decide) ?_
      refine r_sipush (v := 9000) dX9_barred_33 (by decide) ?_
      refine r_icmp_le (tgt := 44) dX9_barred_36 (by decide) (fun h36 => ?_) (fun h36 => ?_)
      · refine r_iconst (v := 0) dX9_barred_44 (by decide) ?_
        exact r_iret dX9_barred_45 rfl (by simp only [brM, eq_self, Bool.false_eq_true, Bool.true_eq_false, if_true, if_false, reduceIte, true_and, and_true, false_and, and_false, true_or, or_true, false_or, or_false, not_true_eq_false, not_false_eq_true, Bool.not_true, Bool.not_false, Bool.true_and, Bool.and_true, Bool.false_and, Bool.and_false, decide_true, decide_false, h7, h19, h36]) (Nat.le_refl _) (Nat.le_refl _)
      · refine r_ldc dX9_barred_39 kn_X9_71 ?_
        refine r_goto (tgt := 45) dX9_barred_41 (by decide) ?_
        exact r_iret dX9_barred_45 rfl (by simp only [brM, eq_self, Bool.false_eq_true, Bool.true_eq_false, if_true, if_false, reduceIte, true_and, and_true, false_and, and_false, true_or, or_true, false_or, or_false, not_true_eq_false, not_false_eq_true, Bool.not_true, Bool.not_false, Bool.true_and, Bool.and_true, Bool.false_and, Bool.and_false, decide_true, decide_false, h7, h19, h36]) (Nat.le_refl _) (Nat.le_refl _)
    · refine r_ldc dX9_barred_22 kn_X9_168 ?_
      refine r_goto (tgt := 45) dX9_barred_24 (by decide) ?_
      exact r_iret dX9_barred_45 rfl (by simp only [brM, eq_self, Bool.false_eq_true, Bool.true_eq_false, if_true, if_false, reduceIte, true_and, and_true, false_and, and_false, true_or, or_true, false_or, or_false, not_true_eq_false, not_false_eq_true, Bool.not_true, Bool.not_false, Bool.true_and, Bool.and_true, Bool.false_and, Bool.and_false, decide_true, decide_false, h7, h19]) (Nat.le_refl _) (Nat.le_refl _)
  · refine r_ldc dX9_barred_10 kn_X9_67 ?_
    refine r_goto (tgt := 45) dX9_barred_12 (by decide) ?_
    exact r_iret dX9_barred_45 rfl (by simp only [brM, eq_self, Bool.false_eq_true, Bool.true_eq_false, if_true, if_false, reduceIte, true_and, and_true, false_and, and_false, true_or, or_true, false_or, or_false, not_true_eq_false, not_false_eq_true, Bool.not_true, Bool.not_false, Bool.true_and, Bool.and_true, Bool.false_and, Bool.and_false, decide_true, decide_false, h7]) (Nat.le_refl _) (Nat.le_refl _)

set_option maxRecDepth 100000 in
set_option maxHeartbeats 4000000 in
theorem m_day {im : IM} {pl it : Nat} (hm : MA im) (hE0 : HDm im) (x : Int32) : MT YX9_day 2 0 0 [.ref 120, .int x] 137 im (RR pl it) (some (.int (dyVm im x)), 137, dyM im x, RR pl it) := by
  obtain ⟨W, T, S, hW, hW8, hT, hT6, hS, hS5⟩ := id hm
  have htW : tn (im 122 0) = W := by rw [hW, tn_nI (by omega)]
  have htT : tn (im 122 1) = T := by rw [hT, tn_nI (by omega)]
  have htS : tn (im 122 2) = S := by rw [hS, tn_nI (by omega)]
  refine mt_of (by decide +kernel) (Nat.le_of_ble_eq_true rfl) ?_
  show WW _ _ _ _ _ _ _ 0 [(0, .ref 120), (1, .int x)] [] _ _ _
  refine r_aload_n dX9_day_0 rfl ?_
  refine r_iload_n dX9_day_1 rfl ?_
  refine r_V1s cv_X9_169 dX9_day_2 (m_barred hm x) ⟨by decide, by decide⟩ kd_120 ln_120 cl_9 (Nat.le_of_ble_eq_true rfl) ⟨Nat.le_refl _, Nat.le_refl _⟩ ?_
  refine r_istore_n dX9_day_5 (by decide) ?_
  refine r_iload_n dX9_day_6 rfl ?_
  refine r_if_eq (tgt := 12) dX9_day_7 (by decide) (fun h7 => ?_) (fun h7 => ?_)
  · obtain ⟨jw, hj1, hj60, hj⟩ := brM_nat h7
    have htt : tn x = jw := by rw [hj, tn_nI (by omega)]
    refine r_aload_n dX9_day_12 rfl ?_
    refine r_V0n cv_X9_172 dX9_day_13 (m_notes hE0) ⟨by decide, by decide⟩ kd_120 ln_120 cl_9 (Nat.le_of_ble_eq_true rfl) ⟨Nat.le_refl _, Nat.le_refl _⟩ ?_
    refine r_iconst (v := 0) dX9_day_16 (by decide) ?_
    refine r_istore_n dX9_day_17 (by decide) ?_
    refine r_lv (lv' := [(0, .ref 120), (1, .int x), (3, .int (nI 0))]) (al_cons rfl (al_cons rfl (al_int rfl (by exact (cI 0)) al_nil))) ?_
    refine r_im (im' := itM 0 (ntM im)) rfl ?_
    refine WW.loop (fun t => [(0, .ref 120), (1, .int x), (3, .int (nI t))]) (fun t => itM t (ntM im)) (N := jw) ?_ ?_ 0 (Nat.zero_le _)
    · show WW _ _ _ _ _ _ _ 18 [(0, .ref 120), (1, .int x), (3, .int (nI jw))] _ _ (itM jw (ntM im)) _
      refine r_iload_n dX9_day_18 rfl ?_
      refine r_iload_n dX9_day_19 rfl ?_
      refine r_icmp_ge_t (tgt := 33) dX9_day_20 (by decide) (ix_le hj rfl (by omega) (by omega)) ?_
      refine r_aload_n dX9_day_33 rfl ?_
      refine r_getr fl_X9_41 dX9_day_34 kd_120 ln_120 rfl rfl ?_
      refine r_iconst (v := 0) dX9_day_37 (by decide) ?_
      refine r_ialx (j := 0) (x := itM jw (ntM im) 130 0) dX9_day_38 kd_130 ln_130 (cI 0) (by omega) (by decide) rfl ?_
      exact r_iret dX9_day_39 rfl (by simp only [dyVm, dyM, eq_self, Bool.false_eq_true, Bool.true_eq_false, if_true, if_false, reduceIte, eq_true h7, htt]) (Nat.le_refl _) (Nat.le_refl _)
    · intro t ht iht
      show WW _ _ _ _ _ _ _ 18 [(0, .ref 120), (1, .int x), (3, .int (nI t))] _ _ (itM t (ntM im)) _
      refine r_iload_n dX9_day_18 rfl ?_
      refine r_iload_n dX9_day_19 rfl ?_
      refine r_icmp_ge_f (tgt := 33) dX9_day_20 (by decide) (ix_nle hj rfl (by omega) (by omega)) ?_
      refine r_aload_n dX9_day_23 rfl ?_
      refine r_V0n cv_X9_175 dX9_day_24 (m_passes (hm.keep (by rw [itM_row (by decide), ntM_row (by decide) (by decide)]))) ⟨by decide, by decide⟩ kd_120 ln_120 cl_9 (Nat.le_of_ble_eq_true rfl) ⟨Nat.le_refl _, Nat.le_refl _⟩ ?_
      refine r_iinc dX9_day_27 rfl (by decide) (ix_inc rfl) ?_
      refine r_goto (tgt := 18) dX9_day_30 (by decide) ?_
      refine r_lv (lv' := [(0, .ref 120), (1, .int x), (3, .int (nI (t + 1)))]) (al_cons rfl (al_cons rfl (al_cons rfl al_nil))) ?_
      refine r_im (im' := itM (t + 1) (ntM im)) rfl ?_
      exact iht
  · refine r_iload_n dX9_day_10 rfl ?_
    exact r_iret dX9_day_11 rfl (by simp only [dyVm, dyM, eq_self, Bool.false_eq_true, Bool.true_eq_false, if_true, if_false, reduceIte, h7]) (Nat.le_refl _) (Nat.le_refl _)

set_option maxRecDepth 100000 in
set_option maxHeartbeats 4000000 in
theorem m_canBe {im : IM} {pl it : Nat} (hm : MA im) {j : Nat} (hj6 : j < 6) (x : Int32) (hj : x = nI j) : MT YX9_canBe 1 0 0 [.ref 120, .int x] 137 im (RR pl it) (some (.int (bI (cbB im x))), 137, im, RR pl it) := by
  obtain ⟨W, T, S, hW, hW8, hT, hT6, hS, hS5⟩ := id hm
  have htW : tn (im 122 0) = W := by rw [hW, tn_nI (by omega)]
  have htT : tn (im 122 1) = T := by rw [hT, tn_nI (by omega)]
  have htS : tn (im 122 2) = S := by rw [hS, tn_nI (by omega)]
  have htt : tn x = j := by rw [hj, tn_nI (by omega)]
  refine mt_of (by decide +kernel) (Nat.le_of_ble_eq_true rfl) ?_
  show WW _ _ _ _ _ _ _ 0 [(0, .ref 120), (1, .int x)] [] _ _ _
  refine r_aload_n dX9_canBe_0 rfl ?_
  refine r_getr fl_X9_41 dX9_canBe_1 kd_120 ln_120 rfl rfl ?_
  refine r_iconst (v := 4) dX9_canBe_4 (by decide) ?_
  refine r_iald (j := 4) dX9_canBe_5 kd_130 ln_130 (cI 4) (by omega) (by decide) ?_
  refine r_iload_n dX9_canBe_6 rfl ?_
  refine r_S2s cv_X9_135 dX9_canBe_7 (m_has (im 130 4) x) ⟨by decide, by decide⟩ (Nat.le_of_ble_eq_true rfl) ⟨Nat.le_refl _, Nat.le_refl _⟩ ?_
  refine r_bz_ne (tgt := 49) dX9_canBe_10 (by decide) (fun h10 => ?_) (fun h10 => ?_)
  · refine r_iconst (v := 0) dX9_canBe_49 (by decide) ?_
    exact r_zret dX9_canBe_50 rfl nar0 (by simp only [cbB, bI, Bool.or_false, Bool.or_true, Bool.false_or, Bool.true_or, eq_self, Bool.false_eq_true, Bool.true_eq_false, if_true, if_false, reduceIte, true_and, and_true, false_and, and_false, true_or, or_true, false_or, or_false, not_true_eq_false, not_false_eq_true, Bool.not_true, Bool.not_false, Bool.true_and, Bool.and_true, Bool.false_and, Bool.and_false, decide_true, decide_false, h10]) (Nat.le_refl _) (Nat.le_refl _)
  · refine r_aload_n dX9_canBe_13 rfl ?_
    refine r_getr fl_X9_41 dX9_canBe_14 kd_120 ln_120 rfl rfl ?_
    refine r_iconst (v := 2) dX9_canBe_17 (by decide) ?_
    refine r_iald (j := 2) dX9_canBe_18 kd_130 ln_130 (cI 2) (by omega) (by decide) ?_
    refine r_iconst (v := 1) dX9_canBe_19 (by decide) ?_
    refine r_icmp_ne (tgt := 49) dX9_canBe_20 (by decide) (fun h20 => ?_) (fun h20 => ?_)
    · refine r_iconst (v := 0) dX9_canBe_49 (by decide) ?_
      exact r_zret dX9_canBe_50 rfl nar0 (by simp only [cbB, bI, Bool.or_false, Bool.or_true, Bool.false_or, Bool.true_or, eq_self, Bool.false_eq_true, Bool.true_eq_false, if_true, if_false, reduceIte, true_and, and_true, false_and, and_false, true_or, or_true, false_or, or_false, not_true_eq_false, not_false_eq_true, Bool.not_true, Bool.not_false, Bool.true_and, Bool.and_true, Bool.false_and, Bool.and_false, decide_true, decide_false, h10, h20]) (Nat.le_refl _) (Nat.le_refl _)
    · refine r_aload_n dX9_canBe_23 rfl ?_
      refine r_getr fl_X9_41 dX9_canBe_24 kd_120 ln_120 rfl rfl ?_
      refine r_iconst (v := 3) dX9_canBe_27 (by decide) ?_
      refine r_iald (j := 3) dX9_canBe_28 kd_130 ln_130 (cI 3) (by omega) (by decide) ?_
      refine r_if_eq (tgt := 45) dX9_canBe_29 (by decide) (fun h29 => ?_) (fun h29 => ?_)
      · refine r_iconst (v := 1) dX9_canBe_45 (by decide) ?_
        refine r_goto (tgt := 50) dX9_canBe_46 (by decide) ?_
        exact r_zret dX9_canBe_50 rfl nar1 (by simp only [cbB, bI, Bool.or_false, Bool.or_true, Bool.false_or, Bool.true_or, eq_self, Bool.false_eq_true, Bool.true_eq_false, if_true, if_false, reduceIte, true_and, and_true, false_and, and_false, true_or, or_true, false_or, or_false, not_true_eq_false, not_false_eq_true, Bool.not_true, Bool.not_false, Bool.true_and, Bool.and_true, Bool.false_and, Bool.and_false, decide_true, decide_false, h10, eq_true h20, eq_true h29]) (Nat.le_refl _) (Nat.le_refl _)
      · refine r_aload_n dX9_canBe_32 rfl ?_
        refine r_getr fl_X9_23 dX9_canBe_33 kd_120 ln_120 rfl rfl ?_
        refine r_iconst (v := 3) dX9_canBe_36 (by decide) ?_
        refine r_iload_n dX9_canBe_37 rfl ?_
        refine r_imul dX9_canBe_38 ?_
        refine r_iconst (v := 1) dX9_canBe_39 (by decide) ?_
        refine r_iadd dX9_canBe_40 ?_
        refine r_iald (j := (3 * j) + 1) dX9_canBe_41 kd_124 ln_124 (ix_add (ix_mul (cI 3) hj) (cI 1)) (by omega) (by decide) ?_
        refine r_if_ne (tgt := 49) dX9_canBe_42 (by decide) (fun h42 => ?_) (fun h42 => ?_)
        · refine r_iconst (v := 0) dX9_canBe_49 (by decide) ?_
          exact r_zret dX9_canBe_50 rfl nar0 (by simp only [cbB, bI, Bool.or_false, Bool.or_true, Bool.false_or, Bool.true_or, eq_self, Bool.false_eq_true, Bool.true_eq_false, if_true, if_false, reduceIte, true_and, and_true, false_and, and_false, true_or, or_true, false_or, or_false, not_true_eq_false, not_false_eq_true, Bool.not_true, Bool.not_false, Bool.true_and, Bool.and_true, Bool.false_and, Bool.and_false, decide_true, decide_false, h10, eq_true h20, h29, h42, htt, shM]) (Nat.le_refl _) (Nat.le_refl _)
        · refine r_iconst (v := 1) dX9_canBe_45 (by decide) ?_
          refine r_goto (tgt := 50) dX9_canBe_46 (by decide) ?_
          exact r_zret dX9_canBe_50 rfl nar1 (by simp only [cbB, bI, Bool.or_false, Bool.or_true, Bool.false_or, Bool.true_or, eq_self, Bool.false_eq_true, Bool.true_eq_false, if_true, if_false, reduceIte, true_and, and_true, false_and, and_false, true_or, or_true, false_or, or_false, not_true_eq_false, not_false_eq_true, Bool.not_true, Bool.not_false, Bool.true_and, Bool.and_true, Bool.false_and, Bool.and_false, decide_true, decide_false, h10, eq_true h20, h29, eq_true h42, htt, shM]) (Nat.le_refl _) (Nat.le_refl _)

set_option maxRecDepth 100000 in
set_option maxHeartbeats 4000000 in
theorem m_make {im : IM} {pl it : Nat} (hm : MA im) (hE0 : HDm im) (x : Int32) : MT YX9_make 2 0 0 [.ref 120, .int x] 137 im (RR pl it) (some (.int (mkVm im x)), 137, mkM im x, RR pl it) := by
  obtain ⟨W, T, S, hW, hW8, hT, hT6, hS, hS5⟩ := id hm
  have htW : tn (im 122 0) = W := by rw [hW, tn_nI (by omega)]
  have htT : tn (im 122 1) = T := by rw [hT, tn_nI (by omega)]
  have htS : tn (im 122 2) = S := by rw [hS, tn_nI (by omega)]
  refine mt_of (by decide +kernel) (Nat.le_of_ble_eq_true rfl) ?_
  show WW _ _ _ _ _ _ _ 0 [(0, .ref 120), (1, .int x)] [] _ _ _
  refine r_aload_n dX9_make_0 rfl ?_
  refine r_iload_n dX9_make_1 rfl ?_
  refine r_V1s cv_X9_154 dX9_make_2 (m_isTest hm x) ⟨by decide, by decide⟩ kd_120 ln_120 cl_9 (Nat.le_of_ble_eq_true rfl) ⟨Nat.le_refl _, Nat.le_refl _⟩ ?_
  refine r_bz_ne (tgt := 11) dX9_make_5 (by decide) (fun h5 => ?_) (fun h5 => ?_)
  · obtain ⟨jw, hjw, hj⟩ := inB_nat (W := T) (by rw [← hT]; exact h5) (by omega)
    have htt : tn x = jw := by rw [hj, tn_nI (by omega)]
    refine r_aload_n dX9_make_11 rfl ?_
    refine r_iload_n dX9_make_12 rfl ?_
    refine r_V1s cv_X9_178 dX9_make_13 (m_canBe hm (by omega) x hj) ⟨by decide, by decide⟩ kd_120 ln_120 cl_9 (Nat.le_of_ble_eq_true rfl) ⟨Nat.le_refl _, Nat.le_refl _⟩ ?_
    refine r_bz_ne (tgt := 22) dX9_make_16 (by decide) (fun h16 => ?_) (fun h16 => ?_)
    · refine r_aload_n dX9_make_22 rfl ?_
      refine r_V0n cv_X9_172 dX9_make_23 (m_notes hE0) ⟨by decide, by decide⟩ kd_120 ln_120 cl_9 (Nat.le_of_ble_eq_true rfl) ⟨Nat.le_refl _, Nat.le_refl _⟩ ?_
      refine r_aload_n dX9_make_26 rfl ?_
      refine r_getr fl_X9_41 dX9_make_27 kd_120 ln_120 rfl rfl ?_
      refine r_iconst (v := 4) dX9_make_30 (by decide) ?_
      refine r_dup2 dX9_make_31 rfl rfl ?_
      refine r_ialx (j := 4) (x := im 130 4) dX9_make_32 kd_130 ln_130 (cI 4) (by omega) (by decide) (by rw [ntM_row (by decide) (by decide)]) ?_
      refine r_iconst (v := 1) dX9_make_33 (by decide) ?_
      refine r_iload_n dX9_make_34 rfl ?_
      refine r_ishl dX9_make_35 ?_
      refine r_ior dX9_make_36 ?_
      refine r_as (j := 4) dX9_make_37 kd_130 ln_130 (cI 4) (by omega) (by decide) ?_
      refine r_aload_n dX9_make_38 rfl ?_
      refine r_aload_n dX9_make_39 rfl ?_
      refine r_getr fl_X9_41 dX9_make_40 kd_120 ln_120 rfl rfl ?_
      refine r_iconst (v := 4) dX9_make_43 (by decide) ?_
      refine r_ialx (j := 4) (x := im 130 4 ||| (1 <<< (x &&& 31))) dX9_make_44 kd_130 ln_130 (cI 4) (by omega) (by decide) (st_same _ _ _ _) ?_
      refine r_V1s cv_X9_140 dX9_make_45 (by have q := m_leftBy (pl := pl) (it := it) (im := st (ntM im) 130 4 (im 130 4 ||| (1 <<< (x &&& 31)))) (hm.keep (by rw [st_row (by decide), ntM_row (by decide) (by decide)])) (im 130 4 ||| (1 <<< (x &&& 31))); rw [show lfM (st (ntM im) 130 4 (im 130 4 ||| (1 <<< (x &&& 31)))) (im 130 4 ||| (1 <<< (x &&& 31))) = lfM im (im 130 4 ||| (1 <<< (x &&& 31))) by unfold lfM ruM; rw [st_row (by decide), st_row (by decide), ntM_row (by decide) (by decide), ntM_row (by decide) (by decide)]] at q; exact q) ⟨by decide, by decide⟩ kd_120 ln_120 cl_9 (Nat.le_of_ble_eq_true rfl) ⟨Nat.le_refl _, Nat.le_refl _⟩ ?_
      exact r_iret dX9_make_48 rfl (by simp only [mkVm, mkM, eq_self, Bool.false_eq_true, Bool.true_eq_false, if_true, if_false, reduceIte, true_and, and_true, false_and, and_false, true_or, or_true, false_or, or_false, not_true_eq_false, not_false_eq_true, Bool.not_true, Bool.not_false, Bool.true_and, Bool.and_true, Bool.false_and, Bool.and_false, decide_true, decide_false, h5, h16]) (Nat.le_refl _) (Nat.le_refl _)
    · refine r_ldc dX9_make_19 kn_X9_168 ?_
      exact r_iret dX9_make_21 rfl (by simp only [mkVm, mkM, eq_self, Bool.false_eq_true, Bool.true_eq_false, if_true, if_false, reduceIte, true_and, and_true, false_and, and_false, true_or, or_true, false_or, or_false, not_true_eq_false, not_false_eq_true, Bool.not_true, Bool.not_false, Bool.true_and, Bool.and_true, Bool.false_and, Bool.and_false, decide_true, decide_false, h5, h16]) (Nat.le_refl _) (Nat.le_refl _)
  · refine r_ldc dX9_make_8 kn_X9_153 ?_
    exact r_iret dX9_make_10 rfl (by simp only [mkVm, mkM, eq_self, Bool.false_eq_true, Bool.true_eq_false, if_true, if_false, reduceIte, true_and, and_true, false_and, and_false, true_or, or_true, false_or, or_false, not_true_eq_false, not_false_eq_true, Bool.not_true, Bool.not_false, Bool.true_and, Bool.and_true, Bool.false_and, Bool.and_false, decide_true, decide_false, h5]) (Nat.le_refl _) (Nat.le_refl _)

set_option maxRecDepth 100000 in
set_option maxHeartbeats 4000000 in
theorem m_seal {im : IM} {pl it : Nat} (hm : MA im) (hE0 : HDm im) (x : Int32) : MT YX9_seal 2 0 0 [.ref 120, .int x] 137 im (RR pl it) (some (.int (slVm im)), 137, slM im x, RR pl it) := by
  obtain ⟨W, T, S, hW, hW8, hT, hT6, hS, hS5⟩ := id hm
  have htW : tn (im 122 0) = W := by rw [hW, tn_nI (by omega)]
  have htT : tn (im 122 1) = T := by rw [hT, tn_nI (by omega)]
  have htS : tn (im 122 2) = S := by rw [hS, tn_nI (by omega)]
  refine mt_of (by decide +kernel) (Nat.le_of_ble_eq_true rfl) ?_
  show WW _ _ _ _ _ _ _ 0 [(0, .ref 120), (1, .int x)] [] _ _ _
  refine r_aload_n dX9_seal_0 rfl ?_
  refine r_V0s cv_X9_164 dX9_seal_1 (m_isCastle hm) ⟨by decide, by decide⟩ kd_120 ln_120 cl_9 (Nat.le_of_ble_eq_true rfl) ⟨Nat.le_refl _, Nat.le_refl _⟩ ?_
  refine r_bz_ne (tgt := 10) dX9_seal_4 (by decide) (fun h4 => ?_) (fun h4 => ?_)
  · refine r_aload_n dX9_seal_10 rfl ?_
    refine r_V0n cv_X9_172 dX9_seal_11 (m_notes hE0) ⟨by decide, by decide⟩ kd_120 ln_120 cl_9 (Nat.le_of_ble_eq_true rfl) ⟨Nat.le_refl _, Nat.le_refl _⟩ ?_
    refine r_aload_n dX9_seal_14 rfl ?_
    refine r_getr fl_X9_41 dX9_seal_15 kd_120 ln_120 rfl rfl ?_
    refine r_iconst (v := 3) dX9_seal_18 (by decide) ?_
    refine r_ialx (j := 3) (x := im 130 3) dX9_seal_19 kd_130 ln_130 (cI 3) (by omega) (by decide) (by rw [ntM_row (by decide) (by decide)]) ?_
    refine r_istore_n dX9_seal_20 (by decide) ?_
    refine r_aload_n dX9_seal_21 rfl ?_
    refine r_getr fl_X9_41 dX9_seal_22 kd_120 ln_120 rfl rfl ?_
    refine r_iconst (v := 3) dX9_seal_25 (by decide) ?_
    refine r_iload_n dX9_seal_26 rfl ?_
    refine r_if_eq (tgt := 34) dX9_seal_27 (by decide) (fun h27 => ?_) (fun h27 => ?_)
    · refine r_iconst (v := 0) dX9_seal_34 (by decide) ?_
      refine r_as (j := 3) dX9_seal_35 kd_130 ln_130 (cI 3) (by omega) (by decide) ?_
      refine r_iload_n dX9_seal_36 rfl ?_
      exact r_iret dX9_seal_37 rfl (by simp only [slVm, slM, eq_self, Bool.false_eq_true, Bool.true_eq_false, if_true, if_false, reduceIte, true_and, and_true, false_and, and_false, true_or, or_true, false_or, or_false, not_true_eq_false, not_false_eq_true, Bool.not_true, Bool.not_false, Bool.true_and, Bool.and_true, Bool.false_and, Bool.and_false, decide_true, decide_false, h4, eq_true h27]) (Nat.le_refl _) (Nat.le_refl _)
    · refine r_iconst (v := 1) dX9_seal_30 (by decide) ?_
      refine r_goto (tgt := 35) dX9_seal_31 (by decide) ?_
      refine r_as (j := 3) dX9_seal_35 kd_130 ln_130 (cI 3) (by omega) (by decide) ?_
      refine r_iload_n dX9_seal_36 rfl ?_
      exact r_iret dX9_seal_37 rfl (by simp only [slVm, slM, eq_self, Bool.false_eq_true, Bool.true_eq_false, if_true, if_false, reduceIte, true_and, and_true, false_and, and_false, true_or, or_true, false_or, or_false, not_true_eq_false, not_false_eq_true, Bool.not_true, Bool.not_false, Bool.true_and, Bool.and_true, Bool.false_and, Bool.and_false, decide_true, decide_false, h4, h27]) (Nat.le_refl _) (Nat.le_refl _)
  · refine r_ldc dX9_seal_7 kn_X9_168 ?_
    exact r_iret dX9_seal_9 rfl (by simp only [slVm, slM, eq_self, Bool.false_eq_true, Bool.true_eq_false, if_true, if_false, reduceIte, true_and, and_true, false_and, and_false, true_or, or_true, false_or, or_false, not_true_eq_false, not_false_eq_true, Bool.not_true, Bool.not_false, Bool.true_and, Bool.and_true, Bool.false_and, Bool.and_false, decide_true, decide_false, h4]) (Nat.le_refl _) (Nat.le_refl _)

set_option maxRecDepth 100000 in
set_option maxHeartbeats 4000000 in
theorem m_smash {im : IM} {pl it : Nat} (hm : MA im) (hE0 : HDm im) : MT YX9_smash 2 0 0 [.ref 120] 137 im (RR pl it) (some (.int (smVm im)), 137, smM im, RR pl it) := by
  obtain ⟨W, T, S, hW, hW8, hT, hT6, hS, hS5⟩ := id hm
  have htW : tn (im 122 0) = W := by rw [hW, tn_nI (by omega)]
  have htT : tn (im 122 1) = T := by rw [hT, tn_nI (by omega)]
  have htS : tn (im 122 2) = S := by rw [hS, tn_nI (by omega)]
  refine mt_of (by decide +kernel) (Nat.le_of_ble_eq_true rfl) ?_
  show WW _ _ _ _ _ _ _ 0 [(0, .ref 120)] [] _ _ _
  refine r_aload_n dX9_smash_0 rfl ?_
  refine r_getr fl_X9_41 dX9_smash_1 kd_120 ln_120 rfl rfl ?_
  refine r_iconst (v := 2) dX9_smash_4 (by decide) ?_
  refine r_iald (j := 2) dX9_smash_5 kd_130 ln_130 (cI 2) (by omega) (by decide) ?_
  refine r_if_ne (tgt := 12) dX9_smash_6 (by decide) (fun h6 => ?_) (fun h6 => ?_)
  · refine r_aload_n dX9_smash_12 rfl ?_
    refine r_V0n cv_X9_172 dX9_smash_13 (m_notes hE0) ⟨by decide, by decide⟩ kd_120 ln_120 cl_9 (Nat.le_of_ble_eq_true rfl) ⟨Nat.le_refl _, Nat.le_refl _⟩ ?_
    refine r_aload_n dX9_smash_16 rfl ?_
    refine r_getr fl_X9_41 dX9_smash_17 kd_120 ln_120 rfl rfl ?_
    refine r_iconst (v := 2) dX9_smash_20 (by decide) ?_
    refine r_iconst (v := 0) dX9_smash_21 (by decide) ?_
    refine r_as (j := 2) dX9_smash_22 kd_130 ln_130 (cI 2) (by omega) (by decide) ?_
    refine r_aload_n dX9_smash_23 rfl ?_
    refine r_getr fl_X9_41 dX9_smash_24 kd_120 ln_120 rfl rfl ?_
    refine r_iconst (v := 1) dX9_smash_27 (by decide) ?_
    refine r_ialx (j := 1) (x := im 130 1) dX9_smash_28 kd_130 ln_130 (cI 1) (by omega) (by decide) (by rw [st_ne (by decide), ntM_row (by decide) (by decide)]) ?_
    exact r_iret dX9_smash_29 rfl (by simp only [smVm, smM, eq_self, Bool.false_eq_true, Bool.true_eq_false, if_true, if_false, reduceIte, true_and, and_true, false_and, and_false, true_or, or_true, false_or, or_false, not_true_eq_false, not_false_eq_true, Bool.not_true, Bool.not_false, Bool.true_and, Bool.and_true, Bool.false_and, Bool.and_false, decide_true, decide_false, h6]) (Nat.le_refl _) (Nat.le_refl _)
  · refine r_ldc dX9_smash_9 kn_X9_168 ?_
    exact r_iret dX9_smash_11 rfl (by simp only [smVm, smM, eq_self, Bool.false_eq_true, Bool.true_eq_false, if_true, if_false, reduceIte, true_and, and_true, false_and, and_false, true_or, or_true, false_or, or_false, not_true_eq_false, not_false_eq_true, Bool.not_true, Bool.not_false, Bool.true_and, Bool.and_true, Bool.false_and, Bool.and_false, decide_true, decide_false, eq_true h6]) (Nat.le_refl _) (Nat.le_refl _)

set_option maxRecDepth 100000 in
set_option maxHeartbeats 4000000 in
theorem m_hires {im : IM} {pl it : Nat} {j : Nat} (hj5 : j < 5) (x is : Int32) (hj : x = nI j) : MT YX9_hires 0 0 0 [.ref 120, .int x, .int is] 137 im (RR pl it) (none, 137, hrM im j x is, RR pl it) := by
  refine mt_of (by decide +kernel) (Nat.le_of_ble_eq_true rfl) ?_
  show WW _ _ _ _ _ _ _ 0 [(0, .ref 120), (1, .int x), (2, .int is)] [] _ _ _
  refine r_aload_n dX9_hires_0 rfl ?_
  refine r_getr fl_X9_41 dX9_hires_1 kd_120 ln_120 rfl rfl ?_
  refine r_iconst (v := 5) dX9_hires_4 (by decide) ?_
  refine r_iload_n dX9_hires_5 rfl ?_
  refine r_if_eq (tgt := 22) dX9_hires_6 (by decide) (fun h6 => ?_) (fun h6 => ?_)
  · refine r_aload_n dX9_hires_22 rfl ?_
    refine r_getr fl_X9_41 dX9_hires_23 kd_120 ln_120 rfl rfl ?_
    refine r_iconst (v := 5) dX9_hires_26 (by decide) ?_
    refine r_iald (j := 5) dX9_hires_27 kd_130 ln_130 (cI 5) (by omega) (by decide) ?_
    refine r_iconst (v := 1) dX9_hires_28 (by decide) ?_
    refine r_iload_n dX9_hires_29 rfl ?_
    refine r_ishl dX9_hires_30 ?_
    refine r_iconst (v := (-1)) dX9_hires_31 (by decide) ?_
    refine r_ixor dX9_hires_32 ?_
    refine r_iand dX9_hires_33 ?_
    refine r_as (j := 5) dX9_hires_34 kd_130 ln_130 (cI 5) (by omega) (by decide) ?_
    refine r_aload_n dX9_hires_35 rfl ?_
    refine r_getr fl_X9_41 dX9_hires_36 kd_120 ln_120 rfl rfl ?_
    refine r_bipush (v := 6) dX9_hires_39 (by decide) ?_
    refine r_iconst (v := 3) dX9_hires_41 (by decide) ?_
    refine r_iload_n dX9_hires_42 rfl ?_
    refine r_imul dX9_hires_43 ?_
    refine r_iadd dX9_hires_44 ?_
    refine r_iconst (v := 2) dX9_hires_45 (by decide) ?_
    refine r_iadd dX9_hires_46 ?_
    refine r_iconst (v := 0) dX9_hires_47 (by decide) ?_
    refine r_as (j := (6 + (3 * j)) + 2) dX9_hires_48 kd_130 ln_130 (ix_add (ix_add (cI 6) (ix_mul (cI 3) hj)) (cI 2)) (by omega) (by decide) ?_
    exact r_vret dX9_hires_49 rfl (by simp only [hrM, hrV, eq_self, Bool.false_eq_true, Bool.true_eq_false, if_true, if_false, reduceIte, true_and, and_true, false_and, and_false, true_or, or_true, false_or, or_false, not_true_eq_false, not_false_eq_true, Bool.not_true, Bool.not_false, Bool.true_and, Bool.and_true, Bool.false_and, Bool.and_false, decide_true, decide_false, eq_true h6]) (Nat.le_refl _) (Nat.le_refl _)
  · refine r_aload_n dX9_hires_9 rfl ?_
    refine r_getr fl_X9_41 dX9_hires_10 kd_120 ln_120 rfl rfl ?_
    refine r_iconst (v := 5) dX9_hires_13 (by decide) ?_
    refine r_iald (j := 5) dX9_hires_14 kd_130 ln_130 (cI 5) (by omega) (by decide) ?_
    refine r_iconst (v := 1) dX9_hires_15 (by decide) ?_
    refine r_iload_n dX9_hires_16 rfl ?_
    refine r_ishl dX9_hires_17 ?_
    refine r_ior dX9_hires_18 ?_
    refine r_goto (tgt := 34) dX9_hires_19 (by decide) ?_
    refine r_as (j := 5) dX9_hires_34 kd_130 ln_130 (cI 5) (by omega) (by decide) ?_
    refine r_aload_n dX9_hires_35 rfl ?_
    refine r_getr fl_X9_41 dX9_hires_36 kd_120 ln_120 rfl rfl ?_
    refine r_bipush (v := 6) dX9_hires_39 (by decide) ?_
    refine r_iconst (v := 3) dX9_hires_41 (by decide) ?_
    refine r_iload_n dX9_hires_42 rfl ?_
    refine r_imul dX9_hires_43 ?_
    refine r_iadd dX9_hires_44 ?_
    refine r_iconst (v := 2) dX9_hires_45 (by decide) ?_
    refine r_iadd dX9_hires_46 ?_
    refine r_iconst (v := 0) dX9_hires_47 (by decide) ?_
    refine r_as (j := (6 + (3 * j)) + 2) dX9_hires_48 kd_130 ln_130 (ix_add (ix_add (cI 6) (ix_mul (cI 3) hj)) (cI 2)) (by omega) (by decide) ?_
    exact r_vret dX9_hires_49 rfl (by simp only [hrM, hrV, eq_self, Bool.false_eq_true, Bool.true_eq_false, if_true, if_false, reduceIte, true_and, and_true, false_and, and_false, true_or, or_true, false_or, or_false, not_true_eq_false, not_false_eq_true, Bool.not_true, Bool.not_false, Bool.true_and, Bool.and_true, Bool.false_and, Bool.and_false, decide_true, decide_false, h6]) (Nat.le_refl _) (Nat.le_refl _)

set_option maxRecDepth 100000 in
set_option maxHeartbeats 4000000 in
theorem m_hire {im : IM} {pl it : Nat} (hm : MA im) (hE0 : HDm im) (x is : Int32) : MT YX9_hire 2 0 0 [.ref 120, .int x, .int is] 137 im (RR pl it) (some (.int (hiVm im x)), 137, hiM im x is, RR pl it) := by
  obtain ⟨W, T, S, hW, hW8, hT, hT6, hS, hS5⟩ := id hm
  have htW : tn (im 122 0) = W := by rw [hW, tn_nI (by omega)]
  have htT : tn (im 122 1) = T := by rw [hT, tn_nI (by omega)]
  have htS : tn (im 122 2) = S := by rw [hS, tn_nI (by omega)]
  refine mt_of (by decide +kernel) (Nat.le_of_ble_eq_true rfl) ?_
  show WW _ _ _ _ _ _ _ 0 [(0, .ref 120), (1, .int x), (2, .int is)] [] _ _ _
  refine r_aload_n dX9_hire_0 rfl ?_
  refine r_iload_n dX9_hire_1 rfl ?_
  refine r_V1s cv_X9_157 dX9_hire_2 (m_isServant hm x) ⟨by decide, by decide⟩ kd_120 ln_120 cl_9 (Nat.le_of_ble_eq_true rfl) ⟨Nat.le_refl _, Nat.le_refl _⟩ ?_
  refine r_bz_ne (tgt := 11) dX9_hire_5 (by decide) (fun h5 => ?_) (fun h5 => ?_)
  · obtain ⟨jw, hjw, hj⟩ := inB_nat (W := S) (by rw [← hS]; exact h5) (by omega)
    have htt : tn x = jw := by rw [hj, tn_nI (by omega)]
    refine r_aload_n dX9_hire_11 rfl ?_
    refine r_V0n cv_X9_172 dX9_hire_12 (m_notes hE0) ⟨by decide, by decide⟩ kd_120 ln_120 cl_9 (Nat.le_of_ble_eq_true rfl) ⟨Nat.le_refl _, Nat.le_refl _⟩ ?_
    refine r_aload_n dX9_hire_15 rfl ?_
    refine r_getr fl_X9_41 dX9_hire_16 kd_120 ln_120 rfl rfl ?_
    refine r_iconst (v := 5) dX9_hire_19 (by decide) ?_
    refine r_ialx (j := 5) (x := im 130 5) dX9_hire_20 kd_130 ln_130 (cI 5) (by omega) (by decide) (by rw [ntM_row (by decide) (by decide)]) ?_
    refine r_iload_n dX9_hire_21 rfl ?_
    refine r_ishr dX9_hire_22 ?_
    refine r_iconst (v := 1) dX9_hire_23 (by decide) ?_
    refine r_iand dX9_hire_24 ?_
    refine r_istore_n dX9_hire_25 (by decide) ?_
    refine r_aload_n dX9_hire_26 rfl ?_
    refine r_iload_n dX9_hire_27 rfl ?_
    refine r_iload_n dX9_hire_28 rfl ?_
    refine r_V2n cv_X9_181 dX9_hire_29 (m_hires (by omega) x is hj) ⟨by decide, by decide⟩ kd_120 ln_120 cl_9 (Nat.le_of_ble_eq_true rfl) ⟨Nat.le_refl _, Nat.le_refl _⟩ ?_
    refine r_iload_n dX9_hire_32 rfl ?_
    exact r_iret dX9_hire_33 rfl (by simp only [hiVm, hiM, eq_self, Bool.false_eq_true, Bool.true_eq_false, if_true, if_false, reduceIte, h5, htt]) (Nat.le_refl _) (Nat.le_refl _)
  · refine r_ldc dX9_hire_8 kn_X9_153 ?_
    exact r_iret dX9_hire_10 rfl (by simp only [hiVm, hiM, eq_self, Bool.false_eq_true, Bool.true_eq_false, if_true, if_false, reduceIte, h5]) (Nat.le_refl _) (Nat.le_refl _)

set_option maxRecDepth 100000 in
set_option maxHeartbeats 4000000 in
theorem m_buy {im : IM} {pl it : Nat} (hm : MA im) (hE0 : HDm im) (x w m : Int32) : MT YX9_buy 2 0 0 [.ref 120, .int x, .int w, .int m] 137 im (RR pl it) (some (.int (byVm im x w m)), 137, byM im x w m, RR pl it) := by
  obtain ⟨W, T, S, hW, hW8, hT, hT6, hS, hS5⟩ := id hm
  have htW : tn (im 122 0) = W := by rw [hW, tn_nI (by omega)]
  have htT : tn (im 122 1) = T := by rw [hT, tn_nI (by omega)]
  have htS : tn (im 122 2) = S := by rw [hS, tn_nI (by omega)]
  refine mt_of (by decide +kernel) (Nat.le_of_ble_eq_true rfl) ?_
  show WW _ _ _ _ _ _ _ 0 [(0, .ref 120), (1, .int x), (2, .int w), (3, .int m)] [] _ _ _
  refine r_aload_n dX9_buy_0 rfl ?_
  refine r_iload_n dX9_buy_1 rfl ?_
  refine r_V1s cv_X9_157 dX9_buy_2 (m_isServant hm x) ⟨by decide, by decide⟩ kd_120 ln_120 cl_9 (Nat.le_of_ble_eq_true rfl) ⟨Nat.le_refl _, Nat.le_refl _⟩ ?_
  refine r_bz_eq (tgt := 20) dX9_buy_5 (by decide) (fun h5 => ?_) (fun h5 => ?_)
  · refine r_ldc dX9_buy_20 kn_X9_153 ?_
    exact r_iret dX9_buy_22 rfl (by simp only [byVm, byM, eq_self, Bool.false_eq_true, Bool.true_eq_false, if_true, if_false, reduceIte, h5]) (Nat.le_refl _) (Nat.le_refl _)
  · refine r_aload_n dX9_buy_8 rfl ?_
    refine r_iload_n dX9_buy_9 rfl ?_
    refine r_V1s cv_X9_185 dX9_buy_10 (m_areWays hm w) ⟨by decide, by decide⟩ kd_120 ln_120 cl_9 (Nat.le_of_ble_eq_true rfl) ⟨Nat.le_refl _, Nat.le_refl _⟩ ?_
    refine r_bz_eq (tgt := 20) dX9_buy_13 (by decide) (fun h13 => ?_) (fun h13 => ?_)
    · refine r_ldc dX9_buy_20 kn_X9_153 ?_
      exact r_iret dX9_buy_22 rfl (by simp only [byVm, byM, eq_self, Bool.false_eq_true, Bool.true_eq_false, if_true, if_false, reduceIte, h5, h13]) (Nat.le_refl _) (Nat.le_refl _)
    · refine r_iload_n dX9_buy_16 rfl ?_
      refine r_if_ne (tgt := 23) dX9_buy_17 (by decide) (fun h17 => ?_) (fun h17 => ?_)
      · refine r_iload_n dX9_buy_23 rfl ?_
        refine r_iconst (v := 0) dX9_buy_24 (by decide) ?_
        refine r_sipush (v := 9999) dX9_buy_25 (by decide) ?_
        refine r_S3s cv_X9_63 dX9_buy_28 (m_in m 0 9999) ⟨by decide, by decide⟩ (Nat.le_of_ble_eq_true rfl) ⟨Nat.le_refl _, Nat.le_refl _⟩ ?_
        refine r_bz_ne (tgt := 37) dX9_buy_31 (by decide) (fun h31 => ?_) (fun h31 => ?_)
        · obtain ⟨jw, hjw, hj⟩ := inB_nat (W := S) (by rw [← hS]; exact h5) (by omega)
          have htt : tn x = jw := by rw [hj, tn_nI (by omega)]
          refine r_iload_n dX9_buy_37 rfl ?_
          refine r_aload_n dX9_buy_38 rfl ?_
          refine r_getr fl_X9_26 dX9_buy_39 kd_120 ln_120 rfl rfl ?_
          refine r_iconst (v := 2) dX9_buy_42 (by decide) ?_
          refine r_iload_n dX9_buy_43 rfl ?_
          refine r_imul dX9_buy_44 ?_
          refine r_iconst (v := 1) dX9_buy_45 (by decide) ?_
          refine r_iadd dX9_buy_46 ?_
          refine r_iald (j := (2 * jw) + 1) dX9_buy_47 kd_125 ln_125 (ix_add (ix_mul (cI 2) hj) (cI 1)) (by omega) (by decide) ?_
          refine r_icmp_ge (tgt := 54) dX9_buy_48 (by decide) (fun h48 => ?_) (fun h48 => ?_)
          · refine r_aload_n dX9_buy_54 rfl ?_
            refine r_V0n cv_X9_172 dX9_buy_55 (m_notes hE0) ⟨by decide, by decide⟩ kd_120 ln_120 cl_9 (Nat.le_of_ble_eq_true rfl) ⟨Nat.le_refl _, Nat.le_refl _⟩ ?_
            refine r_aload_n dX9_buy_58 rfl ?_
            refine r_getr fl_X9_41 dX9_buy_59 kd_120 ln_120 rfl rfl ?_
            refine r_bipush (v := 6) dX9_buy_62 (by decide) ?_
            refine r_iconst (v := 3) dX9_buy_64 (by decide) ?_
            refine r_iload_n dX9_buy_65 rfl ?_
            refine r_imul dX9_buy_66 ?_
            refine r_iadd dX9_buy_67 ?_
            refine r_iload_n dX9_buy_68 rfl ?_
            refine r_as (j := 6 + (3 * jw)) dX9_buy_69 kd_130 ln_130 (ix_add (cI 6) (ix_mul (cI 3) hj)) (by omega) (by decide) ?_
            refine r_aload_n dX9_buy_70 rfl ?_
            refine r_iload_n dX9_buy_71 rfl ?_
            refine r_iload_n dX9_buy_72 rfl ?_
            refine r_V2n cv_X9_160 dX9_buy_73 (m_gets (j := jw) (by omega) x m hj) ⟨by decide, by decide⟩ kd_120 ln_120 cl_9 (Nat.le_of_ble_eq_true rfl) ⟨Nat.le_refl _, Nat.le_refl _⟩ ?_
            refine r_aload_n dX9_buy_76 rfl ?_
            refine r_getr fl_X9_41 dX9_buy_77 kd_120 ln_120 rfl rfl ?_
            refine r_bipush (v := 6) dX9_buy_80 (by decide) ?_
            refine r_iconst (v := 3) dX9_buy_82 (by decide) ?_
            refine r_iload_n dX9_buy_83 rfl ?_
            refine r_imul dX9_buy_84 ?_
            refine r_iadd dX9_buy_85 ?_
            refine r_iconst (v := 1) dX9_buy_86 (by decide) ?_
            refine r_iadd dX9_buy_87 ?_
            refine r_ialx (j := (6 + (3 * jw)) + 1) (x := gtV (goM im jw + m)) dX9_buy_88 kd_130 ln_130 (ix_add (ix_add (cI 6) (ix_mul (cI 3) hj)) (cI 1)) (by omega) (by decide) (by unfold geM; rw [st_same]; unfold goM; rw [st_ne (by omega), ntM_row (by decide) (by decide)]) ?_
            exact r_iret dX9_buy_89 rfl (by simp only [byVm, byM, eq_self, Bool.false_eq_true, Bool.true_eq_false, if_true, if_false, reduceIte, h5, h13, h17, h31, h48, htt]) (Nat.le_refl _) (Nat.le_refl _)
          · refine r_ldc dX9_buy_51 kn_X9_168 ?_
            exact r_iret dX9_buy_53 rfl (by simp only [byVm, byM, eq_self, Bool.false_eq_true, Bool.true_eq_false, if_true, if_false, reduceIte, h5, h13, h17, h31, h48, htt]) (Nat.le_refl _) (Nat.le_refl _)
        · refine r_ldc dX9_buy_34 kn_X9_67 ?_
          exact r_iret dX9_buy_36 rfl (by simp only [byVm, byM, eq_self, Bool.false_eq_true, Bool.true_eq_false, if_true, if_false, reduceIte, h5, h13, h17, h31]) (Nat.le_refl _) (Nat.le_refl _)
      · refine r_ldc dX9_buy_20 kn_X9_153 ?_
        exact r_iret dX9_buy_22 rfl (by simp only [byVm, byM, eq_self, Bool.false_eq_true, Bool.true_eq_false, if_true, if_false, reduceIte, h5, h13, eq_true h17]) (Nat.le_refl _) (Nat.le_refl _)

set_option maxRecDepth 100000 in
set_option maxHeartbeats 4000000 in
theorem m_draw {im : IM} {pl it : Nat} (x : Int32) (hx : ¬ x = 0) : MT YX9_draw 0 0 0 [.ref 120, .int x] 137 im (RR pl it) (some (.int (dmV (dmS (im 120 17)) x)), 137, st im 120 17 (dmS (im 120 17)), RR pl it) := by
  refine mt_of (by decide +kernel) (Nat.le_of_ble_eq_true rfl) ?_
  show WW _ _ _ _ _ _ _ 0 [(0, .ref 120), (1, .int x)] [] _ _ _
  refine r_aload_n dX9_draw_0 rfl ?_
  refine r_aload_n dX9_draw_1 rfl ?_
  refine r_geti fl_X9_188 dX9_draw_2 kd_120 ln_120 rfl ?_
  refine r_i2l dX9_draw_5 ?_
  refine r_ldc2 dX9_draw_6 kn_X9_191 ?_
  refine r_lmul dX9_draw_9 ?_
  refine r_ldc2 dX9_draw_10 kn_X9_193 ?_
  refine r_ladd dX9_draw_13 ?_
  refine r_ldc2 dX9_draw_14 kn_X9_195 ?_
  refine r_land dX9_draw_17 ?_
  refine r_l2i dX9_draw_18 ?_
  refine r_pi fl_X9_188 dX9_draw_19 kd_120 ln_120 rfl ?_
  refine r_aload_n dX9_draw_22 rfl ?_
  refine r_getx (x := dmS (im 120 17)) fl_X9_188 dX9_draw_23 kd_120 ln_120 rfl (st_same _ _ _ _) ?_
  refine r_ldc dX9_draw_26 kn_X9_197 ?_
  refine r_idiv dX9_draw_28 (by decide) ?_
  refine r_iload_n dX9_draw_29 rfl ?_
  refine r_irem dX9_draw_30 hx ?_
  exact r_iret dX9_draw_31 rfl rfl (Nat.le_refl _) (Nat.le_refl _)

set_option maxRecDepth 100000 in
set_option maxHeartbeats 4000000 in
theorem m_driftStep {im : IM} {pl it : Nat} (hm : MA im) {Rr : Rs} {x bar : Int32} {jw t : Nat} (hj : x = nI jw) (kk : WW YX9_drift 2 0 0 Rr 0 0 165 [(0, .ref 120), (1, .int x), (3, .int (nI t))] [] 137 (psX (dwM im)) (RR pl it)) : WW YX9_drift 2 0 0 Rr 0 0 23 [(0, .ref 120), (1, .int x), (3, .int (nI t))] [] 137 im (RR pl it) := by
  obtain ⟨W, T, S, hW, hW8, hT, hT6, hS, hS5⟩ := id hm
  refine r_aload_n dX9_drift_23 rfl ?_
  refine r_bipush (v := 8) dX9_drift_24 (by decide) ?_
  refine r_V1s cv_X9_198 dX9_drift_26 (m_draw 8 (by decide)) ⟨by decide, by decide⟩ kd_120 ln_120 cl_9 (Nat.le_of_ble_eq_true rfl) ⟨Nat.le_refl _, Nat.le_refl _⟩ ?_
  refine r_istore dX9_drift_29 (by decide) ?_
  refine r_iload dX9_drift_31 rfl ?_
  refine r_if_ne (tgt := 86) dX9_drift_33 (by decide) (fun h33 => ?_) (fun h33 => ?_)
  · refine r_iload dX9_drift_86 rfl ?_
    refine r_iconst (v := 1) dX9_drift_88 (by decide) ?_
    refine r_icmp_ne (tgt := 141) dX9_drift_89 (by decide) (fun h89 => ?_) (fun h89 => ?_)
    · refine r_iload dX9_drift_141 rfl ?_
      refine r_iconst (v := 2) dX9_drift_143 (by decide) ?_
      refine r_icmp_ne (tgt := 161) dX9_drift_144 (by decide) (fun h144 => ?_) (fun h144 => ?_)
      · refine r_im (im' := dwM im) (by simp only [dwM, eq_self, Bool.false_eq_true, Bool.true_eq_false, if_true, if_false, reduceIte, true_and, and_true, false_and, and_false, true_or, or_true, false_or, or_false, not_true_eq_false, not_false_eq_true, Bool.not_true, Bool.not_false, Bool.true_and, Bool.and_true, Bool.false_and, Bool.and_false, decide_true, decide_false, or0, h33, h89, h144]) ?_
        refine r_aload_n dX9_drift_161 rfl ?_
        refine r_V0n cv_X9_175 dX9_drift_162 (m_passes (hm.keep (dwM_row (by decide) (by decide)))) ⟨by decide, by decide⟩ kd_120 ln_120 cl_9 (Nat.le_of_ble_eq_true rfl) ⟨Nat.le_refl _, Nat.le_refl _⟩ ?_
        refine r_lv (lv' := [(0, .ref 120), (1, .int x), (3, .int (nI t))]) (al_cons rfl (al_cons rfl (al_cons rfl al_nil))) ?_
        exact kk
      · refine r_aload_n dX9_drift_147 rfl ?_
        refine r_getr fl_X9_41 dX9_drift_148 kd_120 ln_120 rfl rfl ?_
        refine r_iconst (v := 3) dX9_drift_151 (by decide) ?_
        refine r_iconst (v := 1) dX9_drift_152 (by decide) ?_
        refine r_aload_n dX9_drift_153 rfl ?_
        refine r_getr fl_X9_41 dX9_drift_154 kd_120 ln_120 rfl rfl ?_
        refine r_iconst (v := 3) dX9_drift_157 (by decide) ?_
        refine r_ialx (j := 3) (x := im 130 3) dX9_drift_158 kd_130 ln_130 (cI 3) (by omega) (by decide) (by rw [st_row (by decide)]) ?_
        refine r_isub dX9_drift_159 ?_
        refine r_as (j := 3) dX9_drift_160 kd_130 ln_130 (cI 3) (by omega) (by decide) ?_
        refine r_im (im' := dwM im) (by simp only [dwM, eq_self, Bool.false_eq_true, Bool.true_eq_false, if_true, if_false, reduceIte, true_and, and_true, false_and, and_false, true_or, or_true, false_or, or_false, not_true_eq_false, not_false_eq_true, Bool.not_true, Bool.not_false, Bool.true_and, Bool.and_true, Bool.false_and, Bool.and_false, decide_true, decide_false, or0, h33, h89, eq_true h144]) ?_
        refine r_aload_n dX9_drift_161 rfl ?_
        refine r_V0n cv_X9_175 dX9_drift_162 (m_passes (hm.keep (dwM_row (by decide) (by decide)))) ⟨by decide, by decide⟩ kd_120 ln_120 cl_9 (Nat.le_of_ble_eq_true rfl) ⟨Nat.le_refl _, Nat.le_refl _⟩ ?_
        refine r_lv (lv' := [(0, .ref 120), (1, .int x), (3, .int (nI t))]) (al_cons rfl (al_cons rfl (al_cons rfl al_nil))) ?_
        exact kk
    · refine r_aload_n dX9_drift_92 rfl ?_
      refine r_getr fl_X9_17 dX9_drift_93 kd_120 ln_120 rfl rfl ?_
      refine r_iconst (v := 2) dX9_drift_96 (by decide) ?_
      refine r_ialx (j := 2) (x := im 122 2) dX9_drift_97 kd_122 ln_122 (cI 2) (by omega) (by decide) (by rw [st_row (by decide)]) ?_
      refine r_if_le (tgt := 141) dX9_drift_98 (by decide) (fun h98 => ?_) (fun h98 => ?_)
      · refine r_iload dX9_drift_141 rfl ?_
        refine r_iconst (v := 2) dX9_drift_143 (by decide) ?_
        refine r_icmp_ne (tgt := 161) dX9_drift_144 (by decide) (fun h144 => ?_) (fun h144 => ?_)
        · refine r_im (im' := dwM im) (by simp only [dwM, eq_self, Bool.false_eq_true, Bool.true_eq_false, if_true, if_false, reduceIte, true_and, and_true, false_and, and_false, true_or, or_true, false_or, or_false, not_true_eq_false, not_false_eq_true, Bool.not_true, Bool.not_false, Bool.true_and, Bool.and_true, Bool.false_and, Bool.and_false, decide_true, decide_false, or0, h33, eq_true h89, h98, h144]) ?_
          refine r_aload_n dX9_drift_161 rfl ?_
          refine r_V0n cv_X9_175 dX9_drift_162 (m_passes (hm.keep (dwM_row (by decide) (by decide)))) ⟨by decide, by decide⟩ kd_120 ln_120 cl_9 (Nat.le_of_ble_eq_true rfl) ⟨Nat.le_refl _, Nat.le_refl _⟩ ?_
          refine r_lv (lv' := [(0, .ref 120), (1, .int x), (3, .int (nI t))]) (al_cons rfl (al_cons rfl (al_cons rfl al_nil))) ?_
          exact kk
        · refine r_aload_n dX9_drift_147 rfl ?_
          refine r_getr fl_X9_41 dX9_drift_148 kd_120 ln_120 rfl rfl ?_
          refine r_iconst (v := 3) dX9_drift_151 (by decide) ?_
          refine r_iconst (v := 1) dX9_drift_152 (by decide) ?_
          refine r_aload_n dX9_drift_153 rfl ?_
          refine r_getr fl_X9_41 dX9_drift_154 kd_120 ln_120 rfl rfl ?_
          refine r_iconst (v := 3) dX9_drift_157 (by decide) ?_
          refine r_ialx (j := 3) (x := im 130 3) dX9_drift_158 kd_130 ln_130 (cI 3) (by omega) (by decide) (by rw [st_row (by decide)]) ?_
          refine r_isub dX9_drift_159 ?_
          refine r_as (j := 3) dX9_drift_160 kd_130 ln_130 (cI 3) (by omega) (by decide) ?_
          refine r_im (im' := dwM im) (by simp only [dwM, eq_self, Bool.false_eq_true, Bool.true_eq_false, if_true, if_false, reduceIte, true_and, and_true, false_and, and_false, true_or, or_true, false_or, or_false, not_true_eq_false, not_false_eq_true, Bool.not_true, Bool.not_false, Bool.true_and, Bool.and_true, Bool.false_and, Bool.and_false, decide_true, decide_false, or0, h33, eq_true h89, h98, eq_true h144]) ?_
          refine r_aload_n dX9_drift_161 rfl ?_
          refine r_V0n cv_X9_175 dX9_drift_162 (m_passes (hm.keep (dwM_row (by decide) (by decide)))) ⟨by decide, by decide⟩ kd_120 ln_120 cl_9 (Nat.le_of_ble_eq_true rfl) ⟨Nat.le_refl _, Nat.le_refl _⟩ ?_
          refine r_lv (lv' := [(0, .ref 120), (1, .int x), (3, .int (nI t))]) (al_cons rfl (al_cons rfl (al_cons rfl al_nil))) ?_
          exact kk
      · refine r_aload_n dX9_drift_101 rfl ?_
        refine r_aload_n dX9_drift_102 rfl ?_
        refine r_getr fl_X9_17 dX9_drift_103 kd_120 ln_120 rfl rfl ?_
        refine r_iconst (v := 2) dX9_drift_106 (by decide) ?_
        refine r_ialx (j := 2) (x := im 122 2) dX9_drift_107 kd_122 ln_122 (cI 2) (by omega) (by decide) (by rw [st_row (by decide)]) ?_
        obtain ⟨jd, hjd, hjdv⟩ := dm_lt (dmS (im 120 17)) (T := S) (Nat.pos_of_ne_zero (fun q => h98 (by rw [hS, q]; decide))) (by omega)
        rw [← hS] at hjdv
        refine r_V1s cv_X9_198 dX9_drift_108 (by have q := m_draw (pl := pl) (it := it) (im := st im 120 17 (dmS (im 120 17))) (im 122 2) (fun q => h98 (by rw [q]; decide)); rw [st_same, st_st] at q; exact q) ⟨by decide, by decide⟩ kd_120 ln_120 cl_9 (Nat.le_of_ble_eq_true rfl) ⟨Nat.le_refl _, Nat.le_refl _⟩ ?_
        refine r_istore dX9_drift_111 (by decide) ?_
        have hjt : tn (dmV (dmS (dmS (im 120 17))) (im 122 2)) = jd := by rw [hjdv, tn_nI (by omega)]
        refine r_aload_n dX9_drift_113 rfl ?_
        refine r_iload dX9_drift_114 rfl ?_
        refine r_aload_n dX9_drift_116 rfl ?_
        refine r_getr fl_X9_41 dX9_drift_117 kd_120 ln_120 rfl rfl ?_
        refine r_iconst (v := 5) dX9_drift_120 (by decide) ?_
        refine r_ialx (j := 5) (x := im 130 5) dX9_drift_121 kd_130 ln_130 (cI 5) (by omega) (by decide) (by rw [st_row (by decide)]) ?_
        refine r_iload dX9_drift_122 rfl ?_
        refine r_S2s cv_X9_135 dX9_drift_124 (m_has (im 130 5) (dmV (dmS (dmS (im 120 17))) (im 122 2))) ⟨by decide, by decide⟩ (Nat.le_of_ble_eq_true rfl) ⟨Nat.le_refl _, Nat.le_refl _⟩ ?_
        refine r_bz_ne (tgt := 134) dX9_drift_127 (by decide) (fun h127 => ?_) (fun h127 => ?_)
        · refine r_iconst (v := 0) dX9_drift_134 (by decide) ?_
          refine r_V2n cv_X9_181 dX9_drift_135 (m_hires (j := jd) (by omega) (dmV (dmS (dmS (im 120 17))) (im 122 2)) 0 hjdv) ⟨by decide, by decide⟩ kd_120 ln_120 cl_9 (Nat.le_of_ble_eq_true rfl) ⟨Nat.le_refl _, Nat.le_refl _⟩ ?_
          refine r_goto (tgt := 161) dX9_drift_138 (by decide) ?_
          refine r_im (im' := dwM im) (by simp only [dwM, eq_self, Bool.false_eq_true, Bool.true_eq_false, if_true, if_false, reduceIte, true_and, and_true, false_and, and_false, true_or, or_true, false_or, or_false, not_true_eq_false, not_false_eq_true, Bool.not_true, Bool.not_false, Bool.true_and, Bool.and_true, Bool.false_and, Bool.and_false, decide_true, decide_false, or0, h33, eq_true h89, h98, h127, hjt]) ?_
          refine r_aload_n dX9_drift_161 rfl ?_
          refine r_V0n cv_X9_175 dX9_drift_162 (m_passes (hm.keep (dwM_row (by decide) (by decide)))) ⟨by decide, by decide⟩ kd_120 ln_120 cl_9 (Nat.le_of_ble_eq_true rfl) ⟨Nat.le_refl _, Nat.le_refl _⟩ ?_
          refine r_lv (lv' := [(0, .ref 120), (1, .int x), (3, .int (nI t))]) (al_cons rfl (al_cons rfl (al_cons rfl al_nil))) ?_
          exact kk
        · refine r_iconst (v := 1) dX9_drift_130 (by decide) ?_
          refine r_goto (tgt := 135) dX9_drift_131 (by decide) ?_
          refine r_V2n cv_X9_181 dX9_drift_135 (m_hires (j := jd) (by omega) (dmV (dmS (dmS (im 120 17))) (im 122 2)) 1 hjdv) ⟨by decide, by decide⟩ kd_120 ln_120 cl_9 (Nat.le_of_ble_eq_true rfl) ⟨Nat.le_refl _, Nat.le_refl _⟩ ?_
          refine r_goto (tgt := 161) dX9_drift_138 (by decide) ?_
          refine r_im (im' := dwM im) (by simp only [dwM, eq_self, Bool.false_eq_true, Bool.true_eq_false, if_true, if_false, reduceIte, true_and, and_true, false_and, and_false, true_or, or_true, false_or, or_false, not_true_eq_false, not_false_eq_true, Bool.not_true, Bool.not_false, Bool.true_and, Bool.and_true, Bool.false_and, Bool.and_false, decide_true, decide_false, or0, h33, eq_true h89, h98, h127, hjt]) ?_
          refine r_aload_n dX9_drift_161 rfl ?_
          refine r_V0n cv_X9_175 dX9_drift_162 (m_passes (hm.keep (dwM_row (by decide) (by decide)))) ⟨by decide, by decide⟩ kd_120 ln_120 cl_9 (Nat.le_of_ble_eq_true rfl) ⟨Nat.le_refl _, Nat.le_refl _⟩ ?_
          refine r_lv (lv' := [(0, .ref 120), (1, .int x), (3, .int (nI t))]) (al_cons rfl (al_cons rfl (al_cons rfl al_nil))) ?_
          exact kk
  · refine r_aload_n dX9_drift_36 rfl ?_
    refine r_getr fl_X9_17 dX9_drift_37 kd_120 ln_120 rfl rfl ?_
    refine r_iconst (v := 1) dX9_drift_40 (by decide) ?_
    refine r_ialx (j := 1) (x := im 122 1) dX9_drift_41 kd_122 ln_122 (cI 1) (by omega) (by decide) (by rw [st_row (by decide)]) ?_
    refine r_if_le (tgt := 86) dX9_drift_42 (by decide) (fun h42 => ?_) (fun h42 => ?_)
    · refine r_iload dX9_drift_86 rfl ?_
      refine r_iconst (v := 1) dX9_drift_88 (by decide) ?_
      refine r_icmp_ne (tgt := 141) dX9_drift_89 (by decide) (fun h89 => ?_) (fun h89 => ?_)
      · refine r_iload dX9_drift_141 rfl ?_
        refine r_iconst (v := 2) dX9_drift_143 (by decide) ?_
        refine r_icmp_ne (tgt := 161) dX9_drift_144 (by decide) (fun h144 => ?_) (fun h144 => ?_)
        · refine r_im (im' := dwM im) (by simp only [dwM, eq_self, Bool.false_eq_true, Bool.true_eq_false, if_true, if_false, reduceIte, true_and, and_true, false_and, and_false, true_or, or_true, false_or, or_false, not_true_eq_false, not_false_eq_true, Bool.not_true, Bool.not_false, Bool.true_and, Bool.and_true, Bool.false_and, Bool.and_false, decide_true, decide_false, or0, eq_true h33, h42, h89, h144]) ?_
          refine r_aload_n dX9_drift_161 rfl ?_
          refine r_V0n cv_X9_175 dX9_drift_162 (m_passes (hm.keep (dwM_row (by decide) (by decide)))) ⟨by decide, by decide⟩ kd_120 ln_120 cl_9 (Nat.le_of_ble_eq_true rfl) ⟨Nat.le_refl _, Nat.le_refl _⟩ ?_
          refine r_lv (lv' := [(0, .ref 120), (1, .int x), (3, .int (nI t))]) (al_cons rfl (al_cons rfl (al_cons rfl al_nil))) ?_
          exact kk
        · refine r_aload_n dX9_drift_147 rfl ?_
          refine r_getr fl_X9_41 dX9_drift_148 kd_120 ln_120 rfl rfl ?_
          refine r_iconst (v := 3) dX9_drift_151 (by decide) ?_
          refine r_iconst (v := 1) dX9_drift_152 (by decide) ?_
          refine r_aload_n dX9_drift_153 rfl ?_
          refine r_getr fl_X9_41 dX9_drift_154 kd_120 ln_120 rfl rfl ?_
          refine r_iconst (v := 3) dX9_drift_157 (by decide) ?_
          refine r_ialx (j := 3) (x := im 130 3) dX9_drift_158 kd_130 ln_130 (cI 3) (by omega) (by decide) (by rw [st_row (by decide)]) ?_
          refine r_isub dX9_drift_159 ?_
          refine r_as (j := 3) dX9_drift_160 kd_130 ln_130 (cI 3) (by omega) (by decide) ?_
          refine r_im (im' := dwM im) (by simp only [dwM, eq_self, Bool.false_eq_true, Bool.true_eq_false, if_true, if_false, reduceIte, true_and, and_true, false_and, and_false, true_or, or_true, false_or, or_false, not_true_eq_false, not_false_eq_true, Bool.not_true, Bool.not_false, Bool.true_and, Bool.and_true, Bool.false_and, Bool.and_false, decide_true, decide_false, or0, eq_true h33, h42, h89, eq_true h144]) ?_
          refine r_aload_n dX9_drift_161 rfl ?_
          refine r_V0n cv_X9_175 dX9_drift_162 (m_passes (hm.keep (dwM_row (by decide) (by decide)))) ⟨by decide, by decide⟩ kd_120 ln_120 cl_9 (Nat.le_of_ble_eq_true rfl) ⟨Nat.le_refl _, Nat.le_refl _⟩ ?_
          refine r_lv (lv' := [(0, .ref 120), (1, .int x), (3, .int (nI t))]) (al_cons rfl (al_cons rfl (al_cons rfl al_nil))) ?_
          exact kk
      · refine r_aload_n dX9_drift_92 rfl ?_
        refine r_getr fl_X9_17 dX9_drift_93 kd_120 ln_120 rfl rfl ?_
        refine r_iconst (v := 2) dX9_drift_96 (by decide) ?_
        refine r_ialx (j := 2) (x := im 122 2) dX9_drift_97 kd_122 ln_122 (cI 2) (by omega) (by decide) (by rw [st_row (by decide)]) ?_
        refine r_if_le (tgt := 141) dX9_drift_98 (by decide) (fun h98 => ?_) (fun h98 => ?_)
        · refine r_iload dX9_drift_141 rfl ?_
          refine r_iconst (v := 2) dX9_drift_143 (by decide) ?_
          refine r_icmp_ne (tgt := 161) dX9_drift_144 (by decide) (fun h144 => ?_) (fun h144 => ?_)
          · refine r_im (im' := dwM im) (by simp only [dwM, eq_self, Bool.false_eq_true, Bool.true_eq_false, if_true, if_false, reduceIte, true_and, and_true, false_and, and_false, true_or, or_true, false_or, or_false, not_true_eq_false, not_false_eq_true, Bool.not_true, Bool.not_false, Bool.true_and, Bool.and_true, Bool.false_and, Bool.and_false, decide_true, decide_false, or0, eq_true h33, h42, eq_true h89, h98, h144]) ?_
            refine r_aload_n dX9_drift_161 rfl ?_
            refine r_V0n cv_X9_175 dX9_drift_162 (m_passes (hm.keep (dwM_row (by decide) (by decide)))) ⟨by decide, by decide⟩ kd_120 ln_120 cl_9 (Nat.le_of_ble_eq_true rfl) ⟨Nat.le_refl _, Nat.le_refl _⟩ ?_
            refine r_lv (lv' := [(0, .ref 120), (1, .int x), (3, .int (nI t))]) (al_cons rfl (al_cons rfl (al_cons rfl al_nil))) ?_
            exact kk
          · refine r_aload_n dX9_drift_147 rfl ?_
            refine r_getr fl_X9_41 dX9_drift_148 kd_120 ln_120 rfl rfl ?_
            refine r_iconst (v := 3) dX9_drift_151 (by decide) ?_
            refine r_iconst (v := 1) dX9_drift_152 (by decide) ?_
            refine r_aload_n dX9_drift_153 rfl ?_
            refine r_getr fl_X9_41 dX9_drift_154 kd_120 ln_120 rfl rfl ?_
            refine r_iconst (v := 3) dX9_drift_157 (by decide) ?_
            refine r_ialx (j := 3) (x := im 130 3) dX9_drift_158 kd_130 ln_130 (cI 3) (by omega) (by decide) (by rw [st_row (by decide)]) ?_
            refine r_isub dX9_drift_159 ?_
            refine r_as (j := 3) dX9_drift_160 kd_130 ln_130 (cI 3) (by omega) (by decide) ?_
            refine r_im (im' := dwM im) (by simp only [dwM, eq_self, Bool.false_eq_true, Bool.true_eq_false, if_true, if_false, reduceIte, true_and, and_true, false_and, and_false, true_or, or_true, false_or, or_false, not_true_eq_false, not_false_eq_true, Bool.not_true, Bool.not_false, Bool.true_and, Bool.and_true, Bool.false_and, Bool.and_false, decide_true, decide_false, or0, eq_true h33, h42, eq_true h89, h98, eq_true h144]) ?_
            refine r_aload_n dX9_drift_161 rfl ?_
            refine r_V0n cv_X9_175 dX9_drift_162 (m_passes (hm.keep (dwM_row (by decide) (by decide)))) ⟨by decide, by decide⟩ kd_120 ln_120 cl_9 (Nat.le_of_ble_eq_true rfl) ⟨Nat.le_refl _, Nat.le_refl _⟩ ?_
            refine r_lv (lv' := [(0, .ref 120), (1, .int x), (3, .int (nI t))]) (al_cons rfl (al_cons rfl (al_cons rfl al_nil))) ?_
            exact kk
        · refine r_aload_n dX9_drift_101 rfl ?_
          refine r_aload_n dX9_drift_102 rfl ?_
          refine r_getr fl_X9_17 dX9_drift_103 kd_120 ln_120 rfl rfl ?_
          refine r_iconst (v := 2) dX9_drift_106 (by decide) ?_
          refine r_ialx (j := 2) (x := im 122 2) dX9_drift_107 kd_122 ln_122 (cI 2) (by omega) (by decide) (by rw [st_row (by decide)]) ?_
          obtain ⟨jd, hjd, hjdv⟩ := dm_lt (dmS (im 120 17)) (T := S) (Nat.pos_of_ne_zero (fun q => h98 (by rw [hS, q]; decide))) (by omega)
          rw [← hS] at hjdv
          refine r_V1s cv_X9_198 dX9_drift_108 (by have q := m_draw (pl := pl) (it := it) (im := st im 120 17 (dmS (im 120 17))) (im 122 2) (fun q => h98 (by rw [q]; decide)); rw [st_same, st_st] at q; exact q) ⟨by decide, by decide⟩ kd_120 ln_120 cl_9 (Nat.le_of_ble_eq_true rfl) ⟨Nat.le_refl _, Nat.le_refl _⟩ ?_
          refine r_istore dX9_drift_111 (by decide) ?_
          have hjt : tn (dmV (dmS (dmS (im 120 17))) (im 122 2)) = jd := by rw [hjdv, tn_nI (by omega)]
          refine r_aload_n dX9_drift_113 rfl ?_
          refine r_iload dX9_drift_114 rfl ?_
          refine r_aload_n dX9_drift_116 rfl ?_
          refine r_getr fl_X9_41 dX9_drift_117 kd_120 ln_120 rfl rfl ?_
          refine r_iconst (v := 5) dX9_drift_120 (by decide) ?_
          refine r_ialx (j := 5) (x := im 130 5) dX9_drift_121 kd_130 ln_130 (cI 5) (by omega) (by decide) (by rw [st_row (by decide)]) ?_
          refine r_iload dX9_drift_122 rfl ?_
          refine r_S2s cv_X9_135 dX9_drift_124 (m_has (im 130 5) (dmV (dmS (dmS (im 120 17))) (im 122 2))) ⟨by decide, by decide⟩ (Nat.le_of_ble_eq_true rfl) ⟨Nat.le_refl _, Nat.le_refl _⟩ ?_
          refine r_bz_ne (tgt := 134) dX9_drift_127 (by decide) (fun h127 => ?_) (fun h127 => ?_)
          · refine r_iconst (v := 0) dX9_drift_134 (by decide) ?_
            refine r_V2n cv_X9_181 dX9_drift_135 (m_hires (j := jd) (by omega) (dmV (dmS (dmS (im 120 17))) (im 122 2)) 0 hjdv) ⟨by decide, by decide⟩ kd_120 ln_120 cl_9 (Nat.le_of_ble_eq_true rfl) ⟨Nat.le_refl _, Nat.le_refl _⟩ ?_
            refine r_goto (tgt := 161) dX9_drift_138 (by decide) ?_
            refine r_im (im' := dwM im) (by simp only [dwM, eq_self, Bool.false_eq_true, Bool.true_eq_false, if_true, if_false, reduceIte, true_and, and_true, false_and, and_false, true_or, or_true, false_or, or_false, not_true_eq_false, not_false_eq_true, Bool.not_true, Bool.not_false, Bool.true_and, Bool.and_true, Bool.false_and, Bool.and_false, decide_true, decide_false, or0, eq_true h33, h42, eq_true h89, h98, h127, hjt]) ?_
            refine r_aload_n dX9_drift_161 rfl ?_
            refine r_V0n cv_X9_175 dX9_drift_162 (m_passes (hm.keep (dwM_row (by decide) (by decide)))) ⟨by decide, by decide⟩ kd_120 ln_120 cl_9 (Nat.le_of_ble_eq_true rfl) ⟨Nat.le_refl _, Nat.le_refl _⟩ ?_
            refine r_lv (lv' := [(0, .ref 120), (1, .int x), (3, .int (nI t))]) (al_cons rfl (al_cons rfl (al_cons rfl al_nil))) ?_
            exact kk
          · refine r_iconst (v := 1) dX9_drift_130 (by decide) ?_
            refine r_goto (tgt := 135) dX9_drift_131 (by decide) ?_
            refine r_V2n cv_X9_181 dX9_drift_135 (m_hires (j := jd) (by omega) (dmV (dmS (dmS (im 120 17))) (im 122 2)) 1 hjdv) ⟨by decide, by decide⟩ kd_120 ln_120 cl_9 (Nat.le_of_ble_eq_true rfl) ⟨Nat.le_refl _, Nat.le_refl _⟩ ?_
            refine r_goto (tgt := 161) dX9_drift_138 (by decide) ?_
            refine r_im (im' := dwM im) (by simp only [dwM, eq_self, Bool.false_eq_true, Bool.true_eq_false, if_true, if_false, reduceIte, true_and, and_true, false_and, and_false, true_or, or_true, false_or, or_false, not_true_eq_false, not_false_eq_true, Bool.not_true, Bool.not_false, Bool.true_and, Bool.and_true, Bool.false_and, Bool.and_false, decide_true, decide_false, or0, eq_true h33, h42, eq_true h89, h98, h127, hjt]) ?_
            refine r_aload_n dX9_drift_161 rfl ?_
            refine r_V0n cv_X9_175 dX9_drift_162 (m_passes (hm.keep (dwM_row (by decide) (by decide)))) ⟨by decide, by decide⟩ kd_120 ln_120 cl_9 (Nat.le_of_ble_eq_true rfl) ⟨Nat.le_refl _, Nat.le_refl _⟩ ?_
            refine r_lv (lv' := [(0, .ref 120), (1, .int x), (3, .int (nI t))]) (al_cons rfl (al_cons rfl (al_cons rfl al_nil))) ?_
            exact kk
    · refine r_aload_n dX9_drift_45 rfl ?_
      refine r_aload_n dX9_drift_46 rfl ?_
      refine r_getr fl_X9_17 dX9_drift_47 kd_120 ln_120 rfl rfl ?_
      refine r_iconst (v := 1) dX9_drift_50 (by decide) ?_
      refine r_ialx (j := 1) (x := im 122 1) dX9_drift_51 kd_122 ln_122 (cI 1) (by omega) (by decide) (by rw [st_row (by decide)]) ?_
      obtain ⟨jd, hjd, hjdv⟩ := dm_lt (dmS (im 120 17)) (T := T) (Nat.pos_of_ne_zero (fun q => h42 (by rw [hT, q]; decide))) (by omega)
      rw [← hT] at hjdv
      refine r_V1s cv_X9_198 dX9_drift_52 (by have q := m_draw (pl := pl) (it := it) (im := st im 120 17 (dmS (im 120 17))) (im 122 1) (fun q => h42 (by rw [q]; decide)); rw [st_same, st_st] at q; exact q) ⟨by decide, by decide⟩ kd_120 ln_120 cl_9 (Nat.le_of_ble_eq_true rfl) ⟨Nat.le_refl _, Nat.le_refl _⟩ ?_
      refine r_istore dX9_drift_55 (by decide) ?_
      refine r_aload_n dX9_drift_57 rfl ?_
      refine r_getr fl_X9_41 dX9_drift_58 kd_120 ln_120 rfl rfl ?_
      refine r_iconst (v := 4) dX9_drift_61 (by decide) ?_
      refine r_dup2 dX9_drift_62 rfl rfl ?_
      refine r_ialx (j := 4) (x := im 130 4) dX9_drift_63 kd_130 ln_130 (cI 4) (by omega) (by decide) (by rw [st_row (by decide)]) ?_
      refine r_aload_n dX9_drift_64 rfl ?_
      refine r_iload dX9_drift_65 rfl ?_
      refine r_V1s cv_X9_178 dX9_drift_67 (by have q := m_canBe (pl := pl) (it := it) (im := st im 120 17 (dmS (dmS (im 120 17)))) (hm.keep (by rw [st_row (by decide)])) (j := jd) (by omega) (dmV (dmS (dmS (im 120 17))) (im 122 1)) hjdv; rw [show cbB (st im 120 17 (dmS (dmS (im 120 17)))) (dmV (dmS (dmS (im 120 17))) (im 122 1)) = cbB im (dmV (dmS (dmS (im 120 17))) (im 122 1)) by unfold cbB shM; rw [st_row (by decide), st_row (by decide)]] at q; exact q) ⟨by decide, by decide⟩ kd_120 ln_120 cl_9 (Nat.le_of_ble_eq_true rfl) ⟨Nat.le_refl _, Nat.le_refl _⟩ ?_
      refine r_bz_eq (tgt := 80) dX9_drift_70 (by decide) (fun h70 => ?_) (fun h70 => ?_)
      · refine r_iconst (v := 0) dX9_drift_80 (by decide) ?_
        refine r_ior dX9_drift_81 ?_
        refine r_as (j := 4) dX9_drift_82 kd_130 ln_130 (cI 4) (by omega) (by decide) ?_
        refine r_goto (tgt := 161) dX9_drift_83 (by decide) ?_
        refine r_im (im' := dwM im) (by simp only [dwM, eq_self, Bool.false_eq_true, Bool.true_eq_false, if_true, if_false, reduceIte, true_and, and_true, false_and, and_false, true_or, or_true, false_or, or_false, not_true_eq_false, not_false_eq_true, Bool.not_true, Bool.not_false, Bool.true_and, Bool.and_true, Bool.false_and, Bool.and_false, decide_true, decide_false, or0, eq_true h33, h42, h70]) ?_
        refine r_aload_n dX9_drift_161 rfl ?_
        refine r_V0n cv_X9_175 dX9_drift_162 (m_passes (hm.keep (dwM_row (by decide) (by decide)))) ⟨by decide, by decide⟩ kd_120 ln_120 cl_9 (Nat.le_of_ble_eq_true rfl) ⟨Nat.le_refl _, Nat.le_refl _⟩ ?_
        refine r_lv (lv' := [(0, .ref 120), (1, .int x), (3, .int (nI t))]) (al_cons rfl (al_cons rfl (al_cons rfl al_nil))) ?_
        exact kk
      · refine r_iconst (v := 1) dX9_drift_73 (by decide) ?_
        refine r_iload dX9_drift_74 rfl ?_
        refine r_ishl dX9_drift_76 ?_
        refine r_goto (tgt := 81) dX9_drift_77 (by decide) ?_
        refine r_ior dX9_drift_81 ?_
        refine r_as (j := 4) dX9_drift_82 kd_130 ln_130 (cI 4) (by omega) (by decide) ?_
        refine r_goto (tgt := 161) dX9_drift_83 (by decide) ?_
        refine r_im (im' := dwM im) (by simp only [dwM, eq_self, Bool.false_eq_true, Bool.true_eq_false, if_true, if_false, reduceIte, true_and, and_true, false_and, and_false, true_or, or_true, false_or, or_false, not_true_eq_false, not_false_eq_true, Bool.not_true, Bool.not_false, Bool.true_and, Bool.and_true, Bool.false_and, Bool.and_false, decide_true, decide_false, or0, eq_true h33, h42, h70]) ?_
        refine r_aload_n dX9_drift_161 rfl ?_
        refine r_V0n cv_X9_175 dX9_drift_162 (m_passes (hm.keep (dwM_row (by decide) (by decide)))) ⟨by decide, by decide⟩ kd_120 ln_120 cl_9 (Nat.le_of_ble_eq_true rfl) ⟨Nat.le_refl _, Nat.le_refl _⟩ ?_
        refine r_lv (lv' := [(0, .ref 120), (1, .int x), (3, .int (nI t))]) (al_cons rfl (al_cons rfl (al_cons rfl al_nil))) ?_
        exact kk

set_option maxRecDepth 100000 in
set_option maxHeartbeats 4000000 in
theorem m_drift {im : IM} {pl it : Nat} (hm : MA im) (hE0 : HDm im) (x : Int32) : MT YX9_drift 2 0 0 [.ref 120, .int x] 137 im (RR pl it) (some (.int (dfVm im x)), 137, dfM im x, RR pl it) := by
  obtain ⟨W, T, S, hW, hW8, hT, hT6, hS, hS5⟩ := id hm
  have htW : tn (im 122 0) = W := by rw [hW, tn_nI (by omega)]
  have htT : tn (im 122 1) = T := by rw [hT, tn_nI (by omega)]
  have htS : tn (im 122 2) = S := by rw [hS, tn_nI (by omega)]
  refine mt_of (by decide +kernel) (Nat.le_of_ble_eq_true rfl) ?_
  show WW _ _ _ _ _ _ _ 0 [(0, .ref 120), (1, .int x)] [] _ _ _
  refine r_aload_n dX9_drift_0 rfl ?_
  refine r_iload_n dX9_drift_1 rfl ?_
  refine r_V1s cv_X9_169 dX9_drift_2 (m_barred hm x) ⟨by decide, by decide⟩ kd_120 ln_120 cl_9 (Nat.le_of_ble_eq_true rfl) ⟨Nat.le_refl _, Nat.le_refl _⟩ ?_
  refine r_istore_n dX9_drift_5 (by decide) ?_
  refine r_iload_n dX9_drift_6 rfl ?_
  refine r_if_eq (tgt := 12) dX9_drift_7 (by decide) (fun h7 => ?_) (fun h7 => ?_)
  · obtain ⟨jw, hj1, hj60, hj⟩ := brM_nat h7
    have htt : tn x = jw := by rw [hj, tn_nI (by omega)]
    refine r_aload_n dX9_drift_12 rfl ?_
    refine r_V0n cv_X9_172 dX9_drift_13 (m_notes hE0) ⟨by decide, by decide⟩ kd_120 ln_120 cl_9 (Nat.le_of_ble_eq_true rfl) ⟨Nat.le_refl _, Nat.le_refl _⟩ ?_
    refine r_iconst (v := 0) dX9_drift_16 (by decide) ?_
    refine r_istore_n dX9_drift_17 (by decide) ?_
    refine r_lv (lv' := [(0, .ref 120), (1, .int x), (3, .int (nI 0))]) (al_cons rfl (al_cons rfl (al_int rfl (by exact (cI 0)) al_nil))) ?_
    refine r_im (im' := itW 0 (ntM im)) rfl ?_
    refine WW.loop (fun t => [(0, .ref 120), (1, .int x), (3, .int (nI t))]) (fun t => itW t (ntM im)) (N := jw) ?_ ?_ 0 (Nat.zero_le _)
    · show WW _ _ _ _ _ _ _ 18 [(0, .ref 120), (1, .int x), (3, .int (nI jw))] _ _ (itW jw (ntM im)) _
      refine r_iload_n dX9_drift_18 rfl ?_
      refine r_iload_n dX9_drift_19 rfl ?_
      refine r_icmp_ge_t (tgt := 171) dX9_drift_20 (by decide) (ix_le hj rfl (by omega) (by omega)) ?_
      refine r_aload_n dX9_drift_171 rfl ?_
      refine r_aload_n dX9_drift_172 rfl ?_
      refine r_getr fl_X9_41 dX9_drift_173 kd_120 ln_120 rfl rfl ?_
      refine r_iconst (v := 4) dX9_drift_176 (by decide) ?_
      refine r_ialx (j := 4) (x := itW jw (ntM im) 130 4) dX9_drift_177 kd_130 ln_130 (cI 4) (by omega) (by decide) rfl ?_
      refine r_V1s cv_X9_140 dX9_drift_178 (by have q := m_leftBy (pl := pl) (it := it) (im := itW jw (ntM im)) (hm.keep (by rw [itW_row (by decide) (by decide), ntM_row (by decide) (by decide)])) (itW jw (ntM im) 130 4); rw [show lfM (itW jw (ntM im)) (itW jw (ntM im) 130 4) = lfM im (itW jw (ntM im) 130 4) by unfold lfM ruM; rw [itW_row (by decide) (by decide), itW_row (by decide) (by decide), ntM_row (by decide) (by decide), ntM_row (by decide) (by decide)]] at q; exact q) ⟨by decide, by decide⟩ kd_120 ln_120 cl_9 (Nat.le_of_ble_eq_true rfl) ⟨Nat.le_refl _, Nat.le_refl _⟩ ?_
      exact r_iret dX9_drift_181 rfl (by simp only [dfVm, dfM, eq_self, Bool.false_eq_true, Bool.true_eq_false, if_true, if_false, reduceIte, eq_true h7, htt]) (Nat.le_refl _) (Nat.le_refl _)
    · intro t ht iht
      show WW _ _ _ _ _ _ _ 18 [(0, .ref 120), (1, .int x), (3, .int (nI t))] _ _ (itW t (ntM im)) _
      refine r_iload_n dX9_drift_18 rfl ?_
      refine r_iload_n dX9_drift_19 rfl ?_
      refine r_icmp_ge_f (tgt := 171) dX9_drift_20 (by decide) (ix_nle hj rfl (by omega) (by omega)) ?_
      refine m_driftStep (bar := 0) (hm.keep (by rw [itW_row (by decide) (by decide), ntM_row (by decide) (by decide)])) hj ?_
      refine r_iinc dX9_drift_165 rfl (by decide) (ix_inc rfl) ?_
      refine r_goto (tgt := 18) dX9_drift_168 (by decide) ?_
      refine r_lv (lv' := [(0, .ref 120), (1, .int x), (3, .int (nI (t + 1)))]) (al_cons rfl (al_cons rfl (al_cons rfl al_nil))) ?_
      refine r_im (im' := itW (t + 1) (ntM im)) rfl ?_
      exact iht
  · refine r_iload_n dX9_drift_10 rfl ?_
    exact r_iret dX9_drift_11 rfl (by simp only [dfVm, dfM, eq_self, Bool.false_eq_true, Bool.true_eq_false, if_true, if_false, reduceIte, h7]) (Nat.le_refl _) (Nat.le_refl _)

