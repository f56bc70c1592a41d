set_option maxRecDepth 100000 in
set_option maxHeartbeats 4000000 in
theorem m_feed {im : IM} {pl it : Nat} (hL0 : HLm im) (x : Int32) : MT YX9_feed 1 0 0 [.ref 120, .int x] 137 im (RR pl it) (some (.int (fdVm im x)), 137, fdM im x, RR pl it) := by
  obtain ⟨L, hL, hL240⟩ := id hL0
  have htL : tn (im 120 1) = L := by rw [hL, tn_nI (by omega)]
  refine mt_of (by decide +kernel) (Nat.le_of_ble_eq_true rfl) ?_
  show WW _ _ _ _ _ _ _ 0 [(0, .ref 120), (1, .int x)] [] _ _ _
  refine r_iload_n dX9_feed_0 rfl ?_
  refine r_iconst (v := 0) dX9_feed_1 (by decide) ?_
  refine r_sipush (v := 255) dX9_feed_2 (by decide) ?_
  refine r_S3s cv_X9_63 dX9_feed_5 (m_in x 0 255) ⟨by decide, by decide⟩ (Nat.le_of_ble_eq_true rfl) ⟨Nat.le_refl _, Nat.le_refl _⟩ ?_
  refine r_bz_ne (tgt := 14) dX9_feed_8 (by decide) (fun h8 => ?_) (fun h8 => ?_)
  · refine r_aload_n dX9_feed_14 rfl ?_
    refine r_geti fl_X9_68 dX9_feed_15 kd_120 ln_120 rfl ?_
    refine r_sipush (v := 240) dX9_feed_18 (by decide) ?_
    refine r_icmp_ne (tgt := 27) dX9_feed_21 (by decide) (fun h21 => ?_) (fun h21 => ?_)
    · have hLl : L < 240 := Nat.lt_of_le_of_ne hL240 (fun q => h21 (by rw [hL, q]; rfl))
      refine r_aload_n dX9_feed_27 rfl ?_
      refine r_getr fl_X9_7 dX9_feed_28 kd_120 ln_120 rfl rfl ?_
      refine r_aload_n dX9_feed_31 rfl ?_
      refine r_geti fl_X9_68 dX9_feed_32 kd_120 ln_120 rfl ?_
      refine r_iload_n dX9_feed_35 rfl ?_
      refine r_as (j := L) dX9_feed_36 kd_121 ln_121 hL (by omega) (by decide) ?_
      refine r_aload_n dX9_feed_37 rfl ?_
      refine r_dup dX9_feed_38 rfl ?_
      refine r_getx (x := im 120 1) fl_X9_68 dX9_feed_39 kd_120 ln_120 rfl rfl ?_
      refine r_iconst (v := 1) dX9_feed_42 (by decide) ?_
      refine r_iadd dX9_feed_43 ?_
      refine r_pi fl_X9_68 dX9_feed_44 kd_120 ln_120 rfl ?_
      refine r_aload_n dX9_feed_47 rfl ?_
      refine r_getx (x := im 120 1 + 1) fl_X9_68 dX9_feed_48 kd_120 ln_120 rfl rfl ?_
      exact r_iret dX9_feed_51 rfl (by simp only [fdVm, fdM, eq_self, Bool.false_eq_true, Bool.true_eq_false, if_true, if_false, reduceIte, h8, h21, htL]) (Nat.le_refl _) (Nat.le_refl _)
    · refine r_ldc dX9_feed_24 kn_X9_71 ?_
      exact r_iret dX9_feed_26 rfl (by simp only [fdVm, fdM, eq_self, Bool.false_eq_true, Bool.true_eq_false, if_true, if_false, reduceIte, h8, eq_true h21]) (Nat.le_refl _) (Nat.le_refl _)
  · refine r_ldc dX9_feed_11 kn_X9_67 ?_
    exact r_iret dX9_feed_13 rfl (by simp only [fdVm, fdM, eq_self, Bool.false_eq_true, Bool.true_eq_false, if_true, if_false, reduceIte, h8]) (Nat.le_refl _) (Nat.le_refl _)

set_option maxRecDepth 100000 in
set_option maxHeartbeats 4000000 in
theorem m_hear {im : IM} {pl it : Nat} (hm : MA im) (hB0 : HHm im) (x g : Int32) : MT YX9_hear 1 0 0 [.ref 120, .int x, .int g] 137 im (RR pl it) (some (.int (heVm im x)), 137, heM im x g, RR pl it) := by
  obtain ⟨W, T, S, hW, hW8, hT, hT6, hS, hS5⟩ := id hm
  have htW : tn (im 122 0) = W := by rw [hW, tn_nI (by omega)]
  have htT : tn (im 122 1) = T := by rw [hT, tn_nI (by omega)]
  have htS : tn (im 122 2) = S := by rw [hS, tn_nI (by omega)]
  obtain ⟨B, hB, hB6⟩ := id hB0
  have htB : tn (im 120 19) = B := by rw [hB, tn_nI (by omega)]
  refine mt_of (by decide +kernel) (Nat.le_of_ble_eq_true rfl) ?_
  show WW _ _ _ _ _ _ _ 0 [(0, .ref 120), (1, .int x), (2, .int g)] [] _ _ _
  refine r_iload_n dX9_hear_0 rfl ?_
  refine r_iconst (v := 0) dX9_hear_1 (by decide) ?_
  refine r_bipush (v := 59) dX9_hear_2 (by decide) ?_
  refine r_S3s cv_X9_63 dX9_hear_4 (m_in x 0 59) ⟨by decide, by decide⟩ (Nat.le_of_ble_eq_true rfl) ⟨Nat.le_refl _, Nat.le_refl _⟩ ?_
  refine r_bz_ne (tgt := 13) dX9_hear_7 (by decide) (fun h7 => ?_) (fun h7 => ?_)
  · refine r_aload_n dX9_hear_13 rfl ?_
    refine r_V0s cv_X9_164 dX9_hear_14 (m_isCastle hm) ⟨by decide, by decide⟩ kd_120 ln_120 cl_9 (Nat.le_of_ble_eq_true rfl) ⟨Nat.le_refl _, Nat.le_refl _⟩ ?_
    refine r_bz_ne (tgt := 23) dX9_hear_17 (by decide) (fun h17 => ?_) (fun h17 => ?_)
    · refine r_aload_n dX9_hear_23 rfl ?_
      refine r_geti fl_X9_129 dX9_hear_24 kd_120 ln_120 rfl ?_
      refine r_bipush (v := 6) dX9_hear_27 (by decide) ?_
      refine r_icmp_ne (tgt := 35) dX9_hear_29 (by decide) (fun h29 => ?_) (fun h29 => ?_)
      · have hBl : B < 6 := Nat.lt_of_le_of_ne hB6 (fun q => h29 (by rw [hB, q]; rfl))
        refine r_aload_n dX9_hear_35 rfl ?_
        refine r_getr fl_X9_57 dX9_hear_36 kd_120 ln_120 rfl rfl ?_
        refine r_iconst (v := 2) dX9_hear_39 (by decide) ?_
        refine r_aload_n dX9_hear_40 rfl ?_
        refine r_geti fl_X9_129 dX9_hear_41 kd_120 ln_120 rfl ?_
        refine r_imul dX9_hear_44 ?_
        refine r_iload_n dX9_hear_45 rfl ?_
        refine r_as (j := 2 * B) dX9_hear_46 kd_135 ln_135 (ix_mul (cI 2) hB) (by omega) (by decide) ?_
        refine r_aload_n dX9_hear_47 rfl ?_
        refine r_getr fl_X9_57 dX9_hear_48 kd_120 ln_120 rfl rfl ?_
        refine r_iconst (v := 2) dX9_hear_51 (by decide) ?_
        refine r_aload_n dX9_hear_52 rfl ?_
        refine r_getx (x := im 120 19) fl_X9_129 dX9_hear_53 kd_120 ln_120 rfl rfl ?_
        refine r_imul dX9_hear_56 ?_
        refine r_iconst (v := 1) dX9_hear_57 (by decide) ?_
        refine r_iadd dX9_hear_58 ?_
        refine r_iload_n dX9_hear_59 rfl ?_
        refine r_if_eq (tgt := 67) dX9_hear_60 (by decide) (fun h60 => ?_) (fun h60 => ?_)
        · refine r_iconst (v := 0) dX9_hear_67 (by decide) ?_
          refine r_as (j := (2 * B) + 1) dX9_hear_68 kd_135 ln_135 (ix_add (ix_mul (cI 2) hB) (cI 1)) (by omega) (by decide) ?_
          refine r_aload_n dX9_hear_69 rfl ?_
          refine r_dup dX9_hear_70 rfl ?_
          refine r_getx (x := im 120 19) fl_X9_129 dX9_hear_71 kd_120 ln_120 rfl rfl ?_
          refine r_iconst (v := 1) dX9_hear_74 (by decide) ?_
          refine r_iadd dX9_hear_75 ?_
          refine r_pi fl_X9_129 dX9_hear_76 kd_120 ln_120 rfl ?_
          refine r_aload_n dX9_hear_79 rfl ?_
          refine r_getx (x := im 120 19 + 1) fl_X9_129 dX9_hear_80 kd_120 ln_120 rfl rfl ?_
          exact r_iret dX9_hear_83 rfl (by simp only [heVm, heM, eq_self, Bool.false_eq_true, Bool.true_eq_false, if_true, if_false, reduceIte, h7, h17, h29, eq_true h60, htB]) (Nat.le_refl _) (Nat.le_refl _)
        · refine r_iconst (v := 1) dX9_hear_63 (by decide) ?_
          refine r_goto (tgt := 68) dX9_hear_64 (by decide) ?_
          refine r_as (j := (2 * B) + 1) dX9_hear_68 kd_135 ln_135 (ix_add (ix_mul (cI 2) hB) (cI 1)) (by omega) (by decide) ?_
          refine r_aload_n dX9_hear_69 rfl ?_
          refine r_dup dX9_hear_70 rfl ?_
          refine r_getx (x := im 120 19) fl_X9_129 dX9_hear_71 kd_120 ln_120 rfl rfl ?_
          refine r_iconst (v := 1) dX9_hear_74 (by decide) ?_
          refine r_iadd dX9_hear_75 ?_
          refine r_pi fl_X9_129 dX9_hear_76 kd_120 ln_120 rfl ?_
          refine r_aload_n dX9_hear_79 rfl ?_
          refine r_getx (x := im 120 19 + 1) fl_X9_129 dX9_hear_80 kd_120 ln_120 rfl rfl ?_
          exact r_iret dX9_hear_83 rfl (by simp only [heVm, heM, eq_self, Bool.false_eq_true, Bool.true_eq_false, if_true, if_false, reduceIte, h7, h17, h29, h60, htB]) (Nat.le_refl _) (Nat.le_refl _)
      · refine r_ldc dX9_hear_32 kn_X9_71 ?_
        exact r_iret dX9_hear_34 rfl (by simp only [heVm, heM, eq_self, Bool.false_eq_true, Bool.true_eq_false, if_true, if_false, reduceIte, h7, h17, eq_true h29]) (Nat.le_refl _) (Nat.le_refl _)
    · refine r_ldc dX9_hear_20 kn_X9_168 ?_
      exact r_iret dX9_hear_22 rfl (by simp only [heVm, heM, eq_self, Bool.false_eq_true, Bool.true_eq_false, if_true, if_false, reduceIte, h7, h17]) (Nat.le_refl _) (Nat.le_refl _)
  · refine r_ldc dX9_hear_10 kn_X9_67 ?_
    exact r_iret dX9_hear_12 rfl (by simp only [heVm, heM, eq_self, Bool.false_eq_true, Bool.true_eq_false, if_true, if_false, reduceIte, h7]) (Nat.le_refl _) (Nat.le_refl _)

set_option maxRecDepth 100000 in
set_option maxHeartbeats 4000000 in
theorem m_write {im : IM} {pl it : Nat} (hm : MA im) (hB0 : HBm im) (x : Int32) : MT YX9_write 2 0 0 [.ref 120, .int x] 137 im (RR pl it) (some (.int (wrVm im x)), 137, wrM im x, RR pl it) := by
  obtain ⟨W, T, S, hW, hW8, hT, hT6, hS, hS5⟩ := id hm
  have htW : tn (im 122 0) = W := by rw [hW, tn_nI (by omega)]
  have htT : tn (im 122 1) = T := by rw [hT, tn_nI (by omega)]
  have htS : tn (im 122 2) = S := by rw [hS, tn_nI (by omega)]
  obtain ⟨B, hB, hB15⟩ := id hB0
  have htB : tn (im 120 21) = B := by rw [hB, tn_nI (by omega)]
  refine mt_of (by decide +kernel) (Nat.le_of_ble_eq_true rfl) ?_
  show WW _ _ _ _ _ _ _ 0 [(0, .ref 120), (1, .int x)] [] _ _ _
  refine r_aload_n dX9_write_0 rfl ?_
  refine r_iload_n dX9_write_1 rfl ?_
  refine r_V1s cv_X9_185 dX9_write_2 (m_areWays hm x) ⟨by decide, by decide⟩ kd_120 ln_120 cl_9 (Nat.le_of_ble_eq_true rfl) ⟨Nat.le_refl _, Nat.le_refl _⟩ ?_
  refine r_bz_ne (tgt := 11) dX9_write_5 (by decide) (fun h5 => ?_) (fun h5 => ?_)
  · refine r_aload_n dX9_write_11 rfl ?_
    refine r_geti fl_X9_132 dX9_write_12 kd_120 ln_120 rfl ?_
    refine r_bipush (v := 15) dX9_write_15 (by decide) ?_
    refine r_icmp_ne (tgt := 23) dX9_write_17 (by decide) (fun h17 => ?_) (fun h17 => ?_)
    · have hBl : B < 15 := Nat.lt_of_le_of_ne hB15 (fun q => h17 (by rw [hB, q]; rfl))
      refine r_aload_n dX9_write_23 rfl ?_
      refine r_getr fl_X9_60 dX9_write_24 kd_120 ln_120 rfl rfl ?_
      refine r_aload_n dX9_write_27 rfl ?_
      refine r_geti fl_X9_132 dX9_write_28 kd_120 ln_120 rfl ?_
      refine r_iload_n dX9_write_31 rfl ?_
      refine r_as (j := B) dX9_write_32 kd_136 ln_136 hB (by omega) (by decide) ?_
      refine r_aload_n dX9_write_33 rfl ?_
      refine r_dup dX9_write_34 rfl ?_
      refine r_getx (x := im 120 21) fl_X9_132 dX9_write_35 kd_120 ln_120 rfl rfl ?_
      refine r_iconst (v := 1) dX9_write_38 (by decide) ?_
      refine r_iadd dX9_write_39 ?_
      refine r_pi fl_X9_132 dX9_write_40 kd_120 ln_120 rfl ?_
      refine r_aload_n dX9_write_43 rfl ?_
      refine r_getx (x := im 120 21 + 1) fl_X9_132 dX9_write_44 kd_120 ln_120 rfl rfl ?_
      exact r_iret dX9_write_47 rfl (by simp only [wrVm, wrM, eq_self, Bool.false_eq_true, Bool.true_eq_false, if_true, if_false, reduceIte, h5, h17, htB]) (Nat.le_refl _) (Nat.le_refl _)
    · refine r_ldc dX9_write_20 kn_X9_71 ?_
      exact r_iret dX9_write_22 rfl (by simp only [wrVm, wrM, eq_self, Bool.false_eq_true, Bool.true_eq_false, if_true, if_false, reduceIte, h5, eq_true h17]) (Nat.le_refl _) (Nat.le_refl _)
  · refine r_ldc dX9_write_8 kn_X9_153 ?_
    exact r_iret dX9_write_10 rfl (by simp only [wrVm, wrM, eq_self, Bool.false_eq_true, Bool.true_eq_false, if_true, if_false, reduceIte, h5]) (Nat.le_refl _) (Nat.le_refl _)

set_option maxRecDepth 100000 in
set_option maxHeartbeats 4000000 in
theorem m_tear {im : IM} {pl it : Nat}  : MT YX9_tear 0 0 0 [.ref 120] 137 im (RR pl it) (some (.int (im 120 19 + im 120 21)), 137, st (st im 120 19 0) 120 21 0, RR pl it) := by
  refine mt_of (by decide +kernel) (Nat.le_of_ble_eq_true rfl) ?_
  show WW _ _ _ _ _ _ _ 0 [(0, .ref 120)] [] _ _ _
  refine r_aload_n dX9_tear_0 rfl ?_
  refine r_geti fl_X9_129 dX9_tear_1 kd_120 ln_120 rfl ?_
  refine r_aload_n dX9_tear_4 rfl ?_
  refine r_geti fl_X9_132 dX9_tear_5 kd_120 ln_120 rfl ?_
  refine r_iadd dX9_tear_8 ?_
  refine r_istore_n dX9_tear_9 (by decide) ?_
  refine r_aload_n dX9_tear_10 rfl ?_
  refine r_iconst (v := 0) dX9_tear_11 (by decide) ?_
  refine r_pi fl_X9_129 dX9_tear_12 kd_120 ln_120 rfl ?_
  refine r_aload_n dX9_tear_15 rfl ?_
  refine r_iconst (v := 0) dX9_tear_16 (by decide) ?_
  refine r_pi fl_X9_132 dX9_tear_17 kd_120 ln_120 rfl ?_
  refine r_iload_n dX9_tear_20 rfl ?_
  exact r_iret dX9_tear_21 rfl rfl (Nat.le_refl _) (Nat.le_refl _)

set_option maxRecDepth 100000 in
set_option maxHeartbeats 4000000 in
theorem m_seed {im : IM} {pl it : Nat} (x : Int32) : MT YX9_seed 0 0 0 [.ref 120, .int x] 137 im (RR pl it) (some (.int (if 0 ≤ x then im 120 17 else (-1000000002))), 137, if 0 ≤ x then st im 120 17 x else im, RR pl it) := by
  refine mt_of (by decide +kernel) (Nat.le_of_ble_eq_true rfl) ?_
  show WW _ _ _ _ _ _ _ 0 [(0, .ref 120), (1, .int x)] [] _ _ _
  refine r_iload_n dX9_seed_0 rfl ?_
  refine r_if_ge (tgt := 7) dX9_seed_1 (by decide) (fun h1 => ?_) (fun h1 => ?_)
  · refine r_aload_n dX9_seed_7 rfl ?_
    refine r_geti fl_X9_188 dX9_seed_8 kd_120 ln_120 rfl ?_
    refine r_istore_n dX9_seed_11 (by decide) ?_
    refine r_aload_n dX9_seed_12 rfl ?_
    refine r_iload_n dX9_seed_13 rfl ?_
    refine r_pi fl_X9_188 dX9_seed_14 kd_120 ln_120 rfl ?_
    refine r_iload_n dX9_seed_17 rfl ?_
    exact r_iret dX9_seed_18 rfl (by simp only [eq_self, Bool.false_eq_true, Bool.true_eq_false, if_true, if_false, reduceIte, true_and, and_true, false_and, and_false, true_or, or_true, false_or, or_false, not_true_eq_false, not_false_eq_true, Bool.not_true, Bool.not_false, Bool.true_and, Bool.and_true, Bool.false_and, Bool.and_false, decide_true, decide_false, h1]) (Nat.le_refl _) (Nat.le_refl _)
  · refine r_ldc dX9_seed_4 kn_X9_67 ?_
    exact r_iret dX9_seed_6 rfl (by simp only [eq_self, Bool.false_eq_true, Bool.true_eq_false, if_true, if_false, reduceIte, true_and, and_true, false_and, and_false, true_or, or_true, false_or, or_false, not_true_eq_false, not_false_eq_true, Bool.not_true, Bool.not_false, Bool.true_and, Bool.and_true, Bool.false_and, Bool.and_false, decide_true, decide_false, h1]) (Nat.le_refl _) (Nat.le_refl _)

set_option maxRecDepth 100000 in
set_option maxHeartbeats 4000000 in
theorem m_judge {im : IM} {pl it : Nat} (hm : MA im) (hB0 : HBm im) : MT YX9_judge 2 0 0 [.ref 120] 137 im (RR pl it) (some (.int (foF (im 136) (lfM im (im 130 4)) 0 (tn (im 120 21)))), 137, im, RR pl it) := by
  obtain ⟨B, hB, hB15⟩ := id hB0
  rw [hB, tn_nI (by omega)]
  refine mt_of (by decide +kernel) (Nat.le_of_ble_eq_true rfl) ?_
  show WW _ _ _ _ _ _ _ 0 [(0, .ref 120)] [] _ _ _
  have key : ∀ m t, t + m = B → WW YX9_judge 2 0 0 (some (.int (foF (im 136) (lfM im (im 130 4)) t m)), 137, im, RR pl it) 0 0 2 [(0, .ref 120), (1, .int (nI t))] [] 137 im (RR pl it) := by
    intro m
    induction m with
    | zero =>
      intro t ht
      refine r_iload_n dX9_judge_2 rfl ?_
      refine r_aload_n dX9_judge_3 rfl ?_
      refine r_geti fl_X9_132 dX9_judge_4 kd_120 ln_120 rfl ?_
      refine r_icmp_ge_t (tgt := 37) dX9_judge_7 (by decide) (ix_le hB rfl (by omega) (by omega)) ?_
      refine r_iconst (v := (-1)) dX9_judge_37 (by decide) ?_
      exact r_iret dX9_judge_38 rfl rfl (Nat.le_refl _) (Nat.le_refl _)
    | succ m ih =>
      intro t ht
      refine r_iload_n dX9_judge_2 rfl ?_
      refine r_aload_n dX9_judge_3 rfl ?_
      refine r_geti fl_X9_132 dX9_judge_4 kd_120 ln_120 rfl ?_
      refine r_icmp_ge_f (tgt := 37) dX9_judge_7 (by decide) (ix_nle hB rfl (by omega) (by omega)) ?_
      refine r_aload_n dX9_judge_10 rfl ?_
      refine r_getr fl_X9_60 dX9_judge_11 kd_120 ln_120 rfl rfl ?_
      refine r_iload_n dX9_judge_14 rfl ?_
      refine r_iald (j := t) dX9_judge_15 kd_136 ln_136 rfl (by omega) (by decide) ?_
      refine r_aload_n dX9_judge_16 rfl ?_
      refine r_aload_n dX9_judge_17 rfl ?_
      refine r_getr fl_X9_41 dX9_judge_18 kd_120 ln_120 rfl rfl ?_
      refine r_iconst (v := 4) dX9_judge_21 (by decide) ?_
      refine r_iald (j := 4) dX9_judge_22 kd_130 ln_130 (cI 4) (by omega) (by decide) ?_
      refine r_V1s cv_X9_140 dX9_judge_23 (m_leftBy hm (im 130 4)) ⟨by decide, by decide⟩ kd_120 ln_120 cl_9 (Nat.le_of_ble_eq_true rfl) ⟨Nat.le_refl _, Nat.le_refl _⟩ ?_
      refine r_icmp_eq (tgt := 31) dX9_judge_26 (by decide) (fun h26 => ?_) (fun h26 => ?_)
      · refine r_iinc dX9_judge_31 rfl (by decide) (ix_inc rfl) ?_
        refine r_goto (tgt := 2) dX9_judge_34 (by decide) ?_
        rw [foF_go h26]
        refine r_lv (lv' := [(0, .ref 120), (1, .int (nI (t + 1)))]) (al_cons rfl (al_cons rfl al_nil)) ?_
        exact ih (t + 1) (by omega)
      · refine r_iload_n dX9_judge_29 rfl ?_
        exact r_iret dX9_judge_30 rfl (by rw [foF_st h26]) (Nat.le_refl _) (Nat.le_refl _)
  refine r_iconst (v := 0) dX9_judge_0 (by decide) ?_
  refine r_istore_n dX9_judge_1 (by decide) ?_
  refine r_lv (lv' := [(0, .ref 120), (1, .int (nI 0))]) (al_cons rfl (al_cons rfl al_nil)) ?_
  exact key B 0 (by omega)

set_option maxRecDepth 100000 in
set_option maxHeartbeats 4000000 in
theorem m_keep {im : IM} {pl it : Nat} (x : Int32) : MT YX9_keep 1 0 0 [.ref 120, .int x] 137 im (RR pl it) (some (.int (if inB x 0 1 = false then (-1000000001) else 1)), 137, kpM im x, RR pl it) := by
  refine mt_of (by decide +kernel) (Nat.le_of_ble_eq_true rfl) ?_
  show WW _ _ _ _ _ _ _ 0 [(0, .ref 120), (1, .int x)] [] _ _ _
  refine r_iload_n dX9_keep_0 rfl ?_
  refine r_iconst (v := 0) dX9_keep_1 (by decide) ?_
  refine r_iconst (v := 1) dX9_keep_2 (by decide) ?_
  refine r_S3s cv_X9_63 dX9_keep_3 (m_in x 0 1) ⟨by decide, by decide⟩ (Nat.le_of_ble_eq_true rfl) ⟨Nat.le_refl _, Nat.le_refl _⟩ ?_
  refine r_bz_ne (tgt := 12) dX9_keep_6 (by decide) (fun h6 => ?_) (fun h6 => ?_)
  · obtain ⟨jw, hjw, hj⟩ := inB_nat (W := 2) (w := x) h6 (by omega)
    have htt : tn x = jw := by rw [hj, tn_nI (by omega)]
    refine r_aload_n dX9_keep_12 rfl ?_
    refine r_getr fl_X9_41 dX9_keep_13 kd_120 ln_120 rfl rfl ?_
    refine r_iconst (v := 0) dX9_keep_16 (by decide) ?_
    refine r_aload_n dX9_keep_17 rfl ?_
    refine r_getr fl_X9_47 dX9_keep_18 kd_120 ln_120 rfl rfl ?_
    refine r_bipush (v := 21) dX9_keep_21 (by decide) ?_
    refine r_iload_n dX9_keep_23 rfl ?_
    refine r_imul dX9_keep_24 ?_
    refine r_bipush (v := 21) dX9_keep_25 (by decide) ?_
    refine r_S5n cv_X9_122 dX9_keep_27 (m_copies (a := 0) (b := 21 * jw) (m := 21) kd_130 kd_132 ln_130 ln_132 (by decide) (by decide) (by omega) (by decide) (by decide) rfl (ix_mul (cI 21) hj) rfl) ⟨by decide, by decide⟩ (Nat.le_of_ble_eq_true rfl) ⟨Nat.le_refl _, Nat.le_refl _⟩ ?_
    refine r_aload_n dX9_keep_30 rfl ?_
    refine r_getr fl_X9_50 dX9_keep_31 kd_120 ln_120 rfl rfl ?_
    refine r_iload_n dX9_keep_34 rfl ?_
    refine r_aload_n dX9_keep_35 rfl ?_
    refine r_getx (x := im 120 17) fl_X9_188 dX9_keep_36 kd_120 ln_120 rfl (cyT_off (by decide)) ?_
    refine r_as (j := jw) dX9_keep_39 kd_133 ln_133 hj (by omega) (by decide) ?_
    refine r_aload_n dX9_keep_40 rfl ?_
    refine r_getr fl_X9_53 dX9_keep_41 kd_120 ln_120 rfl rfl ?_
    refine r_iload_n dX9_keep_44 rfl ?_
    refine r_iconst (v := 1) dX9_keep_45 (by decide) ?_
    refine r_zs (j := jw) dX9_keep_46 kd_134 ln_134 hj (by omega) (by decide) nar1 ?_
    refine r_aload_n dX9_keep_47 rfl ?_
    refine r_iconst (v := 0) dX9_keep_48 (by decide) ?_
    refine r_pi fl_X9_126 dX9_keep_49 kd_120 ln_120 rfl ?_
    refine r_iconst (v := 1) dX9_keep_52 (by decide) ?_
    exact r_iret dX9_keep_53 rfl (by simp only [kpM, eq_self, Bool.false_eq_true, Bool.true_eq_false, if_true, if_false, reduceIte, h6, htt]) (Nat.le_refl _) (Nat.le_refl _)
  · refine r_ldc dX9_keep_9 kn_X9_153 ?_
    exact r_iret dX9_keep_11 rfl (by simp only [kpM, eq_self, Bool.false_eq_true, Bool.true_eq_false, if_true, if_false, reduceIte, h6]) (Nat.le_refl _) (Nat.le_refl _)

set_option maxRecDepth 100000 in
set_option maxHeartbeats 4000000 in
theorem m_goBack {im : IM} {pl it : Nat} (x : Int32) : MT YX9_goBack 1 0 0 [.ref 120, .int x] 137 im (RR pl it) (some (.int (gbVm im x)), 137, gbM im x, RR pl it) := by
  refine mt_of (by decide +kernel) (Nat.le_of_ble_eq_true rfl) ?_
  show WW _ _ _ _ _ _ _ 0 [(0, .ref 120), (1, .int x)] [] _ _ _
  refine r_iload_n dX9_goBack_0 rfl ?_
  refine r_iconst (v := 0) dX9_goBack_1 (by decide) ?_
  refine r_iconst (v := 1) dX9_goBack_2 (by decide) ?_
  refine r_S3s cv_X9_63 dX9_goBack_3 (m_in x 0 1) ⟨by decide, by decide⟩ (Nat.le_of_ble_eq_true rfl) ⟨Nat.le_refl _, Nat.le_refl _⟩ ?_
  refine r_bz_ne (tgt := 12) dX9_goBack_6 (by decide) (fun h6 => ?_) (fun h6 => ?_)
  · obtain ⟨jw, hjw, hj⟩ := inB_nat (W := 2) (w := x) h6 (by omega)
    have htt : tn x = jw := by rw [hj, tn_nI (by omega)]
    refine r_aload_n dX9_goBack_12 rfl ?_
    refine r_getr fl_X9_53 dX9_goBack_13 kd_120 ln_120 rfl rfl ?_
    refine r_iload_n dX9_goBack_16 rfl ?_
    refine r_zald (j := jw) dX9_goBack_17 kd_134 ln_134 hj (by omega) (by decide) ?_
    refine r_if_ne (tgt := 24) dX9_goBack_18 (by decide) (fun h18 => ?_) (fun h18 => ?_)
    · refine r_aload_n dX9_goBack_24 rfl ?_
      refine r_getr fl_X9_47 dX9_goBack_25 kd_120 ln_120 rfl rfl ?_
      refine r_bipush (v := 21) dX9_goBack_28 (by decide) ?_
      refine r_iload_n dX9_goBack_30 rfl ?_
      refine r_imul dX9_goBack_31 ?_
      refine r_aload_n dX9_goBack_32 rfl ?_
      refine r_getr fl_X9_41 dX9_goBack_33 kd_120 ln_120 rfl rfl ?_
      refine r_iconst (v := 0) dX9_goBack_36 (by decide) ?_
      refine r_bipush (v := 21) dX9_goBack_37 (by decide) ?_
      refine r_S5n cv_X9_122 dX9_goBack_39 (m_copies (a := 21 * jw) (b := 0) (m := 21) kd_132 kd_130 ln_132 ln_130 (by decide) (by omega) (by decide) (by decide) (by decide) (ix_mul (cI 21) hj) rfl rfl) ⟨by decide, by decide⟩ (Nat.le_of_ble_eq_true rfl) ⟨Nat.le_refl _, Nat.le_refl _⟩ ?_
      refine r_aload_n dX9_goBack_42 rfl ?_
      refine r_aload_n dX9_goBack_43 rfl ?_
      refine r_getr fl_X9_50 dX9_goBack_44 kd_120 ln_120 rfl rfl ?_
      refine r_iload_n dX9_goBack_47 rfl ?_
      refine r_ialx (j := jw) (x := im 133 jw) dX9_goBack_48 kd_133 ln_133 hj (by omega) (by decide) (cyT_off (by decide)) ?_
      refine r_pi fl_X9_188 dX9_goBack_49 kd_120 ln_120 rfl ?_
      refine r_aload_n dX9_goBack_52 rfl ?_
      refine r_iconst (v := 0) dX9_goBack_53 (by decide) ?_
      refine r_pi fl_X9_126 dX9_goBack_54 kd_120 ln_120 rfl ?_
      refine r_iconst (v := 1) dX9_goBack_57 (by decide) ?_
      exact r_iret dX9_goBack_58 rfl (by simp only [gbM, gbVm, eq_self, Bool.false_eq_true, Bool.true_eq_false, if_true, if_false, reduceIte, h6, h18, htt]) (Nat.le_refl _) (Nat.le_refl _)
    · refine r_ldc dX9_goBack_21 kn_X9_168 ?_
      exact r_iret dX9_goBack_23 rfl (by simp only [gbM, gbVm, eq_self, Bool.false_eq_true, Bool.true_eq_false, if_true, if_false, reduceIte, h6, eq_true h18, htt]) (Nat.le_refl _) (Nat.le_refl _)
  · refine r_ldc dX9_goBack_9 kn_X9_153 ?_
    exact r_iret dX9_goBack_11 rfl (by simp only [gbM, gbVm, eq_self, Bool.false_eq_true, Bool.true_eq_false, if_true, if_false, reduceIte, h6]) (Nat.le_refl _) (Nat.le_refl _)

set_option maxRecDepth 100000 in
set_option maxHeartbeats 4000000 in
theorem m_undo {im : IM} {pl it : Nat} (hE0 : HDm im) : MT YX9_undo 1 0 0 [.ref 120] 137 im (RR pl it) (some (.int (unVm im)), 137, unM im, RR pl it) := by
  obtain ⟨E, hE, hE20⟩ := id hE0
  have htE : tn (im 120 13) = E := by rw [hE, tn_nI (by omega)]
  refine mt_of (by decide +kernel) (Nat.le_of_ble_eq_true rfl) ?_
  show WW _ _ _ _ _ _ _ 0 [(0, .ref 120)] [] _ _ _
  refine r_aload_n dX9_undo_0 rfl ?_
  refine r_geti fl_X9_126 dX9_undo_1 kd_120 ln_120 rfl ?_
  refine r_if_ne (tgt := 10) dX9_undo_4 (by decide) (fun h4 => ?_) (fun h4 => ?_)
  · have hE1 : 1 ≤ E := Nat.pos_of_ne_zero (fun q => h4 (by rw [hE, q]; rfl))
    refine r_aload_n dX9_undo_10 rfl ?_
    refine r_dup dX9_undo_11 rfl ?_
    refine r_geti fl_X9_126 dX9_undo_12 kd_120 ln_120 rfl ?_
    refine r_iconst (v := 1) dX9_undo_15 (by decide) ?_
    refine r_isub dX9_undo_16 ?_
    refine r_pi fl_X9_126 dX9_undo_17 kd_120 ln_120 rfl ?_
    refine r_aload_n dX9_undo_20 rfl ?_
    refine r_getr fl_X9_44 dX9_undo_21 kd_120 ln_120 rfl rfl ?_
    refine r_bipush (v := 21) dX9_undo_24 (by decide) ?_
    refine r_aload_n dX9_undo_26 rfl ?_
    refine r_getx (x := im 120 13 - 1) fl_X9_126 dX9_undo_27 kd_120 ln_120 rfl (st_same _ _ _ _) ?_
    refine r_imul dX9_undo_30 ?_
    refine r_aload_n dX9_undo_31 rfl ?_
    refine r_getr fl_X9_41 dX9_undo_32 kd_120 ln_120 rfl rfl ?_
    refine r_iconst (v := 0) dX9_undo_35 (by decide) ?_
    refine r_bipush (v := 21) dX9_undo_36 (by decide) ?_
    refine r_S5n cv_X9_122 dX9_undo_38 (m_copies (a := 21 * (E - 1)) (b := 0) (m := 21) kd_131 kd_130 ln_131 ln_130 (by decide) (by omega) (by decide) (by decide) (by decide) (ix_mul (cI 21) (ix_sub hE (cI 1) hE1)) rfl rfl) ⟨by decide, by decide⟩ (Nat.le_of_ble_eq_true rfl) ⟨Nat.le_refl _, Nat.le_refl _⟩ ?_
    refine r_aload_n dX9_undo_41 rfl ?_
    refine r_getx (x := im 120 13 - 1) fl_X9_126 dX9_undo_42 kd_120 ln_120 rfl (by rw [cyT_off (by decide), st_same]) ?_
    exact r_iret dX9_undo_45 rfl (by simp only [unM, unVm, htE, eq_self, Bool.false_eq_true, Bool.true_eq_false, if_true, if_false, reduceIte, h4]) (Nat.le_refl _) (Nat.le_refl _)
  · refine r_ldc dX9_undo_7 kn_X9_168 ?_
    exact r_iret dX9_undo_9 rfl (by simp only [unM, unVm, htE, eq_self, Bool.false_eq_true, Bool.true_eq_false, if_true, if_false, reduceIte, eq_true h4]) (Nat.le_refl _) (Nat.le_refl _)

set_option maxRecDepth 100000 in
set_option maxHeartbeats 4000000 in
theorem m_beliefBy {im : IM} {pl it : Nat} (hm : MA im) {j : Nat} (hj8 : j < 8) (x left : Int32) (hj : x = nI j) (hne : hasB left x = true → ¬ (smF (im 123) left (tn (im 122 0))).toInt64 = 0) : MT YX9_beliefBy 2 0 0 [.ref 120, .int x, .int left] 137 im (RR pl it) (some (.int (beM im x left)), 137, im, RR pl it) := by
  obtain ⟨W, T, S, hW, hW8, hT, hT6, hS, hS5⟩ := id hm
  have htW : tn (im 122 0) = W := by rw [hW, tn_nI (by omega)]
  have htT : tn (im 122 1) = T := by rw [hT, tn_nI (by omega)]
  have htS : tn (im 122 2) = S := by rw [hS, tn_nI (by omega)]
  have htt : tn x = j := by rw [hj, tn_nI (by omega)]
  refine mt_of (by decide +kernel) (Nat.le_of_ble_eq_true rfl) ?_
  show WW _ _ _ _ _ _ _ 0 [(0, .ref 120), (1, .int x), (2, .int left)] [] _ _ _
  refine r_iload_n dX9_beliefBy_0 rfl ?_
  refine r_iload_n dX9_beliefBy_1 rfl ?_
  refine r_S2s cv_X9_135 dX9_beliefBy_2 (m_has left x) ⟨by decide, by decide⟩ (Nat.le_of_ble_eq_true rfl) ⟨Nat.le_refl _, Nat.le_refl _⟩ ?_
  refine r_bz_eq (tgt := 30) dX9_beliefBy_5 (by decide) (fun h5 => ?_) (fun h5 => ?_)
  · refine r_iconst (v := 0) dX9_beliefBy_30 (by decide) ?_
    exact r_iret dX9_beliefBy_31 rfl (by simp only [beM, htt, eq_self, Bool.false_eq_true, Bool.true_eq_false, if_true, if_false, reduceIte, h5]) (Nat.le_refl _) (Nat.le_refl _)
  · refine r_ldc2 dX9_beliefBy_8 kn_X9_201 ?_
    refine r_aload_n dX9_beliefBy_11 rfl ?_
    refine r_getr fl_X9_20 dX9_beliefBy_12 kd_120 ln_120 rfl rfl ?_
    refine r_iload_n dX9_beliefBy_15 rfl ?_
    refine r_iald (j := j) dX9_beliefBy_16 kd_123 ln_123 hj (by omega) (by decide) ?_
    refine r_i2l dX9_beliefBy_17 ?_
    refine r_lmul dX9_beliefBy_18 ?_
    refine r_aload_n dX9_beliefBy_19 rfl ?_
    refine r_iload_n dX9_beliefBy_20 rfl ?_
    refine r_V1s cv_X9_203 dX9_beliefBy_21 (m_likelyIn hm left) ⟨by decide, by decide⟩ kd_120 ln_120 cl_9 (Nat.le_of_ble_eq_true rfl) ⟨Nat.le_refl _, Nat.le_refl _⟩ ?_
    refine r_i2l dX9_beliefBy_24 ?_
    refine r_ldiv dX9_beliefBy_25 (hne h5) ?_
    refine r_l2i dX9_beliefBy_26 ?_
    refine r_goto (tgt := 31) dX9_beliefBy_27 (by decide) ?_
    exact r_iret dX9_beliefBy_31 rfl (by simp only [beM, htt, eq_self, Bool.false_eq_true, Bool.true_eq_false, if_true, if_false, reduceIte, h5]) (Nat.le_refl _) (Nat.le_refl _)

set_option maxRecDepth 100000 in
set_option maxHeartbeats 4000000 in
theorem m_belief {im : IM} {pl it : Nat} (hm : MA im) (hlk : ∀ left j, j < tn (im 122 0) → hasB left (nI j) = true → ¬ (smF (im 123) left (tn (im 122 0))).toInt64 = 0) (x : Int32) : MT YX9_belief 3 0 0 [.ref 120, .int x] 137 im (RR pl it) (some (.int (if inB x 0 (im 122 0 - 1) = true then beM im x (lfM im (im 130 4)) else (-1000000001))), 137, im, RR pl it) := by
  obtain ⟨W, T, S, hW, hW8, hT, hT6, hS, hS5⟩ := id hm
  have htW : tn (im 122 0) = W := by rw [hW, tn_nI (by omega)]
  have htT : tn (im 122 1) = T := by rw [hT, tn_nI (by omega)]
  have htS : tn (im 122 2) = S := by rw [hS, tn_nI (by omega)]
  refine mt_of (by decide +kernel) (Nat.le_of_ble_eq_true rfl) ?_
  show WW _ _ _ _ _ _ _ 0 [(0, .ref 120), (1, .int x)] [] _ _ _
  refine r_aload_n dX9_belief_0 rfl ?_
  refine r_iload_n dX9_belief_1 rfl ?_
  refine r_V1s cv_X9_149 dX9_belief_2 (m_isWay hm x) ⟨by decide, by decide⟩ kd_120 ln_120 cl_9 (Nat.le_of_ble_eq_true rfl) ⟨Nat.le_refl _, Nat.le_refl _⟩ ?_
  refine r_bz_eq (tgt := 26) dX9_belief_5 (by decide) (fun h5 => ?_) (fun h5 => ?_)
  · refine r_ldc dX9_belief_26 kn_X9_153 ?_
    exact r_iret dX9_belief_28 rfl (by simp only [eq_self, Bool.false_eq_true, Bool.true_eq_false, if_true, if_false, reduceIte, true_and, and_true, false_and, and_false, true_or, or_true, false_or, or_false, not_true_eq_false, not_false_eq_true, Bool.not_true, Bool.not_false, Bool.true_and, Bool.and_true, Bool.false_and, Bool.and_false, decide_true, decide_false, h5]) (Nat.le_refl _) (Nat.le_refl _)
  · obtain ⟨jw, hjw, hj⟩ := inB_nat (W := W) (by rw [← hW]; exact h5) (by omega)
    have htt : tn x = jw := by rw [hj, tn_nI (by omega)]
    refine r_aload_n dX9_belief_8 rfl ?_
    refine r_iload_n dX9_belief_9 rfl ?_
    refine r_aload_n dX9_belief_10 rfl ?_
    refine r_aload_n dX9_belief_11 rfl ?_
    refine r_getr fl_X9_41 dX9_belief_12 kd_120 ln_120 rfl rfl ?_
    refine r_iconst (v := 4) dX9_belief_15 (by decide) ?_
    refine r_iald (j := 4) dX9_belief_16 kd_130 ln_130 (cI 4) (by omega) (by decide) ?_
    refine r_V1s cv_X9_140 dX9_belief_17 (m_leftBy hm (im 130 4)) ⟨by decide, by decide⟩ kd_120 ln_120 cl_9 (Nat.le_of_ble_eq_true rfl) ⟨Nat.le_refl _, Nat.le_refl _⟩ ?_
    refine r_V2s cv_X9_206 dX9_belief_20 (m_beliefBy hm (j := jw) (by omega) x (lfM im (im 130 4)) hj (fun q => hlk _ jw (by omega) (by rw [← hj]; exact q))) ⟨by decide, by decide⟩ kd_120 ln_120 cl_9 (Nat.le_of_ble_eq_true rfl) ⟨Nat.le_refl _, Nat.le_refl _⟩ ?_
    refine r_goto (tgt := 28) dX9_belief_23 (by decide) ?_
    exact r_iret dX9_belief_28 rfl (by simp only [eq_self, Bool.false_eq_true, Bool.true_eq_false, if_true, if_false, reduceIte, true_and, and_true, false_and, and_false, true_or, or_true, false_or, or_false, not_true_eq_false, not_false_eq_true, Bool.not_true, Bool.not_false, Bool.true_and, Bool.and_true, Bool.false_and, Bool.and_false, decide_true, decide_false, h5]) (Nat.le_refl _) (Nat.le_refl _)

set_option maxRecDepth 100000 in
set_option maxHeartbeats 4000000 in
theorem m_offerBy {im : IM} {pl it : Nat} (hm : MA im) (hlk : ∀ left j, j < tn (im 122 0) → hasB left (nI j) = true → ¬ (smF (im 123) left (tn (im 122 0))).toInt64 = 0) (h1 : 0 < tn (im 122 0)) (v c left : Int32) : MT YX9_offerBy 3 0 0 [.ref 120, .int v, .int c, .int left] 137 im (RR pl it) (some (.int (omS im v c left)), 137, im, RR pl it) := by
  obtain ⟨W, T, S, hW, hW8, hT, hT6, hS, hS5⟩ := id hm
  have htW : tn (im 122 0) = W := by rw [hW, tn_nI (by omega)]
  have htT : tn (im 122 1) = T := by rw [hT, tn_nI (by omega)]
  have htS : tn (im 122 2) = S := by rw [hS, tn_nI (by omega)]
  refine mt_of (by decide +kernel) (Nat.le_of_ble_eq_true rfl) ?_
  show WW _ _ _ _ _ _ _ 0 [(0, .ref 120), (1, .int v), (2, .int c), (3, .int left)] [] _ _ _
  refine r_iload_n dX9_offerBy_0 rfl ?_
  refine r_i2l dX9_offerBy_1 ?_
  refine r_aload_n dX9_offerBy_2 rfl ?_
  refine r_iconst (v := 0) dX9_offerBy_3 (by decide) ?_
  refine r_iload_n dX9_offerBy_4 rfl ?_
  refine r_V2s cv_X9_206 dX9_offerBy_5 (m_beliefBy hm (j := 0) (by omega) 0 left rfl (fun q => hlk _ 0 h1 q)) ⟨by decide, by decide⟩ kd_120 ln_120 cl_9 (Nat.le_of_ble_eq_true rfl) ⟨Nat.le_refl _, Nat.le_refl _⟩ ?_
  refine r_i2l dX9_offerBy_8 ?_
  refine r_lmul dX9_offerBy_9 ?_
  refine r_ldc2 dX9_offerBy_10 kn_X9_201 ?_
  refine r_ldiv dX9_offerBy_13 (by decide) ?_
  refine r_l2i dX9_offerBy_14 ?_
  refine r_iload_n dX9_offerBy_15 rfl ?_
  refine r_isub dX9_offerBy_16 ?_
  refine r_istore dX9_offerBy_17 (by decide) ?_
  refine r_iload dX9_offerBy_19 rfl ?_
  refine r_if_ge (tgt := 28) dX9_offerBy_21 (by decide) (fun h21 => ?_) (fun h21 => ?_)
  · refine r_iload dX9_offerBy_28 rfl ?_
    exact r_iret dX9_offerBy_30 rfl (by simp only [omS, eq_self, Bool.false_eq_true, Bool.true_eq_false, if_true, if_false, reduceIte, true_and, and_true, false_and, and_false, true_or, or_true, false_or, or_false, not_true_eq_false, not_false_eq_true, Bool.not_true, Bool.not_false, Bool.true_and, Bool.and_true, Bool.false_and, Bool.and_false, decide_true, decide_false, h21]) (Nat.le_refl _) (Nat.le_refl _)
  · refine r_iconst (v := 0) dX9_offerBy_24 (by decide) ?_
    refine r_goto (tgt := 30) dX9_offerBy_25 (by decide) ?_
    exact r_iret dX9_offerBy_30 rfl (by simp only [omS, eq_self, Bool.false_eq_true, Bool.true_eq_false, if_true, if_false, reduceIte, true_and, and_true, false_and, and_false, true_or, or_true, false_or, or_false, not_true_eq_false, not_false_eq_true, Bool.not_true, Bool.not_false, Bool.true_and, Bool.and_true, Bool.false_and, Bool.and_false, decide_true, decide_false, h21]) (Nat.le_refl _) (Nat.le_refl _)

theorem icB_pos {im : IM} {W : Nat} (hW : im 122 0 = nI W) (h8 : W ≤ 8) (h : icB im = true) : 0 < tn (im 122 0) := by
  rw [hW, tn_nI (by omega)]
  apply Nat.pos_of_ne_zero
  intro q
  unfold icB at h
  rw [hW, q] at h
  exact absurd h (by decide)

set_option maxRecDepth 100000 in
set_option maxHeartbeats 4000000 in
theorem m_offer {im : IM} {pl it : Nat} (hm : MA im) (hlk : ∀ left j, j < tn (im 122 0) → hasB left (nI j) = true → ¬ (smF (im 123) left (tn (im 122 0))).toInt64 = 0) (v c : Int32) : MT YX9_offer 4 0 0 [.ref 120, .int v, .int c] 137 im (RR pl it) (some (.int (if inB v 0 9999 = false then (-1000000002) else if inB c 0 9999 = false then (-1000000002) else if icB im = false then (-1000000003) else omS im v c (lfM im (im 130 4)))), 137, im, RR pl it) := by
  obtain ⟨W, T, S, hW, hW8, hT, hT6, hS, hS5⟩ := id hm
  have htW : tn (im 122 0) = W := by rw [hW, tn_nI (by omega)]
  have htT : tn (im 122 1) = T := by rw [hT, tn_nI (by omega)]
  have htS : tn (im 122 2) = S := by rw [hS, tn_nI (by omega)]
  refine mt_of (by decide +kernel) (Nat.le_of_ble_eq_true rfl) ?_
  show WW _ _ _ _ _ _ _ 0 [(0, .ref 120), (1, .int v), (2, .int c)] [] _ _ _
  refine r_iload_n dX9_offer_0 rfl ?_
  refine r_iconst (v := 0) dX9_offer_1 (by decide) ?_
  refine r_sipush (v := 9999) dX9_offer_2 (by decide) ?_
  refine r_S3s cv_X9_63 dX9_offer_5 (m_in v 0 9999) ⟨by decide, by decide⟩ (Nat.le_of_ble_eq_true rfl) ⟨Nat.le_refl _, Nat.le_refl _⟩ ?_
  refine r_bz_eq (tgt := 22) dX9_offer_8 (by decide) (fun h8 => ?_) (fun h8 => ?_)
  · refine r_ldc dX9_offer_22 kn_X9_67 ?_
    exact r_iret dX9_offer_24 rfl (by simp only [eq_self, Bool.false_eq_true, Bool.true_eq_false, if_true, if_false, reduceIte, true_and, and_true, false_and, and_false, true_or, or_true, false_or, or_false, not_true_eq_false, not_false_eq_true, Bool.not_true, Bool.not_false, Bool.true_and, Bool.and_true, Bool.false_and, Bool.and_false, decide_true, decide_false, h8]) (Nat.le_refl _) (Nat.le_refl _)
  · refine r_iload_n dX9_offer_11 rfl ?_
    refine r_iconst (v := 0) dX9_offer_12 (by decide) ?_
    refine r_sipush (v := 9999) dX9_offer_13 (by decide) ?_
    refine r_S3s cv_X9_63 dX9_offer_16 (m_in c 0 9999) ⟨by decide, by decide⟩ (Nat.le_of_ble_eq_true rfl) ⟨Nat.le_refl _, Nat.le_refl _⟩ ?_
    refine r_bz_ne (tgt := 25) dX9_offer_19 (by decide) (fun h19 => ?_) (fun h19 => ?_)
    · refine r_aload_n dX9_offer_25 rfl ?_
      refine r_V0s cv_X9_164 dX9_offer_26 (m_isCastle hm) ⟨by decide, by decide⟩ kd_120 ln_120 cl_9 (Nat.le_of_ble_eq_true rfl) ⟨Nat.le_refl _, Nat.le_refl _⟩ ?_
      refine r_bz_eq (tgt := 51) dX9_offer_29 (by decide) (fun h29 => ?_) (fun h29 => ?_)
      · refine r_ldc dX9_offer_51 kn_X9_168 ?_
        exact r_iret dX9_offer_53 rfl (by simp only [eq_self, Bool.false_eq_true, Bool.true_eq_false, if_true, if_false, reduceIte, true_and, and_true, false_and, and_false, true_or, or_true, false_or, or_false, not_true_eq_false, not_false_eq_true, Bool.not_true, Bool.not_false, Bool.true_and, Bool.and_true, Bool.false_and, Bool.and_false, decide_true, decide_false, h8, h19, h29]) (Nat.le_refl _) (Nat.le_refl _)
      · refine r_aload_n dX9_offer_32 rfl ?_
        refine r_iload_n dX9_offer_33 rfl ?_
        refine r_iload_n dX9_offer_34 rfl ?_
        refine r_aload_n dX9_offer_35 rfl ?_
        refine r_aload_n dX9_offer_36 rfl ?_
        refine r_getr fl_X9_41 dX9_offer_37 kd_120 ln_120 rfl rfl ?_
        refine r_iconst (v := 4) dX9_offer_40 (by decide) ?_
        refine r_iald (j := 4) dX9_offer_41 kd_130 ln_130 (cI 4) (by omega) (by decide) ?_
        refine r_V1s cv_X9_140 dX9_offer_42 (m_leftBy hm (im 130 4)) ⟨by decide, by decide⟩ kd_120 ln_120 cl_9 (Nat.le_of_ble_eq_true rfl) ⟨Nat.le_refl _, Nat.le_refl _⟩ ?_
        refine r_V3s cv_X9_218 dX9_offer_45 (m_offerBy hm hlk (icB_pos hW hW8 h29) v c (lfM im (im 130 4))) ⟨by decide, by decide⟩ kd_120 ln_120 cl_9 (Nat.le_of_ble_eq_true rfl) ⟨Nat.le_refl _, Nat.le_refl _⟩ ?_
        refine r_goto (tgt := 53) dX9_offer_48 (by decide) ?_
        exact r_iret dX9_offer_53 rfl (by simp only [eq_self, Bool.false_eq_true, Bool.true_eq_false, if_true, if_false, reduceIte, true_and, and_true, false_and, and_false, true_or, or_true, false_or, or_false, not_true_eq_false, not_false_eq_true, Bool.not_true, Bool.not_false, Bool.true_and, Bool.and_true, Bool.false_and, Bool.and_false, decide_true, decide_false, h8, h19, h29]) (Nat.le_refl _) (Nat.le_refl _)
    · refine r_ldc dX9_offer_22 kn_X9_67 ?_
      exact r_iret dX9_offer_24 rfl (by simp only [eq_self, Bool.false_eq_true, Bool.true_eq_false, if_true, if_false, reduceIte, true_and, and_true, false_and, and_false, true_or, or_true, false_or, or_false, not_true_eq_false, not_false_eq_true, Bool.not_true, Bool.not_false, Bool.true_and, Bool.and_true, Bool.false_and, Bool.and_false, decide_true, decide_false, h8, h19]) (Nat.le_refl _) (Nat.le_refl _)

set_option maxRecDepth 100000 in
set_option maxHeartbeats 4000000 in
theorem m_both {im : IM} {pl it : Nat} (hm : MA im) (hlk : ∀ left j, j < tn (im 122 0) → hasB left (nI j) = true → ¬ (smF (im 123) left (tn (im 122 0))).toInt64 = 0) (v c x : Int32) : MT YX9_both 4 0 0 [.ref 120, .int v, .int c, .int x] 137 im (RR pl it) (some (.int (if inB v 0 9999 = false then (-1000000002) else if inB c 0 9999 = false then (-1000000002) else if inB x 0 9999 = false then (-1000000002) else if icB im = false then (-1000000003) else if omS im v c (lfM im (im 130 4)) ≤ x then 0 else (omS im v c (lfM im (im 130 4)) - x) / 2)), 137, im, RR pl it) := by
  obtain ⟨W, T, S, hW, hW8, hT, hT6, hS, hS5⟩ := id hm
  have htW : tn (im 122 0) = W := by rw [hW, tn_nI (by omega)]
  have htT : tn (im 122 1) = T := by rw [hT, tn_nI (by omega)]
  have htS : tn (im 122 2) = S := by rw [hS, tn_nI (by omega)]
  refine mt_of (by decide +kernel) (Nat.le_of_ble_eq_true rfl) ?_
  show WW _ _ _ _ _ _ _ 0 [(0, .ref 120), (1, .int v), (2, .int c), (3, .int x)] [] _ _ _
  refine r_iload_n dX9_both_0 rfl ?_
  refine r_iconst (v := 0) dX9_both_1 (by decide) ?_
  refine r_sipush (v := 9999) dX9_both_2 (by decide) ?_
  refine r_S3s cv_X9_63 dX9_both_5 (m_in v 0 9999) ⟨by decide, by decide⟩ (Nat.le_of_ble_eq_true rfl) ⟨Nat.le_refl _, Nat.le_refl _⟩ ?_
  refine r_bz_eq (tgt := 33) dX9_both_8 (by decide) (fun h8 => ?_) (fun h8 => ?_)
  · refine r_ldc dX9_both_33 kn_X9_67 ?_
    exact r_iret dX9_both_35 rfl (by simp only [eq_self, Bool.false_eq_true, Bool.true_eq_false, if_true, if_false, reduceIte, true_and, and_true, false_and, and_false, true_or, or_true, false_or, or_false, not_true_eq_false, not_false_eq_true, Bool.not_true, Bool.not_false, Bool.true_and, Bool.and_true, Bool.false_and, Bool.and_false, decide_true, decide_false, h8]) (Nat.le_refl _) (Nat.le_refl _)
  · refine r_iload_n dX9_both_11 rfl ?_
    refine r_iconst (v := 0) dX9_both_12 (by decide) ?_
    refine r_sipush (v := 9999) dX9_both_13 (by decide) ?_
    refine r_S3s cv_X9_63 dX9_both_16 (m_in c 0 9999) ⟨by decide, by decide⟩ (Nat.le_of_ble_eq_true rfl) ⟨Nat.le_refl _, Nat.le_refl _⟩ ?_
    refine r_bz_eq (tgt := 33) dX9_both_19 (by decide) (fun h19 => ?_) (fun h19 => ?_)
    · refine r_ldc dX9_both_33 kn_X9_67 ?_
      exact r_iret dX9_both_35 rfl (by simp only [eq_self, Bool.false_eq_true, Bool.true_eq_false, if_true, if_false, reduceIte, true_and, and_true, false_and, and_false, true_or, or_true, false_or, or_false, not_true_eq_false, not_false_eq_true, Bool.not_true, Bool.not_false, Bool.true_and, Bool.and_true, Bool.false_and, Bool.and_false, decide_true, decide_false, h8, h19]) (Nat.le_refl _) (Nat.le_refl _)
    · refine r_iload_n dX9_both_22 rfl ?_
      refine r_iconst (v := 0) dX9_both_23 (by decide) ?_
      refine r_sipush (v := 9999) dX9_both_24 (by decide) ?_
      refine r_S3s cv_X9_63 dX9_both_27 (m_in x 0 9999) ⟨by decide, by decide⟩ (Nat.le_of_ble_eq_true rfl) ⟨Nat.le_refl _, Nat.le_refl _⟩ ?_
      refine r_bz_ne (tgt := 36) dX9_both_30 (by decide) (fun h30 => ?_) (fun h30 => ?_)
      · refine r_aload_n dX9_both_36 rfl ?_
        refine r_V0s cv_X9_164 dX9_both_37 (m_isCastle hm) ⟨by decide, by decide⟩ kd_120 ln_120 cl_9 (Nat.le_of_ble_eq_true rfl) ⟨Nat.le_refl _, Nat.le_refl _⟩ ?_
        refine r_bz_ne (tgt := 46) dX9_both_40 (by decide) (fun h40 => ?_) (fun h40 => ?_)
        · refine r_aload_n dX9_both_46 rfl ?_
          refine r_iload_n dX9_both_47 rfl ?_
          refine r_iload_n dX9_both_48 rfl ?_
          refine r_aload_n dX9_both_49 rfl ?_
          refine r_aload_n dX9_both_50 rfl ?_
          refine r_getr fl_X9_41 dX9_both_51 kd_120 ln_120 rfl rfl ?_
          refine r_iconst (v := 4) dX9_both_54 (by decide) ?_
          refine r_iald (j := 4) dX9_both_55 kd_130 ln_130 (cI 4) (by omega) (by decide) ?_
          refine r_V1s cv_X9_140 dX9_both_56 (m_leftBy hm (im 130 4)) ⟨by decide, by decide⟩ kd_120 ln_120 cl_9 (Nat.le_of_ble_eq_true rfl) ⟨Nat.le_refl _, Nat.le_refl _⟩ ?_
          refine r_V3s cv_X9_218 dX9_both_59 (m_offerBy hm hlk (icB_pos hW hW8 h40) v c (lfM im (im 130 4))) ⟨by decide, by decide⟩ kd_120 ln_120 cl_9 (Nat.le_of_ble_eq_true rfl) ⟨Nat.le_refl _, Nat.le_refl _⟩ ?_
          refine r_istore dX9_both_62 (by decide) ?_
          refine r_iload dX9_both_64 rfl ?_
          refine r_iload_n dX9_both_66 rfl ?_
          refine r_icmp_le (tgt := 79) dX9_both_67 (by decide) (fun h67 => ?_) (fun h67 => ?_)
          · refine r_iconst (v := 0) dX9_both_79 (by decide) ?_
            exact r_iret dX9_both_80 rfl (by simp only [eq_self, Bool.false_eq_true, Bool.true_eq_false, if_true, if_false, reduceIte, true_and, and_true, false_and, and_false, true_or, or_true, false_or, or_false, not_true_eq_false, not_false_eq_true, Bool.not_true, Bool.not_false, Bool.true_and, Bool.and_true, Bool.false_and, Bool.and_false, decide_true, decide_false, h8, h19, h30, h40, h67]) (Nat.le_refl _) (Nat.le_refl _)
          · refine r_iload dX9_both_70 rfl ?_
            refine r_iload_n dX9_both_72 rfl ?_
            refine r_isub dX9_both_73 ?_
            refine r_iconst (v := 2) dX9_both_74 (by decide) ?_
            refine r_idiv dX9_both_75 (by decide) ?_
            refine r_goto (tgt := 80) dX9_both_76 (by decide) ?_
            exact r_iret dX9_both_80 rfl (by simp only [eq_self, Bool.false_eq_true, Bool.true_eq_false, if_true, if_false, reduceIte, true_and, and_true, false_and, and_false, true_or, or_true, false_or, or_false, not_true_eq_false, not_false_eq_true, Bool.not_true, Bool.not_false, Bool.true_and, Bool.and_true, Bool.false_and, Bool.and_false, decide_true, decide_false, h8, h19, h30, h40, h67]) (Nat.le_refl _) (Nat.le_refl _)
        · refine r_ldc dX9_both_43 kn_X9_168 ?_
          exact r_iret dX9_both_45 rfl (by simp only [eq_self, Bool.false_eq_true, Bool.true_eq_false, if_true, if_false, reduceIte, true_and, and_true, false_and, and_false, true_or, or_true, false_or, or_false, not_true_eq_false, not_false_eq_true, Bool.not_true, Bool.not_false, Bool.true_and, Bool.and_true, Bool.false_and, Bool.and_false, decide_true, decide_false, h8, h19, h30, h40]) (Nat.le_refl _) (Nat.le_refl _)
      · refine r_ldc dX9_both_33 kn_X9_67 ?_
        exact r_iret dX9_both_35 rfl (by simp only [eq_self, Bool.false_eq_true, Bool.true_eq_false, if_true, if_false, reduceIte, true_and, and_true, false_and, and_false, true_or, or_true, false_or, or_false, not_true_eq_false, not_false_eq_true, Bool.not_true, Bool.not_false, Bool.true_and, Bool.and_true, Bool.false_and, Bool.and_false, decide_true, decide_false, h8, h19, h30]) (Nat.le_refl _) (Nat.le_refl _)

set_option maxRecDepth 100000 in
set_option maxHeartbeats 4000000 in
theorem m_worth {im : IM} {pl it : Nat} (hm : MA im) (hlk : ∀ left j, j < tn (im 122 0) → hasB left (nI j) = true → ¬ (smF (im 123) left (tn (im 122 0))).toInt64 = 0) (htw : 0 < tn (im 122 1) → 0 < tn (im 122 0)) (x v : Int32) : MT YX9_worth 4 0 0 [.ref 120, .int x, .int v] 137 im (RR pl it) (some (.int (if inB x 0 (im 122 1 - 1) = false then (-1000000001) else if inB v 0 9999 = false then (-1000000002) else omS im v 0 (lfM im (im 130 4 ||| (1 <<< (x &&& 31)))) - omS im v 0 (lfM im (im 130 4)) - coM im (tn x) + 100000)), 137, im, RR pl it) := by
  obtain ⟨W, T, S, hW, hW8, hT, hT6, hS, hS5⟩ := id hm
  have htW : tn (im 122 0) = W := by rw [hW, tn_nI (by omega)]
  have htT : tn (im 122 1) = T := by rw [hT, tn_nI (by omega)]
  have htS : tn (im 122 2) = S := by rw [hS, tn_nI (by omega)]
  refine mt_of (by decide +kernel) (Nat.le_of_ble_eq_true rfl) ?_
  show WW _ _ _ _ _ _ _ 0 [(0, .ref 120), (1, .int x), (2, .int v)] [] _ _ _
  refine r_aload_n dX9_worth_0 rfl ?_
  refine r_iload_n dX9_worth_1 rfl ?_
  refine r_V1s cv_X9_154 dX9_worth_2 (m_isTest hm x) ⟨by decide, by decide⟩ kd_120 ln_120 cl_9 (Nat.le_of_ble_eq_true rfl) ⟨Nat.le_refl _, Nat.le_refl _⟩ ?_
  refine r_bz_ne (tgt := 11) dX9_worth_5 (by decide) (fun h5 => ?_) (fun h5 => ?_)
  · obtain ⟨jw, hjw, hj⟩ := inB_nat (W := T) (by rw [← hT]; exact h5) (by omega)
    have htt : tn x = jw := by rw [hj, tn_nI (by omega)]
    refine r_iload_n dX9_worth_11 rfl ?_
    refine r_iconst (v := 0) dX9_worth_12 (by decide) ?_
    refine r_sipush (v := 9999) dX9_worth_13 (by decide) ?_
    refine r_S3s cv_X9_63 dX9_worth_16 (m_in v 0 9999) ⟨by decide, by decide⟩ (Nat.le_of_ble_eq_true rfl) ⟨Nat.le_refl _, Nat.le_refl _⟩ ?_
    refine r_bz_ne (tgt := 25) dX9_worth_19 (by decide) (fun h19 => ?_) (fun h19 => ?_)
    · refine r_aload_n dX9_worth_25 rfl ?_
      refine r_iload_n dX9_worth_26 rfl ?_
      refine r_iconst (v := 0) dX9_worth_27 (by decide) ?_
      refine r_aload_n dX9_worth_28 rfl ?_
      refine r_aload_n dX9_worth_29 rfl ?_
      refine r_getr fl_X9_41 dX9_worth_30 kd_120 ln_120 rfl rfl ?_
      refine r_iconst (v := 4) dX9_worth_33 (by decide) ?_
      refine r_iald (j := 4) dX9_worth_34 kd_130 ln_130 (cI 4) (by omega) (by decide) ?_
      refine r_iconst (v := 1) dX9_worth_35 (by decide) ?_
      refine r_iload_n dX9_worth_36 rfl ?_
      refine r_ishl dX9_worth_37 ?_
      refine r_ior dX9_worth_38 ?_
      refine r_V1s cv_X9_140 dX9_worth_39 (m_leftBy hm ((im 130 4) ||| (1 <<< (x &&& 31)))) ⟨by decide, by decide⟩ kd_120 ln_120 cl_9 (Nat.le_of_ble_eq_true rfl) ⟨Nat.le_refl _, Nat.le_refl _⟩ ?_
      refine r_V3s cv_X9_218 dX9_worth_42 (m_offerBy hm hlk (htw (by omega)) v 0 (lfM im ((im 130 4) ||| (1 <<< (x &&& 31))))) ⟨by decide, by decide⟩ kd_120 ln_120 cl_9 (Nat.le_of_ble_eq_true rfl) ⟨Nat.le_refl _, Nat.le_refl _⟩ ?_
      refine r_aload_n dX9_worth_45 rfl ?_
      refine r_iload_n dX9_worth_46 rfl ?_
      refine r_iconst (v := 0) dX9_worth_47 (by decide) ?_
      refine r_aload_n dX9_worth_48 rfl ?_
      refine r_aload_n dX9_worth_49 rfl ?_
      refine r_getr fl_X9_41 dX9_worth_50 kd_120 ln_120 rfl rfl ?_
      refine r_iconst (v := 4) dX9_worth_53 (by decide) ?_
      refine r_iald (j := 4) dX9_worth_54 kd_130 ln_130 (cI 4) (by omega) (by decide) ?_
      refine r_V1s cv_X9_140 dX9_worth_55 (m_leftBy hm (im 130 4)) ⟨by decide, by decide⟩ kd_120 ln_120 cl_9 (Nat.le_of_ble_eq_true rfl) ⟨Nat.le_refl _, Nat.le_refl _⟩ ?_
      refine r_V3s cv_X9_218 dX9_worth_58 (m_offerBy hm hlk (htw (by omega)) v 0 (lfM im (im 130 4))) ⟨by decide, by decide⟩ kd_120 ln_120 cl_9 (Nat.le_of_ble_eq_true rfl) ⟨Nat.le_refl _, Nat.le_refl _⟩ ?_
      refine r_isub dX9_worth_61 ?_
      refine r_aload_n dX9_worth_62 rfl ?_
      refine r_getr fl_X9_23 dX9_worth_63 kd_120 ln_120 rfl rfl ?_
      refine r_iconst (v := 3) dX9_worth_66 (by decide) ?_
      refine r_iload_n dX9_worth_67 rfl ?_
      refine r_imul dX9_worth_68 ?_
      refine r_iconst (v := 2) dX9_worth_69 (by decide) ?_
      refine r_iadd dX9_worth_70 ?_
      refine r_iald (j := (3 * jw) + 2) dX9_worth_71 kd_124 ln_124 (ix_add (ix_mul (cI 3) hj) (cI 2)) (by omega) (by decide) ?_
      refine r_isub dX9_worth_72 ?_
      refine r_ldc dX9_worth_73 kn_X9_222 ?_
      refine r_iadd dX9_worth_75 ?_
      exact r_iret dX9_worth_76 rfl (by simp only [eq_self, Bool.false_eq_true, Bool.true_eq_false, if_true, if_false, reduceIte, h5, h19, htt, coM]) (Nat.le_refl _) (Nat.le_refl _)
    · refine r_ldc dX9_worth_22 kn_X9_67 ?_
      exact r_iret dX9_worth_24 rfl (by simp only [eq_self, Bool.false_eq_true, Bool.true_eq_false, if_true, if_false, reduceIte, h5, h19, htt, coM]) (Nat.le_refl _) (Nat.le_refl _)
  · refine r_ldc dX9_worth_8 kn_X9_153 ?_
    exact r_iret dX9_worth_10 rfl (by simp only [eq_self, Bool.false_eq_true, Bool.true_eq_false, if_true, if_false, reduceIte, h5]) (Nat.le_refl _) (Nat.le_refl _)

set_option maxRecDepth 100000 in
set_option maxHeartbeats 4000000 in
theorem m_liars {im : IM} {pl it : Nat} (hm : MA im) (x : Int32) : MT YX9_liars 2 0 0 [.ref 120, .int x] 137 im (RR pl it) (some (.int (if inB x 0 (im 122 0 - 1) = true then lrM im x else (-1000000001))), 137, im, RR pl it) := by
  obtain ⟨W, T, S, hW, hW8, hT, hT6, hS, hS5⟩ := id hm
  have htW : tn (im 122 0) = W := by rw [hW, tn_nI (by omega)]
  have htT : tn (im 122 1) = T := by rw [hT, tn_nI (by omega)]
  have htS : tn (im 122 2) = S := by rw [hS, tn_nI (by omega)]
  refine mt_of (by decide +kernel) (Nat.le_of_ble_eq_true rfl) ?_
  show WW _ _ _ _ _ _ _ 0 [(0, .ref 120), (1, .int x)] [] _ _ _
  refine r_aload_n dX9_liars_0 rfl ?_
  refine r_iload_n dX9_liars_1 rfl ?_
  refine r_V1s cv_X9_149 dX9_liars_2 (m_isWay hm x) ⟨by decide, by decide⟩ kd_120 ln_120 cl_9 (Nat.le_of_ble_eq_true rfl) ⟨Nat.le_refl _, Nat.le_refl _⟩ ?_
  refine r_bz_eq (tgt := 16) dX9_liars_5 (by decide) (fun h5 => ?_) (fun h5 => ?_)
  · refine r_ldc dX9_liars_16 kn_X9_153 ?_
    exact r_iret dX9_liars_18 rfl (by simp only [eq_self, Bool.false_eq_true, Bool.true_eq_false, if_true, if_false, reduceIte, true_and, and_true, false_and, and_false, true_or, or_true, false_or, or_false, not_true_eq_false, not_false_eq_true, Bool.not_true, Bool.not_false, Bool.true_and, Bool.and_true, Bool.false_and, Bool.and_false, decide_true, decide_false, h5]) (Nat.le_refl _) (Nat.le_refl _)
  · refine r_aload_n dX9_liars_8 rfl ?_
    refine r_iload_n dX9_liars_9 rfl ?_
    refine r_V1s cv_X9_209 dX9_liars_10 (m_liarsBy hm x) ⟨by decide, by decide⟩ kd_120 ln_120 cl_9 (Nat.le_of_ble_eq_true rfl) ⟨Nat.le_refl _, Nat.le_refl _⟩ ?_
    refine r_goto (tgt := 18) dX9_liars_13 (by decide) ?_
    exact r_iret dX9_liars_18 rfl (by simp only [eq_self, Bool.false_eq_true, Bool.true_eq_false, if_true, if_false, reduceIte, true_and, and_true, false_and, and_false, true_or, or_true, false_or, or_false, not_true_eq_false, not_false_eq_true, Bool.not_true, Bool.not_false, Bool.true_and, Bool.and_true, Bool.false_and, Bool.and_false, decide_true, decide_false, h5]) (Nat.le_refl _) (Nat.le_refl _)

set_option maxRecDepth 100000 in
set_option maxHeartbeats 4000000 in
theorem m_leastLiars {im : IM} {pl it : Nat} (hm : MA im) (x : Int32) : MT YX9_leastLiars 2 0 0 [.ref 120, .int x] 137 im (RR pl it) (some (.int (if inB x 0 1 = true then (if icB im = true then (if x = 0 then llM im else onF (lrM im (llM im)) 30) else (-1000000003)) else (-1000000002))), 137, im, RR pl it) := by
  obtain ⟨W, T, S, hW, hW8, hT, hT6, hS, hS5⟩ := id hm
  have htW : tn (im 122 0) = W := by rw [hW, tn_nI (by omega)]
  have htT : tn (im 122 1) = T := by rw [hT, tn_nI (by omega)]
  have htS : tn (im 122 2) = S := by rw [hS, tn_nI (by omega)]
  refine mt_of (by decide +kernel) (Nat.le_of_ble_eq_true rfl) ?_
  show WW _ _ _ _ _ _ _ 0 [(0, .ref 120), (1, .int x)] [] _ _ _
  refine r_iload_n dX9_leastLiars_0 rfl ?_
  refine r_iconst (v := 0) dX9_leastLiars_1 (by decide) ?_
  refine r_iconst (v := 1) dX9_leastLiars_2 (by decide) ?_
  refine r_S3s cv_X9_63 dX9_leastLiars_3 (m_in x 0 1) ⟨by decide, by decide⟩ (Nat.le_of_ble_eq_true rfl) ⟨Nat.le_refl _, Nat.le_refl _⟩ ?_
  refine r_bz_ne (tgt := 12) dX9_leastLiars_6 (by decide) (fun h6 => ?_) (fun h6 => ?_)
  · refine r_aload_n dX9_leastLiars_12 rfl ?_
    refine r_V0s cv_X9_164 dX9_leastLiars_13 (m_isCastle hm) ⟨by decide, by decide⟩ kd_120 ln_120 cl_9 (Nat.le_of_ble_eq_true rfl) ⟨Nat.le_refl _, Nat.le_refl _⟩ ?_
    refine r_bz_ne (tgt := 22) dX9_leastLiars_16 (by decide) (fun h16 => ?_) (fun h16 => ?_)
    · have hWp : 0 < tn (im 122 0) := icB_pos hW hW8 h16
      rw [htW] at hWp
      refine r_aload_n dX9_leastLiars_22 rfl ?_
      refine r_aload_n dX9_leastLiars_23 rfl ?_
      refine r_getr fl_X9_41 dX9_leastLiars_24 kd_120 ln_120 rfl rfl ?_
      refine r_iconst (v := 4) dX9_leastLiars_27 (by decide) ?_
      refine r_iald (j := 4) dX9_leastLiars_28 kd_130 ln_130 (cI 4) (by omega) (by decide) ?_
      refine r_V1s cv_X9_140 dX9_leastLiars_29 (m_leftBy hm (im 130 4)) ⟨by decide, by decide⟩ kd_120 ln_120 cl_9 (Nat.le_of_ble_eq_true rfl) ⟨Nat.le_refl _, Nat.le_refl _⟩ ?_
      refine r_istore_n dX9_leastLiars_32 (by decide) ?_
      refine r_iconst (v := 0) dX9_leastLiars_33 (by decide) ?_
      refine r_istore_n dX9_leastLiars_34 (by decide) ?_
      refine r_iconst (v := 1) dX9_leastLiars_35 (by decide) ?_
      refine r_istore dX9_leastLiars_36 (by decide) ?_
      refine r_lv (lv' := [(0, .ref 120), (1, .int x), (2, .int (lfM im (im 130 4))), (3, .int (llF (lfM im (im 130 4)) (fun w => onF (lrM im w) 30) 0)), (4, .int (nI (0 + 1)))]) (al_cons rfl (al_cons rfl (al_cons rfl (al_int rfl rfl (al_int rfl (ix_eq (cI 1) rfl (by omega)) al_nil))))) ?_
      refine WW.loop (fun t => [(0, .ref 120), (1, .int x), (2, .int (lfM im (im 130 4))), (3, .int (llF (lfM im (im 130 4)) (fun w => onF (lrM im w) 30) t)), (4, .int (nI (t + 1)))]) (fun _ => im) (N := W - 1) ?_ ?_ 0 (Nat.zero_le _)
      · show WW _ _ _ _ _ _ _ 38 [(0, .ref 120), (1, .int x), (2, .int (lfM im (im 130 4))), (3, .int (llF (lfM im (im 130 4)) (fun w => onF (lrM im w) 30) (W - 1))), (4, .int (nI ((W - 1) + 1)))] _ _ _ _
        refine r_iload dX9_leastLiars_38 rfl ?_
        refine r_aload_n dX9_leastLiars_40 rfl ?_
        refine r_getr fl_X9_17 dX9_leastLiars_41 kd_120 ln_120 rfl rfl ?_
        refine r_iconst (v := 0) dX9_leastLiars_44 (by decide) ?_
        refine r_iald (j := 0) dX9_leastLiars_45 kd_122 ln_122 (cI 0) (by omega) (by decide) ?_
        refine r_icmp_ge_t (tgt := 91) dX9_leastLiars_46 (by decide) (ix_le hW rfl (by omega) (by omega)) ?_
        refine r_iload_n dX9_leastLiars_91 rfl ?_
        refine r_if_ne (tgt := 99) dX9_leastLiars_92 (by decide) (fun h92 => ?_) (fun h92 => ?_)
        · refine r_aload_n dX9_leastLiars_99 rfl ?_
          refine r_iload_n dX9_leastLiars_100 rfl ?_
          refine r_V1s cv_X9_209 dX9_leastLiars_101 (m_liarsBy hm (llF (lfM im (im 130 4)) (fun w => onF (lrM im w) 30) (W - 1))) ⟨by decide, by decide⟩ kd_120 ln_120 cl_9 (Nat.le_of_ble_eq_true rfl) ⟨Nat.le_refl _, Nat.le_refl _⟩ ?_
          refine r_S1s cv_X9_212 dX9_leastLiars_104 (m_ones (lrM im (llF (lfM im (im 130 4)) (fun w => onF (lrM im w) 30) (W - 1)))) ⟨by decide, by decide⟩ (Nat.le_of_ble_eq_true rfl) ⟨Nat.le_refl _, Nat.le_refl _⟩ ?_
          exact r_iret dX9_leastLiars_107 rfl (by simp only [llM, eq_self, Bool.false_eq_true, Bool.true_eq_false, if_true, if_false, reduceIte, h6, h16, h92, htW]) (Nat.le_refl _) (Nat.le_refl _)
        · refine r_iload_n dX9_leastLiars_95 rfl ?_
          refine r_goto (tgt := 107) dX9_leastLiars_96 (by decide) ?_
          exact r_iret dX9_leastLiars_107 rfl (by simp only [llM, eq_self, Bool.false_eq_true, Bool.true_eq_false, if_true, if_false, reduceIte, h6, h16, eq_true h92, htW]) (Nat.le_refl _) (Nat.le_refl _)
      · intro t ht iht
        show WW _ _ _ _ _ _ _ 38 [(0, .ref 120), (1, .int x), (2, .int (lfM im (im 130 4))), (3, .int (llF (lfM im (im 130 4)) (fun w => onF (lrM im w) 30) t)), (4, .int (nI (t + 1)))] _ _ _ _
        refine r_iload dX9_leastLiars_38 rfl ?_
        refine r_aload_n dX9_leastLiars_40 rfl ?_
        refine r_getr fl_X9_17 dX9_leastLiars_41 kd_120 ln_120 rfl rfl ?_
        refine r_iconst (v := 0) dX9_leastLiars_44 (by decide) ?_
        refine r_iald (j := 0) dX9_leastLiars_45 kd_122 ln_122 (cI 0) (by omega) (by decide) ?_
        refine r_icmp_ge_f (tgt := 91) dX9_leastLiars_46 (by decide) (ix_nle hW rfl (by omega) (by omega)) ?_
        refine r_iload_n dX9_leastLiars_49 rfl ?_
        refine r_iload dX9_leastLiars_50 rfl ?_
        refine r_S2s cv_X9_135 dX9_leastLiars_52 (m_has (lfM im (im 130 4)) (nI (t + 1))) ⟨by decide, by decide⟩ (Nat.le_of_ble_eq_true rfl) ⟨Nat.le_refl _, Nat.le_refl _⟩ ?_
        refine r_bz_eq (tgt := 83) dX9_leastLiars_55 (by decide) (fun h55 => ?_) (fun h55 => ?_)
        · refine r_iload_n dX9_leastLiars_83 rfl ?_
          refine r_istore_n dX9_leastLiars_84 (by decide) ?_
          refine r_iinc dX9_leastLiars_85 rfl (by decide) (ix_inc rfl) ?_
          refine r_goto (tgt := 38) dX9_leastLiars_88 (by decide) ?_
          refine r_lv (lv' := [(0, .ref 120), (1, .int x), (2, .int (lfM im (im 130 4))), (3, .int (llF (lfM im (im 130 4)) (fun w => onF (lrM im w) 30) (t + 1))), (4, .int (nI ((t + 1) + 1)))]) (al_cons rfl (al_cons rfl (al_cons rfl (al_int rfl (by simp only [llF, eq_self, Bool.false_eq_true, Bool.true_eq_false, if_true, if_false, reduceIte, true_and, and_true, false_and, and_false, true_or, or_true, false_or, or_false, not_true_eq_false, not_false_eq_true, Bool.not_true, Bool.not_false, Bool.true_and, Bool.and_true, Bool.false_and, Bool.and_false, decide_true, decide_false, h6, h16, h55]) (al_cons rfl al_nil))))) ?_
          exact iht
        · refine r_aload_n dX9_leastLiars_58 rfl ?_
          refine r_iload dX9_leastLiars_59 rfl ?_
          refine r_V1s cv_X9_209 dX9_leastLiars_61 (m_liarsBy hm (nI (t + 1))) ⟨by decide, by decide⟩ kd_120 ln_120 cl_9 (Nat.le_of_ble_eq_true rfl) ⟨Nat.le_refl _, Nat.le_refl _⟩ ?_
          refine r_S1s cv_X9_212 dX9_leastLiars_64 (m_ones (lrM im (nI (t + 1)))) ⟨by decide, by decide⟩ (Nat.le_of_ble_eq_true rfl) ⟨Nat.le_refl _, Nat.le_refl _⟩ ?_
          refine r_aload_n dX9_leastLiars_67 rfl ?_
          refine r_iload_n dX9_leastLiars_68 rfl ?_
          refine r_V1s cv_X9_209 dX9_leastLiars_69 (m_liarsBy hm (llF (lfM im (im 130 4)) (fun w => onF (lrM im w) 30) t)) ⟨by decide, by decide⟩ kd_120 ln_120 cl_9 (Nat.le_of_ble_eq_true rfl) ⟨Nat.le_refl _, Nat.le_refl _⟩ ?_
          refine r_S1s cv_X9_212 dX9_leastLiars_72 (m_ones (lrM im (llF (lfM im (im 130 4)) (fun w => onF (lrM im w) 30) t))) ⟨by decide, by decide⟩ (Nat.le_of_ble_eq_true rfl) ⟨Nat.le_refl _, Nat.le_refl _⟩ ?_
          refine r_icmp_ge (tgt := 83) dX9_leastLiars_75 (by decide) (fun h75 => ?_) (fun h75 => ?_)
          · refine r_iload_n dX9_leastLiars_83 rfl ?_
            refine r_istore_n dX9_leastLiars_84 (by decide) ?_
            refine r_iinc dX9_leastLiars_85 rfl (by decide) (ix_inc rfl) ?_
            refine r_goto (tgt := 38) dX9_leastLiars_88 (by decide) ?_
            refine r_lv (lv' := [(0, .ref 120), (1, .int x), (2, .int (lfM im (im 130 4))), (3, .int (llF (lfM im (im 130 4)) (fun w => onF (lrM im w) 30) (t + 1))), (4, .int (nI ((t + 1) + 1)))]) (al_cons rfl (al_cons rfl (al_cons rfl (al_int rfl (by simp only [llF, eq_self, Bool.false_eq_true, Bool.true_eq_false, if_true, if_false, reduceIte, true_and, and_true, false_and, and_false, true_or, or_true, false_or, or_false, not_true_eq_false, not_false_eq_true, Bool.not_true, Bool.not_false, Bool.true_and, Bool.and_true, Bool.false_and, Bool.and_false, decide_true, decide_false, h6, h16, h55, h75]) (al_cons rfl al_nil))))) ?_
            exact iht
          · refine r_iload dX9_leastLiars_78 rfl ?_
            refine r_goto (tgt := 84) dX9_leastLiars_80 (by decide) ?_
            refine r_istore_n dX9_leastLiars_84 (by decide) ?_
            refine r_iinc dX9_leastLiars_85 rfl (by decide) (ix_inc rfl) ?_
            refine r_goto (tgt := 38) dX9_leastLiars_88 (by decide) ?_
            refine r_lv (lv' := [(0, .ref 120), (1, .int x), (2, .int (lfM im (im 130 4))), (3, .int (llF (lfM im (im 130 4)) (fun w => onF (lrM im w) 30) (t + 1))), (4, .int (nI ((t + 1) + 1)))]) (al_cons rfl (al_cons rfl (al_cons rfl (al_int rfl (by simp only [llF, eq_self, Bool.false_eq_true, Bool.true_eq_false, if_true, if_false, reduceIte, true_and, and_true, false_and, and_false, true_or, or_true, false_or, or_false, not_true_eq_false, not_false_eq_true, Bool.not_true, Bool.not_false, Bool.true_and, Bool.and_true, Bool.false_and, Bool.and_false, decide_true, decide_false, h6, h16, h55, h75]) (al_cons rfl al_nil))))) ?_
            exact iht
    · refine r_ldc dX9_leastLiars_19 kn_X9_168 ?_
      exact r_iret dX9_leastLiars_21 rfl (by simp only [llM, eq_self, Bool.false_eq_true, Bool.true_eq_false, if_true, if_false, reduceIte, h6, h16]) (Nat.le_refl _) (Nat.le_refl _)
  · refine r_ldc dX9_leastLiars_9 kn_X9_67 ?_
    exact r_iret dX9_leastLiars_11 rfl (by simp only [llM, eq_self, Bool.false_eq_true, Bool.true_eq_false, if_true, if_false, reduceIte, h6]) (Nat.le_refl _) (Nat.le_refl _)

set_option maxRecDepth 100000 in
set_option maxHeartbeats 4000000 in
theorem m_ruleOut {im : IM} {pl it : Nat} (hm : MA im) (a b x : Int32) : MT YX9_ruleOut 2 0 0 [.ref 120, .int a, .int b, .int x] 137 im (RR pl it) (some (.int (rqM im a b x)), 137, im, RR pl it) := by
  obtain ⟨W, T, S, hW, hW8, hT, hT6, hS, hS5⟩ := id hm
  have htW : tn (im 122 0) = W := by rw [hW, tn_nI (by omega)]
  have htT : tn (im 122 1) = T := by rw [hT, tn_nI (by omega)]
  have htS : tn (im 122 2) = S := by rw [hS, tn_nI (by omega)]
  have hsh : (1 : Int32) <<< (im 122 1 &&& 31) = nI (2 ^ T) := by rw [hT]; exact shl_nI T (by omega)
  have hpw : 2 ^ T ≤ 64 := Nat.pow_le_pow_right (n := 2) (by omega) hT6
  refine mt_of (by decide +kernel) (Nat.le_of_ble_eq_true rfl) ?_
  show WW _ _ _ _ _ _ _ 0 [(0, .ref 120), (1, .int a), (2, .int b), (3, .int x)] [] _ _ _
  refine r_aload_n dX9_ruleOut_0 rfl ?_
  refine r_iload_n dX9_ruleOut_1 rfl ?_
  refine r_V1s cv_X9_185 dX9_ruleOut_2 (m_areWays hm a) ⟨by decide, by decide⟩ kd_120 ln_120 cl_9 (Nat.le_of_ble_eq_true rfl) ⟨Nat.le_refl _, Nat.le_refl _⟩ ?_
  refine r_bz_eq (tgt := 26) dX9_ruleOut_5 (by decide) (fun h5 => ?_) (fun h5 => ?_)
  · refine r_ldc dX9_ruleOut_26 kn_X9_153 ?_
    exact r_iret dX9_ruleOut_28 rfl (by simp only [rqM, rxM, eq_self, Bool.false_eq_true, Bool.true_eq_false, if_true, if_false, reduceIte, h5]) (Nat.le_refl _) (Nat.le_refl _)
  · refine r_iload_n dX9_ruleOut_8 rfl ?_
    refine r_iconst (v := 0) dX9_ruleOut_9 (by decide) ?_
    refine r_S2s cv_X9_135 dX9_ruleOut_10 (m_has a 0) ⟨by decide, by decide⟩ (Nat.le_of_ble_eq_true rfl) ⟨Nat.le_refl _, Nat.le_refl _⟩ ?_
    refine r_bz_ne (tgt := 26) dX9_ruleOut_13 (by decide) (fun h13 => ?_) (fun h13 => ?_)
    · refine r_ldc dX9_ruleOut_26 kn_X9_153 ?_
      exact r_iret dX9_ruleOut_28 rfl (by simp only [rqM, rxM, eq_self, Bool.false_eq_true, Bool.true_eq_false, if_true, if_false, reduceIte, h5, h13]) (Nat.le_refl _) (Nat.le_refl _)
    · refine r_iload_n dX9_ruleOut_16 rfl ?_
      refine r_iconst (v := 0) dX9_ruleOut_17 (by decide) ?_
      refine r_bipush (v := 63) dX9_ruleOut_18 (by decide) ?_
      refine r_S3s cv_X9_63 dX9_ruleOut_20 (m_in b 0 63) ⟨by decide, by decide⟩ (Nat.le_of_ble_eq_true rfl) ⟨Nat.le_refl _, Nat.le_refl _⟩ ?_
      refine r_bz_ne (tgt := 29) dX9_ruleOut_23 (by decide) (fun h23 => ?_) (fun h23 => ?_)
      · refine r_iload_n dX9_ruleOut_29 rfl ?_
        refine r_iconst (v := 0) dX9_ruleOut_30 (by decide) ?_
        refine r_iconst (v := 1) dX9_ruleOut_31 (by decide) ?_
        refine r_S3s cv_X9_63 dX9_ruleOut_32 (m_in x 0 1) ⟨by decide, by decide⟩ (Nat.le_of_ble_eq_true rfl) ⟨Nat.le_refl _, Nat.le_refl _⟩ ?_
        refine r_bz_ne (tgt := 41) dX9_ruleOut_35 (by decide) (fun h35 => ?_) (fun h35 => ?_)
        · refine r_iconst (v := (-1)) dX9_ruleOut_41 (by decide) ?_
          refine r_istore dX9_ruleOut_42 (by decide) ?_
          refine r_iconst (v := 0) dX9_ruleOut_44 (by decide) ?_
          refine r_istore dX9_ruleOut_45 (by decide) ?_
          refine r_lv (lv' := [(0, .ref 120), (1, .int a), (2, .int b), (3, .int x), (4, .int (roF (fun s => lfM im s) (fun s => swM im s) (fun s => csM im s) a b 0)), (5, .int (nI 0))]) (al_cons rfl (al_cons rfl (al_cons rfl (al_cons rfl (al_int rfl rfl (al_int rfl (by exact (cI 0)) al_nil)))))) ?_
          refine WW.loop (fun t => [(0, .ref 120), (1, .int a), (2, .int b), (3, .int x), (4, .int (roF (fun s => lfM im s) (fun s => swM im s) (fun s => csM im s) a b t)), (5, .int (nI t))]) (fun _ => im) (N := 2 ^ T) ?_ ?_ 0 (Nat.zero_le _)
          · show WW _ _ _ _ _ _ _ 47 [(0, .ref 120), (1, .int a), (2, .int b), (3, .int x), (4, .int (roF (fun s => lfM im s) (fun s => swM im s) (fun s => csM im s) a b (2 ^ T))), (5, .int (nI (2 ^ T)))] _ _ _ _
            refine r_iload dX9_ruleOut_47 rfl ?_
            refine r_iconst (v := 1) dX9_ruleOut_49 (by decide) ?_
            refine r_aload_n dX9_ruleOut_50 rfl ?_
            refine r_getr fl_X9_17 dX9_ruleOut_51 kd_120 ln_120 rfl rfl ?_
            refine r_iconst (v := 1) dX9_ruleOut_54 (by decide) ?_
            refine r_iald (j := 1) dX9_ruleOut_55 kd_122 ln_122 (cI 1) (by omega) (by decide) ?_
            refine r_ishl dX9_ruleOut_56 ?_
            refine r_icmp_ge_t (tgt := 132) dX9_ruleOut_57 (by decide) (ix_le hsh rfl (Nat.le_refl _) (by omega)) ?_
            refine r_iload dX9_ruleOut_132 rfl ?_
            refine r_iconst (v := (-1)) dX9_ruleOut_134 (by decide) ?_
            refine r_icmp_eq (tgt := 142) dX9_ruleOut_135 (by decide) (fun h135 => ?_) (fun h135 => ?_)
            · refine r_iload dX9_ruleOut_142 rfl ?_
              refine r_goto (tgt := 153) dX9_ruleOut_144 (by decide) ?_
              exact r_iret dX9_ruleOut_153 rfl (by simp only [rqM, rxM, eq_self, Bool.false_eq_true, Bool.true_eq_false, if_true, if_false, reduceIte, h5, h13, h23, h35, eq_true h135, htT]) (Nat.le_refl _) (Nat.le_refl _)
            · refine r_iload_n dX9_ruleOut_138 rfl ?_
              refine r_if_ne (tgt := 147) dX9_ruleOut_139 (by decide) (fun h139 => ?_) (fun h139 => ?_)
              · refine r_aload_n dX9_ruleOut_147 rfl ?_
                refine r_iload dX9_ruleOut_148 rfl ?_
                refine r_V1s cv_X9_215 dX9_ruleOut_150 (m_costOf hm (roF (fun s => lfM im s) (fun s => swM im s) (fun s => csM im s) a b (2 ^ T))) ⟨by decide, by decide⟩ kd_120 ln_120 cl_9 (Nat.le_of_ble_eq_true rfl) ⟨Nat.le_refl _, Nat.le_refl _⟩ ?_
                exact r_iret dX9_ruleOut_153 rfl (by simp only [rqM, rxM, eq_self, Bool.false_eq_true, Bool.true_eq_false, if_true, if_false, reduceIte, h5, h13, h23, h35, h135, h139, htT]) (Nat.le_refl _) (Nat.le_refl _)
              · refine r_iload dX9_ruleOut_142 rfl ?_
                refine r_goto (tgt := 153) dX9_ruleOut_144 (by decide) ?_
                exact r_iret dX9_ruleOut_153 rfl (by simp only [rqM, rxM, eq_self, Bool.false_eq_true, Bool.true_eq_false, if_true, if_false, reduceIte, h5, h13, h23, h35, h135, eq_true h139, htT]) (Nat.le_refl _) (Nat.le_refl _)
          · intro t ht iht
            show WW _ _ _ _ _ _ _ 47 [(0, .ref 120), (1, .int a), (2, .int b), (3, .int x), (4, .int (roF (fun s => lfM im s) (fun s => swM im s) (fun s => csM im s) a b t)), (5, .int (nI t))] _ _ _ _
            refine r_iload dX9_ruleOut_47 rfl ?_
            refine r_iconst (v := 1) dX9_ruleOut_49 (by decide) ?_
            refine r_aload_n dX9_ruleOut_50 rfl ?_
            refine r_getr fl_X9_17 dX9_ruleOut_51 kd_120 ln_120 rfl rfl ?_
            refine r_iconst (v := 1) dX9_ruleOut_54 (by decide) ?_
            refine r_iald (j := 1) dX9_ruleOut_55 kd_122 ln_122 (cI 1) (by omega) (by decide) ?_
            refine r_ishl dX9_ruleOut_56 ?_
            refine r_icmp_ge_f (tgt := 132) dX9_ruleOut_57 (by decide) (ix_nle hsh rfl ht (by omega)) ?_
            refine r_aload_n dX9_ruleOut_60 rfl ?_
            refine r_iload dX9_ruleOut_61 rfl ?_
            refine r_V1s cv_X9_140 dX9_ruleOut_63 (m_leftBy hm (nI t)) ⟨by decide, by decide⟩ kd_120 ln_120 cl_9 (Nat.le_of_ble_eq_true rfl) ⟨Nat.le_refl _, Nat.le_refl _⟩ ?_
            refine r_iload_n dX9_ruleOut_66 rfl ?_
            refine r_iand dX9_ruleOut_67 ?_
            refine r_if_ne (tgt := 88) dX9_ruleOut_68 (by decide) (fun h68 => ?_) (fun h68 => ?_)
            · refine r_iconst (v := 0) dX9_ruleOut_88 (by decide) ?_
              refine r_istore dX9_ruleOut_89 (by decide) ?_
              refine r_iload dX9_ruleOut_91 rfl ?_
              refine r_if_eq_t (tgt := 122) dX9_ruleOut_93 (by decide) (by decide) ?_
              refine r_iload dX9_ruleOut_122 rfl ?_
              refine r_istore dX9_ruleOut_124 (by decide) ?_
              refine r_iinc dX9_ruleOut_126 rfl (by decide) (ix_inc rfl) ?_
              refine r_goto (tgt := 47) dX9_ruleOut_129 (by decide) ?_
              refine r_lv (lv' := [(0, .ref 120), (1, .int a), (2, .int b), (3, .int x), (4, .int (roF (fun s => lfM im s) (fun s => swM im s) (fun s => csM im s) a b (t + 1))), (5, .int (nI (t + 1)))]) (al_cons rfl (al_cons rfl (al_cons rfl (al_cons rfl (al_int rfl (by simp only [roF, eq_self, Bool.false_eq_true, Bool.true_eq_false, if_true, if_false, reduceIte, true_and, and_true, false_and, and_false, true_or, or_true, false_or, or_false, not_true_eq_false, not_false_eq_true, Bool.not_true, Bool.not_false, Bool.true_and, Bool.and_true, Bool.false_and, Bool.and_false, decide_true, decide_false, h5, h13, h23, h35, h68]) (al_cons rfl al_nil)))))) ?_
              exact iht
            · refine r_aload_n dX9_ruleOut_71 rfl ?_
              refine r_iload dX9_ruleOut_72 rfl ?_
              refine r_V1s cv_X9_143 dX9_ruleOut_74 (m_shownBy hm (nI t)) ⟨by decide, by decide⟩ kd_120 ln_120 cl_9 (Nat.le_of_ble_eq_true rfl) ⟨Nat.le_refl _, Nat.le_refl _⟩ ?_
              refine r_iload_n dX9_ruleOut_77 rfl ?_
              refine r_iconst (v := (-1)) dX9_ruleOut_78 (by decide) ?_
              refine r_ixor dX9_ruleOut_79 ?_
              refine r_iand dX9_ruleOut_80 ?_
              refine r_if_ne (tgt := 88) dX9_ruleOut_81 (by decide) (fun h81 => ?_) (fun h81 => ?_)
              · refine r_iconst (v := 0) dX9_ruleOut_88 (by decide) ?_
                refine r_istore dX9_ruleOut_89 (by decide) ?_
                refine r_iload dX9_ruleOut_91 rfl ?_
                refine r_if_eq_t (tgt := 122) dX9_ruleOut_93 (by decide) (by decide) ?_
                refine r_iload dX9_ruleOut_122 rfl ?_
                refine r_istore dX9_ruleOut_124 (by decide) ?_
                refine r_iinc dX9_ruleOut_126 rfl (by decide) (ix_inc rfl) ?_
                refine r_goto (tgt := 47) dX9_ruleOut_129 (by decide) ?_
                refine r_lv (lv' := [(0, .ref 120), (1, .int a), (2, .int b), (3, .int x), (4, .int (roF (fun s => lfM im s) (fun s => swM im s) (fun s => csM im s) a b (t + 1))), (5, .int (nI (t + 1)))]) (al_cons rfl (al_cons rfl (al_cons rfl (al_cons rfl (al_int rfl (by simp only [roF, eq_self, Bool.false_eq_true, Bool.true_eq_false, if_true, if_false, reduceIte, true_and, and_true, false_and, and_false, true_or, or_true, false_or, or_false, not_true_eq_false, not_false_eq_true, Bool.not_true, Bool.not_false, Bool.true_and, Bool.and_true, Bool.false_and, Bool.and_false, decide_true, decide_false, h5, h13, h23, h35, eq_true h68, h81]) (al_cons rfl al_nil)))))) ?_
                exact iht
              · refine r_iconst (v := 1) dX9_ruleOut_84 (by decide) ?_
                refine r_goto (tgt := 89) dX9_ruleOut_85 (by decide) ?_
                refine r_istore dX9_ruleOut_89 (by decide) ?_
                refine r_iload dX9_ruleOut_91 rfl ?_
                refine r_if_eq_f (tgt := 122) dX9_ruleOut_93 (by decide) (by decide) ?_
                refine r_iload dX9_ruleOut_96 rfl ?_
                refine r_iconst (v := (-1)) dX9_ruleOut_98 (by decide) ?_
                refine r_icmp_eq (tgt := 117) dX9_ruleOut_99 (by decide) (fun h99 => ?_) (fun h99 => ?_)
                · refine r_iload dX9_ruleOut_117 rfl ?_
                  refine r_goto (tgt := 124) dX9_ruleOut_119 (by decide) ?_
                  refine r_istore dX9_ruleOut_124 (by decide) ?_
                  refine r_iinc dX9_ruleOut_126 rfl (by decide) (ix_inc rfl) ?_
                  refine r_goto (tgt := 47) dX9_ruleOut_129 (by decide) ?_
                  refine r_lv (lv' := [(0, .ref 120), (1, .int a), (2, .int b), (3, .int x), (4, .int (roF (fun s => lfM im s) (fun s => swM im s) (fun s => csM im s) a b (t + 1))), (5, .int (nI (t + 1)))]) (al_cons rfl (al_cons rfl (al_cons rfl (al_cons rfl (al_int rfl (by simp only [roF, eq_self, Bool.false_eq_true, Bool.true_eq_false, if_true, if_false, reduceIte, true_and, and_true, false_and, and_false, true_or, or_true, false_or, or_false, not_true_eq_false, not_false_eq_true, Bool.not_true, Bool.not_false, Bool.true_and, Bool.and_true, Bool.false_and, Bool.and_false, decide_true, decide_false, h5, h13, h23, h35, eq_true h68, eq_true h81, eq_true h99]) (al_cons rfl al_nil)))))) ?_
                  exact iht
                · refine r_aload_n dX9_ruleOut_102 rfl ?_
                  refine r_iload dX9_ruleOut_103 rfl ?_
                  refine r_V1s cv_X9_215 dX9_ruleOut_105 (m_costOf hm (nI t)) ⟨by decide, by decide⟩ kd_120 ln_120 cl_9 (Nat.le_of_ble_eq_true rfl) ⟨Nat.le_refl _, Nat.le_refl _⟩ ?_
                  refine r_aload_n dX9_ruleOut_108 rfl ?_
                  refine r_iload dX9_ruleOut_109 rfl ?_
                  refine r_V1s cv_X9_215 dX9_ruleOut_111 (m_costOf hm (roF (fun s => lfM im s) (fun s => swM im s) (fun s => csM im s) a b t)) ⟨by decide, by decide⟩ kd_120 ln_120 cl_9 (Nat.le_of_ble_eq_true rfl) ⟨Nat.le_refl _, Nat.le_refl _⟩ ?_
                  refine r_icmp_ge (tgt := 122) dX9_ruleOut_114 (by decide) (fun h114 => ?_) (fun h114 => ?_)
                  · refine r_iload dX9_ruleOut_122 rfl ?_
                    refine r_istore dX9_ruleOut_124 (by decide) ?_
                    refine r_iinc dX9_ruleOut_126 rfl (by decide) (ix_inc rfl) ?_
                    refine r_goto (tgt := 47) dX9_ruleOut_129 (by decide) ?_
                    refine r_lv (lv' := [(0, .ref 120), (1, .int a), (2, .int b), (3, .int x), (4, .int (roF (fun s => lfM im s) (fun s => swM im s) (fun s => csM im s) a b (t + 1))), (5, .int (nI (t + 1)))]) (al_cons rfl (al_cons rfl (al_cons rfl (al_cons rfl (al_int rfl (by simp only [roF, eq_self, Bool.false_eq_true, Bool.true_eq_false, if_true, if_false, reduceIte, true_and, and_true, false_and, and_false, true_or, or_true, false_or, or_false, not_true_eq_false, not_false_eq_true, Bool.not_true, Bool.not_false, Bool.true_and, Bool.and_true, Bool.false_and, Bool.and_false, decide_true, decide_false, h5, h13, h23, h35, eq_true h68, eq_true h81, h99, h114]) (al_cons rfl al_nil)))))) ?_
                    exact iht
                  · refine r_iload dX9_ruleOut_117 rfl ?_
                    refine r_goto (tgt := 124) dX9_ruleOut_119 (by decide) ?_
                    refine r_istore dX9_ruleOut_124 (by decide) ?_
                    refine r_iinc dX9_ruleOut_126 rfl (by decide) (ix_inc rfl) ?_
                    refine r_goto (tgt := 47) dX9_ruleOut_129 (by decide) ?_
                    refine r_lv (lv' := [(0, .ref 120), (1, .int a), (2, .int b), (3, .int x), (4, .int (roF (fun s => lfM im s) (fun s => swM im s) (fun s => csM im s) a b (t + 1))), (5, .int (nI (t + 1)))]) (al_cons rfl (al_cons rfl (al_cons rfl (al_cons rfl (al_int rfl (by simp only [roF, eq_self, Bool.false_eq_true, Bool.true_eq_false, if_true, if_false, reduceIte, true_and, and_true, false_and, and_false, true_or, or_true, false_or, or_false, not_true_eq_false, not_false_eq_true, Bool.not_true, Bool.not_false, Bool.true_and, Bool.and_true, Bool.false_and, Bool.and_false, decide_true, decide_false, h5, h13, h23, h35, eq_true h68, eq_true h81, h99, h114]) (al_cons rfl al_nil)))))) ?_
                    exact iht
        · refine r_ldc dX9_ruleOut_38 kn_X9_67 ?_
          exact r_iret dX9_ruleOut_40 rfl (by simp only [rqM, rxM, eq_self, Bool.false_eq_true, Bool.true_eq_false, if_true, if_false, reduceIte, h5, h13, h23, h35]) (Nat.le_refl _) (Nat.le_refl _)
      · refine r_ldc dX9_ruleOut_26 kn_X9_153 ?_
        exact r_iret dX9_ruleOut_28 rfl (by simp only [rqM, rxM, eq_self, Bool.false_eq_true, Bool.true_eq_false, if_true, if_false, reduceIte, h5, h13, h23]) (Nat.le_refl _) (Nat.le_refl _)

set_option maxRecDepth 100000 in
set_option maxHeartbeats 4000000 in
theorem m_next {im : IM} {pl it : Nat} (hm : MA im) : MT YX9_next 2 0 0 [.ref 120] 137 im (RR pl it) (some (.int (nxM im)), 137, im, RR pl it) := by
  obtain ⟨W, T, S, hW, hW8, hT, hT6, hS, hS5⟩ := id hm
  have htW : tn (im 122 0) = W := by rw [hW, tn_nI (by omega)]
  have htT : tn (im 122 1) = T := by rw [hT, tn_nI (by omega)]
  have htS : tn (im 122 2) = S := by rw [hS, tn_nI (by omega)]
  refine mt_of (by decide +kernel) (Nat.le_of_ble_eq_true rfl) ?_
  show WW _ _ _ _ _ _ _ 0 [(0, .ref 120)] [] _ _ _
  refine r_aload_n dX9_next_0 rfl ?_
  refine r_aload_n dX9_next_1 rfl ?_
  refine r_getr fl_X9_41 dX9_next_2 kd_120 ln_120 rfl rfl ?_
  refine r_iconst (v := 4) dX9_next_5 (by decide) ?_
  refine r_iald (j := 4) dX9_next_6 kd_130 ln_130 (cI 4) (by omega) (by decide) ?_
  refine r_V1s cv_X9_140 dX9_next_7 (m_leftBy hm (im 130 4)) ⟨by decide, by decide⟩ kd_120 ln_120 cl_9 (Nat.le_of_ble_eq_true rfl) ⟨Nat.le_refl _, Nat.le_refl _⟩ ?_
  refine r_istore_n dX9_next_10 (by decide) ?_
  refine r_iconst (v := (-1)) dX9_next_11 (by decide) ?_
  refine r_istore_n dX9_next_12 (by decide) ?_
  refine r_iconst (v := 0) dX9_next_13 (by decide) ?_
  refine r_istore_n dX9_next_14 (by decide) ?_
  refine r_iconst (v := 0) dX9_next_15 (by decide) ?_
  refine r_istore dX9_next_16 (by decide) ?_
  refine r_lv (lv' := [(0, .ref 120), (1, .int (lfM im (im 130 4))), (2, .int ((nmF (im 130 4) (lfM im (im 130 4)) (fun s => smF (im 123) s (tn (im 122 0))) (ruM im) (coM im) 0).1)), (3, .int ((nmF (im 130 4) (lfM im (im 130 4)) (fun s => smF (im 123) s (tn (im 122 0))) (ruM im) (coM im) 0).2)), (4, .int (nI 0))]) (al_cons rfl (al_cons rfl (al_int rfl rfl (al_int rfl rfl (al_int rfl (by exact (cI 0)) al_nil))))) ?_
  refine WW.loop (fun t => [(0, .ref 120), (1, .int (lfM im (im 130 4))), (2, .int ((nmF (im 130 4) (lfM im (im 130 4)) (fun s => smF (im 123) s (tn (im 122 0))) (ruM im) (coM im) t).1)), (3, .int ((nmF (im 130 4) (lfM im (im 130 4)) (fun s => smF (im 123) s (tn (im 122 0))) (ruM im) (coM im) t).2)), (4, .int (nI t))]) (fun _ => im) (N := T) ?_ ?_ 0 (Nat.zero_le _)
  · show WW _ _ _ _ _ _ _ 18 [(0, .ref 120), (1, .int (lfM im (im 130 4))), (2, .int ((nmF (im 130 4) (lfM im (im 130 4)) (fun s => smF (im 123) s (tn (im 122 0))) (ruM im) (coM im) T).1)), (3, .int ((nmF (im 130 4) (lfM im (im 130 4)) (fun s => smF (im 123) s (tn (im 122 0))) (ruM im) (coM im) T).2)), (4, .int (nI T))] _ _ _ _
    refine r_iload dX9_next_18 rfl ?_
    refine r_aload_n dX9_next_20 rfl ?_
    refine r_getr fl_X9_17 dX9_next_21 kd_120 ln_120 rfl rfl ?_
    refine r_iconst (v := 1) dX9_next_24 (by decide) ?_
    refine r_iald (j := 1) dX9_next_25 kd_122 ln_122 (cI 1) (by omega) (by decide) ?_
    refine r_icmp_ge_t (tgt := 166) dX9_next_26 (by decide) (ix_le hT rfl (by omega) (by omega)) ?_
    refine r_iload_n dX9_next_166 rfl ?_
    exact r_iret dX9_next_167 rfl (by rw [nxM, htT]) (Nat.le_refl _) (Nat.le_refl _)
  · intro t ht iht
    show WW _ _ _ _ _ _ _ 18 [(0, .ref 120), (1, .int (lfM im (im 130 4))), (2, .int ((nmF (im 130 4) (lfM im (im 130 4)) (fun s => smF (im 123) s (tn (im 122 0))) (ruM im) (coM im) t).1)), (3, .int ((nmF (im 130 4) (lfM im (im 130 4)) (fun s => smF (im 123) s (tn (im 122 0))) (ruM im) (coM im) t).2)), (4, .int (nI t))] _ _ _ _
    refine r_iload dX9_next_18 rfl ?_
    refine r_aload_n dX9_next_20 rfl ?_
    refine r_getr fl_X9_17 dX9_next_21 kd_120 ln_120 rfl rfl ?_
    refine r_iconst (v := 1) dX9_next_24 (by decide) ?_
    refine r_iald (j := 1) dX9_next_25 kd_122 ln_122 (cI 1) (by omega) (by decide) ?_
    refine r_icmp_ge_f (tgt := 166) dX9_next_26 (by decide) (ix_nle hT rfl (by omega) (by omega)) ?_
    refine r_aload_n dX9_next_29 rfl ?_
    refine r_iload_n dX9_next_30 rfl ?_
    refine r_aload_n dX9_next_31 rfl ?_
    refine r_getr fl_X9_23 dX9_next_32 kd_120 ln_120 rfl rfl ?_
    refine r_iconst (v := 3) dX9_next_35 (by decide) ?_
    refine r_iload dX9_next_36 rfl ?_
    refine r_imul dX9_next_38 ?_
    refine r_iald (j := 3 * t) dX9_next_39 kd_124 ln_124 (ix_mul (cI 3) rfl) (by omega) (by decide) ?_
    refine r_iconst (v := (-1)) dX9_next_40 (by decide) ?_
    refine r_ixor dX9_next_41 ?_
    refine r_iand dX9_next_42 ?_
    refine r_V1s cv_X9_203 dX9_next_43 (m_likelyIn hm ((lfM im (im 130 4)) &&& ((im 124 (3 * t)) ^^^ (-1)))) ⟨by decide, by decide⟩ kd_120 ln_120 cl_9 (Nat.le_of_ble_eq_true rfl) ⟨Nat.le_refl _, Nat.le_refl _⟩ ?_
    refine r_istore dX9_next_46 (by decide) ?_
    refine r_aload_n dX9_next_48 rfl ?_
    refine r_getr fl_X9_41 dX9_next_49 kd_120 ln_120 rfl rfl ?_
    refine r_iconst (v := 4) dX9_next_52 (by decide) ?_
    refine r_iald (j := 4) dX9_next_53 kd_130 ln_130 (cI 4) (by omega) (by decide) ?_
    refine r_iload dX9_next_54 rfl ?_
    refine r_S2s cv_X9_135 dX9_next_56 (m_has (im 130 4) (nI t)) ⟨by decide, by decide⟩ (Nat.le_of_ble_eq_true rfl) ⟨Nat.le_refl _, Nat.le_refl _⟩ ?_
    refine r_bz_ne (tgt := 80) dX9_next_59 (by decide) (fun h59 => ?_) (fun h59 => ?_)
    · refine r_iconst (v := 0) dX9_next_80 (by decide) ?_
      refine r_istore dX9_next_81 (by decide) ?_
      refine r_iload dX9_next_83 rfl ?_
      refine r_if_eq_t (tgt := 133) dX9_next_85 (by decide) (by decide) ?_
      refine r_iconst (v := 0) dX9_next_133 (by decide) ?_
      refine r_istore dX9_next_134 (by decide) ?_
      refine r_iload dX9_next_136 rfl ?_
      refine r_if_eq_t (tgt := 146) dX9_next_138 (by decide) (by decide) ?_
      refine r_iload_n dX9_next_146 rfl ?_
      refine r_istore_n dX9_next_147 (by decide) ?_
      refine r_iload dX9_next_148 rfl ?_
      refine r_if_eq_t (tgt := 158) dX9_next_150 (by decide) (by decide) ?_
      refine r_iload_n dX9_next_158 rfl ?_
      refine r_istore_n dX9_next_159 (by decide) ?_
      refine r_iinc dX9_next_160 rfl (by decide) (ix_inc rfl) ?_
      refine r_goto (tgt := 18) dX9_next_163 (by decide) ?_
      refine r_lv (lv' := [(0, .ref 120), (1, .int (lfM im (im 130 4))), (2, .int ((nmF (im 130 4) (lfM im (im 130 4)) (fun s => smF (im 123) s (tn (im 122 0))) (ruM im) (coM im) (t + 1)).1)), (3, .int ((nmF (im 130 4) (lfM im (im 130 4)) (fun s => smF (im 123) s (tn (im 122 0))) (ruM im) (coM im) (t + 1)).2)), (4, .int (nI (t + 1)))]) (al_cons rfl (al_cons rfl (al_int rfl (by rw [nmF, if_neg (by rintro ⟨q, -⟩; rw [h59] at q; cases q)]) (al_int rfl (by rw [nmF, if_neg (by rintro ⟨q, -⟩; rw [h59] at q; cases q)]) (al_cons rfl al_nil))))) ?_
      exact iht
    · refine r_iload_n dX9_next_62 rfl ?_
      refine r_aload_n dX9_next_63 rfl ?_
      refine r_getr fl_X9_23 dX9_next_64 kd_120 ln_120 rfl rfl ?_
      refine r_iconst (v := 3) dX9_next_67 (by decide) ?_
      refine r_iload dX9_next_68 rfl ?_
      refine r_imul dX9_next_70 ?_
      refine r_iald (j := 3 * t) dX9_next_71 kd_124 ln_124 (ix_mul (cI 3) rfl) (by omega) (by decide) ?_
      refine r_iand dX9_next_72 ?_
      refine r_if_eq (tgt := 80) dX9_next_73 (by decide) (fun h73 => ?_) (fun h73 => ?_)
      · refine r_iconst (v := 0) dX9_next_80 (by decide) ?_
        refine r_istore dX9_next_81 (by decide) ?_
        refine r_iload dX9_next_83 rfl ?_
        refine r_if_eq_t (tgt := 133) dX9_next_85 (by decide) (by decide) ?_
        refine r_iconst (v := 0) dX9_next_133 (by decide) ?_
        refine r_istore dX9_next_134 (by decide) ?_
        refine r_iload dX9_next_136 rfl ?_
        refine r_if_eq_t (tgt := 146) dX9_next_138 (by decide) (by decide) ?_
        refine r_iload_n dX9_next_146 rfl ?_
        refine r_istore_n dX9_next_147 (by decide) ?_
        refine r_iload dX9_next_148 rfl ?_
        refine r_if_eq_t (tgt := 158) dX9_next_150 (by decide) (by decide) ?_
        refine r_iload_n dX9_next_158 rfl ?_
        refine r_istore_n dX9_next_159 (by decide) ?_
        refine r_iinc dX9_next_160 rfl (by decide) (ix_inc rfl) ?_
        refine r_goto (tgt := 18) dX9_next_163 (by decide) ?_
        refine r_lv (lv' := [(0, .ref 120), (1, .int (lfM im (im 130 4))), (2, .int ((nmF (im 130 4) (lfM im (im 130 4)) (fun s => smF (im 123) s (tn (im 122 0))) (ruM im) (coM im) (t + 1)).1)), (3, .int ((nmF (im 130 4) (lfM im (im 130 4)) (fun s => smF (im 123) s (tn (im 122 0))) (ruM im) (coM im) (t + 1)).2)), (4, .int (nI (t + 1)))]) (al_cons rfl (al_cons rfl (al_int rfl (by rw [nmF, if_neg (by rintro ⟨-, q, -⟩; exact q h73)]) (al_int rfl (by rw [nmF, if_neg (by rintro ⟨-, q, -⟩; exact q h73)]) (al_cons rfl al_nil))))) ?_
        exact iht
      · refine r_iconst (v := 1) dX9_next_76 (by decide) ?_
        refine r_goto (tgt := 81) dX9_next_77 (by decide) ?_
        refine r_istore dX9_next_81 (by decide) ?_
        refine r_iload dX9_next_83 rfl ?_
        refine r_if_eq_f (tgt := 133) dX9_next_85 (by decide) (by decide) ?_
        refine r_iload_n dX9_next_88 rfl ?_
        refine r_iconst (v := (-1)) dX9_next_89 (by decide) ?_
        refine r_icmp_eq (tgt := 129) dX9_next_90 (by decide) (fun h90 => ?_) (fun h90 => ?_)
        · refine r_iconst (v := 1) dX9_next_129 (by decide) ?_
          refine r_goto (tgt := 134) dX9_next_130 (by decide) ?_
          refine r_istore dX9_next_134 (by decide) ?_
          refine r_iload dX9_next_136 rfl ?_
          refine r_if_eq_f (tgt := 146) dX9_next_138 (by decide) (by decide) ?_
          refine r_iload dX9_next_141 rfl ?_
          refine r_goto (tgt := 147) dX9_next_143 (by decide) ?_
          refine r_istore_n dX9_next_147 (by decide) ?_
          refine r_iload dX9_next_148 rfl ?_
          refine r_if_eq_f (tgt := 158) dX9_next_150 (by decide) (by decide) ?_
          refine r_iload dX9_next_153 rfl ?_
          refine r_goto (tgt := 159) dX9_next_155 (by decide) ?_
          refine r_istore_n dX9_next_159 (by decide) ?_
          refine r_iinc dX9_next_160 rfl (by decide) (ix_inc rfl) ?_
          refine r_goto (tgt := 18) dX9_next_163 (by decide) ?_
          refine r_lv (lv' := [(0, .ref 120), (1, .int (lfM im (im 130 4))), (2, .int ((nmF (im 130 4) (lfM im (im 130 4)) (fun s => smF (im 123) s (tn (im 122 0))) (ruM im) (coM im) (t + 1)).1)), (3, .int ((nmF (im 130 4) (lfM im (im 130 4)) (fun s => smF (im 123) s (tn (im 122 0))) (ruM im) (coM im) (t + 1)).2)), (4, .int (nI (t + 1)))]) (al_cons rfl (al_cons rfl (al_int rfl (by rw [nmF, if_pos ⟨h59, h73, Or.inl h90⟩] <;> rfl) (al_int rfl (by rw [nmF, if_pos ⟨h59, h73, Or.inl h90⟩] <;> rfl) (al_cons rfl al_nil))))) ?_
          exact iht
        · refine r_iload dX9_next_93 rfl ?_
          refine r_iload_n dX9_next_95 rfl ?_
          refine r_icmp_lt (tgt := 129) dX9_next_96 (by decide) (fun h96 => ?_) (fun h96 => ?_)
          · refine r_iconst (v := 1) dX9_next_129 (by decide) ?_
            refine r_goto (tgt := 134) dX9_next_130 (by decide) ?_
            refine r_istore dX9_next_134 (by decide) ?_
            refine r_iload dX9_next_136 rfl ?_
            refine r_if_eq_f (tgt := 146) dX9_next_138 (by decide) (by decide) ?_
            refine r_iload dX9_next_141 rfl ?_
            refine r_goto (tgt := 147) dX9_next_143 (by decide) ?_
            refine r_istore_n dX9_next_147 (by decide) ?_
            refine r_iload dX9_next_148 rfl ?_
            refine r_if_eq_f (tgt := 158) dX9_next_150 (by decide) (by decide) ?_
            refine r_iload dX9_next_153 rfl ?_
            refine r_goto (tgt := 159) dX9_next_155 (by decide) ?_
            refine r_istore_n dX9_next_159 (by decide) ?_
            refine r_iinc dX9_next_160 rfl (by decide) (ix_inc rfl) ?_
            refine r_goto (tgt := 18) dX9_next_163 (by decide) ?_
            refine r_lv (lv' := [(0, .ref 120), (1, .int (lfM im (im 130 4))), (2, .int ((nmF (im 130 4) (lfM im (im 130 4)) (fun s => smF (im 123) s (tn (im 122 0))) (ruM im) (coM im) (t + 1)).1)), (3, .int ((nmF (im 130 4) (lfM im (im 130 4)) (fun s => smF (im 123) s (tn (im 122 0))) (ruM im) (coM im) (t + 1)).2)), (4, .int (nI (t + 1)))]) (al_cons rfl (al_cons rfl (al_int rfl (by rw [nmF, if_pos ⟨h59, h73, Or.inr (Or.inl h96)⟩] <;> rfl) (al_int rfl (by rw [nmF, if_pos ⟨h59, h73, Or.inr (Or.inl h96)⟩] <;> rfl) (al_cons rfl al_nil))))) ?_
            exact iht
          · refine r_iload dX9_next_99 rfl ?_
            refine r_iload_n dX9_next_101 rfl ?_
            refine r_icmp_ne (tgt := 133) dX9_next_102 (by decide) (fun h102 => ?_) (fun h102 => ?_)
            · refine r_iconst (v := 0) dX9_next_133 (by decide) ?_
              refine r_istore dX9_next_134 (by decide) ?_
              refine r_iload dX9_next_136 rfl ?_
              refine r_if_eq_t (tgt := 146) dX9_next_138 (by decide) (by decide) ?_
              refine r_iload_n dX9_next_146 rfl ?_
              refine r_istore_n dX9_next_147 (by decide) ?_
              refine r_iload dX9_next_148 rfl ?_
              refine r_if_eq_t (tgt := 158) dX9_next_150 (by decide) (by decide) ?_
              refine r_iload_n dX9_next_158 rfl ?_
              refine r_istore_n dX9_next_159 (by decide) ?_
              refine r_iinc dX9_next_160 rfl (by decide) (ix_inc rfl) ?_
              refine r_goto (tgt := 18) dX9_next_163 (by decide) ?_
              refine r_lv (lv' := [(0, .ref 120), (1, .int (lfM im (im 130 4))), (2, .int ((nmF (im 130 4) (lfM im (im 130 4)) (fun s => smF (im 123) s (tn (im 122 0))) (ruM im) (coM im) (t + 1)).1)), (3, .int ((nmF (im 130 4) (lfM im (im 130 4)) (fun s => smF (im 123) s (tn (im 122 0))) (ruM im) (coM im) (t + 1)).2)), (4, .int (nI (t + 1)))]) (al_cons rfl (al_cons rfl (al_int rfl (by rw [nmF, if_neg (by rintro ⟨-, -, q | q | ⟨q, -⟩⟩; exact h90 q; exact h96 q; exact h102 q)]) (al_int rfl (by rw [nmF, if_neg (by rintro ⟨-, -, q | q | ⟨q, -⟩⟩; exact h90 q; exact h96 q; exact h102 q)]) (al_cons rfl al_nil))))) ?_
              exact iht
            · refine r_aload_n dX9_next_105 rfl ?_
              refine r_getr fl_X9_23 dX9_next_106 kd_120 ln_120 rfl rfl ?_
              refine r_iconst (v := 3) dX9_next_109 (by decide) ?_
              refine r_iload dX9_next_110 rfl ?_
              refine r_imul dX9_next_112 ?_
              refine r_iconst (v := 2) dX9_next_113 (by decide) ?_
              refine r_iadd dX9_next_114 ?_
              refine r_iald (j := (3 * t) + 2) dX9_next_115 kd_124 ln_124 (ix_add (ix_mul (cI 3) rfl) (cI 2)) (by omega) (by decide) ?_
              obtain ⟨jb, hjb, hb⟩ := (nmF_b (im 130 4) (lfM im (im 130 4)) (fun s => smF (im 123) s (tn (im 122 0))) (ruM im) (coM im) t).resolve_left h90
              have htb : tn (nmF (im 130 4) (lfM im (im 130 4)) (fun s => smF (im 123) s (tn (im 122 0))) (ruM im) (coM im) t).1 = jb := by rw [hb, tn_nI (by omega)]
              refine r_aload_n dX9_next_116 rfl ?_
              refine r_getr fl_X9_23 dX9_next_117 kd_120 ln_120 rfl rfl ?_
              refine r_iconst (v := 3) dX9_next_120 (by decide) ?_
              refine r_iload_n dX9_next_121 rfl ?_
              refine r_imul dX9_next_122 ?_
              refine r_iconst (v := 2) dX9_next_123 (by decide) ?_
              refine r_iadd dX9_next_124 ?_
              refine r_iald (j := 3 * jb + 2) dX9_next_125 kd_124 ln_124 (ix_add (ix_mul (cI 3) hb) (cI 2)) (by omega) (by decide) ?_
              refine r_icmp_ge (tgt := 133) dX9_next_126 (by decide) (fun h126 => ?_) (fun h126 => ?_)
              · refine r_iconst (v := 0) dX9_next_133 (by decide) ?_
                refine r_istore dX9_next_134 (by decide) ?_
                refine r_iload dX9_next_136 rfl ?_
                refine r_if_eq_t (tgt := 146) dX9_next_138 (by decide) (by decide) ?_
                refine r_iload_n dX9_next_146 rfl ?_
                refine r_istore_n dX9_next_147 (by decide) ?_
                refine r_iload dX9_next_148 rfl ?_
                refine r_if_eq_t (tgt := 158) dX9_next_150 (by decide) (by decide) ?_
                refine r_iload_n dX9_next_158 rfl ?_
                refine r_istore_n dX9_next_159 (by decide) ?_
                refine r_iinc dX9_next_160 rfl (by decide) (ix_inc rfl) ?_
                refine r_goto (tgt := 18) dX9_next_163 (by decide) ?_
                refine r_lv (lv' := [(0, .ref 120), (1, .int (lfM im (im 130 4))), (2, .int ((nmF (im 130 4) (lfM im (im 130 4)) (fun s => smF (im 123) s (tn (im 122 0))) (ruM im) (coM im) (t + 1)).1)), (3, .int ((nmF (im 130 4) (lfM im (im 130 4)) (fun s => smF (im 123) s (tn (im 122 0))) (ruM im) (coM im) (t + 1)).2)), (4, .int (nI (t + 1)))]) (al_cons rfl (al_cons rfl (al_int rfl (by rw [nmF, if_neg (by rintro ⟨-, -, q | q | ⟨-, q⟩⟩; exact h90 q; exact h96 q; rw [htb] at q; exact q h126)]) (al_int rfl (by rw [nmF, if_neg (by rintro ⟨-, -, q | q | ⟨-, q⟩⟩; exact h90 q; exact h96 q; rw [htb] at q; exact q h126)]) (al_cons rfl al_nil))))) ?_
                exact iht
              · refine r_iconst (v := 1) dX9_next_129 (by decide) ?_
                refine r_goto (tgt := 134) dX9_next_130 (by decide) ?_
                refine r_istore dX9_next_134 (by decide) ?_
                refine r_iload dX9_next_136 rfl ?_
                refine r_if_eq_f (tgt := 146) dX9_next_138 (by decide) (by decide) ?_
                refine r_iload dX9_next_141 rfl ?_
                refine r_goto (tgt := 147) dX9_next_143 (by decide) ?_
                refine r_istore_n dX9_next_147 (by decide) ?_
                refine r_iload dX9_next_148 rfl ?_
                refine r_if_eq_f (tgt := 158) dX9_next_150 (by decide) (by decide) ?_
                refine r_iload dX9_next_153 rfl ?_
                refine r_goto (tgt := 159) dX9_next_155 (by decide) ?_
                refine r_istore_n dX9_next_159 (by decide) ?_
                refine r_iinc dX9_next_160 rfl (by decide) (ix_inc rfl) ?_
                refine r_goto (tgt := 18) dX9_next_163 (by decide) ?_
                refine r_lv (lv' := [(0, .ref 120), (1, .int (lfM im (im 130 4))), (2, .int ((nmF (im 130 4) (lfM im (im 130 4)) (fun s => smF (im 123) s (tn (im 122 0))) (ruM im) (coM im) (t + 1)).1)), (3, .int ((nmF (im 130 4) (lfM im (im 130 4)) (fun s => smF (im 123) s (tn (im 122 0))) (ruM im) (coM im) (t + 1)).2)), (4, .int (nI (t + 1)))]) (al_cons rfl (al_cons rfl (al_int rfl (by rw [nmF, if_pos ⟨h59, h73, Or.inr (Or.inr ⟨h102, by rw [htb]; exact h126⟩)⟩] <;> rfl) (al_int rfl (by rw [nmF, if_pos ⟨h59, h73, Or.inr (Or.inr ⟨h102, by rw [htb]; exact h126⟩)⟩] <;> rfl) (al_cons rfl al_nil))))) ?_
                exact iht

set_option maxRecDepth 100000 in
set_option maxHeartbeats 4000000 in
theorem m_secret {im : IM} {pl it : Nat} (x q : Int32) : MT YX9_secret 1 0 0 [.ref 120, .int x, .int q] 137 im (RR pl it) (some (.int (if inB x 0 60 = false then (-1000000002) else if inB q 0 100 = false then (-1000000002) else scF q (tn x))), 137, im, RR pl it) := by
  refine mt_of (by decide +kernel) (Nat.le_of_ble_eq_true rfl) ?_
  show WW _ _ _ _ _ _ _ 0 [(0, .ref 120), (1, .int x), (2, .int q)] [] _ _ _
  refine r_iload_n dX9_secret_0 rfl ?_
  refine r_iconst (v := 0) dX9_secret_1 (by decide) ?_
  refine r_bipush (v := 60) dX9_secret_2 (by decide) ?_
  refine r_S3s cv_X9_63 dX9_secret_4 (m_in x 0 60) ⟨by decide, by decide⟩ (Nat.le_of_ble_eq_true rfl) ⟨Nat.le_refl _, Nat.le_refl _⟩ ?_
  refine r_bz_eq (tgt := 20) dX9_secret_7 (by decide) (fun h7 => ?_) (fun h7 => ?_)
  · refine r_ldc dX9_secret_20 kn_X9_67 ?_
    exact r_iret dX9_secret_22 rfl (by simp only [eq_self, Bool.false_eq_true, Bool.true_eq_false, if_true, if_false, reduceIte, h7]) (Nat.le_refl _) (Nat.le_refl _)
  · refine r_iload_n dX9_secret_10 rfl ?_
    refine r_iconst (v := 0) dX9_secret_11 (by decide) ?_
    refine r_bipush (v := 100) dX9_secret_12 (by decide) ?_
    refine r_S3s cv_X9_63 dX9_secret_14 (m_in q 0 100) ⟨by decide, by decide⟩ (Nat.le_of_ble_eq_true rfl) ⟨Nat.le_refl _, Nat.le_refl _⟩ ?_
    refine r_bz_ne (tgt := 23) dX9_secret_17 (by decide) (fun h17 => ?_) (fun h17 => ?_)
    · obtain ⟨jw, hjw, hj⟩ := inB_nat (W := 61) (w := x) h7 (by omega)
      have htt : tn x = jw := by rw [hj, tn_nI (by omega)]
      refine r_ldc dX9_secret_23 kn_X9_223 ?_
      refine r_istore_n dX9_secret_25 (by decide) ?_
      refine r_iconst (v := 0) dX9_secret_26 (by decide) ?_
      refine r_istore dX9_secret_27 (by decide) ?_
      refine r_lv (lv' := [(0, .ref 120), (1, .int x), (2, .int q), (3, .int (scF q 0)), (4, .int (nI 0))]) (al_cons rfl (al_cons rfl (al_cons rfl (al_int rfl rfl (al_int rfl (by exact (cI 0)) al_nil))))) ?_
      refine WW.loop (fun t => [(0, .ref 120), (1, .int x), (2, .int q), (3, .int (scF q t)), (4, .int (nI t))]) (fun _ => im) (N := jw) ?_ ?_ 0 (Nat.zero_le _)
      · show WW _ _ _ _ _ _ _ 29 [(0, .ref 120), (1, .int x), (2, .int q), (3, .int (scF q jw)), (4, .int (nI jw))] _ _ _ _
        refine r_iload dX9_secret_29 rfl ?_
        refine r_iload_n dX9_secret_31 rfl ?_
        refine r_icmp_ge_t (tgt := 51) dX9_secret_32 (by decide) (ix_le hj rfl (by omega) (by omega)) ?_
        refine r_iload_n dX9_secret_51 rfl ?_
        exact r_iret dX9_secret_52 rfl (by simp only [eq_self, Bool.false_eq_true, Bool.true_eq_false, if_true, if_false, reduceIte, h7, h17, htt]) (Nat.le_refl _) (Nat.le_refl _)
      · intro t ht iht
        show WW _ _ _ _ _ _ _ 29 [(0, .ref 120), (1, .int x), (2, .int q), (3, .int (scF q t)), (4, .int (nI t))] _ _ _ _
        refine r_iload dX9_secret_29 rfl ?_
        refine r_iload_n dX9_secret_31 rfl ?_
        refine r_icmp_ge_f (tgt := 51) dX9_secret_32 (by decide) (ix_nle hj rfl (by omega) (by omega)) ?_
        refine r_iload_n dX9_secret_35 rfl ?_
        refine r_bipush (v := 100) dX9_secret_36 (by decide) ?_
        refine r_iload_n dX9_secret_38 rfl ?_
        refine r_isub dX9_secret_39 ?_
        refine r_imul dX9_secret_40 ?_
        refine r_bipush (v := 100) dX9_secret_41 (by decide) ?_
        refine r_idiv dX9_secret_43 (by decide) ?_
        refine r_istore_n dX9_secret_44 (by decide) ?_
        refine r_iinc dX9_secret_45 rfl (by decide) (ix_inc rfl) ?_
        refine r_goto (tgt := 29) dX9_secret_48 (by decide) ?_
        refine r_lv (lv' := [(0, .ref 120), (1, .int x), (2, .int q), (3, .int (scF q (t + 1))), (4, .int (nI (t + 1)))]) (al_cons rfl (al_cons rfl (al_cons rfl (al_int rfl rfl (al_cons rfl al_nil))))) ?_
        exact iht
    · refine r_ldc dX9_secret_20 kn_X9_67 ?_
      exact r_iret dX9_secret_22 rfl (by simp only [eq_self, Bool.false_eq_true, Bool.true_eq_false, if_true, if_false, reduceIte, h7, h17]) (Nat.le_refl _) (Nat.le_refl _)

set_option maxRecDepth 100000 in
set_option maxHeartbeats 4000000 in
theorem m_gotBy {im : IM} {pl it : Nat} (hne : ¬ im 122 4 = 0) (r x : Int32) : MT YX9_gotBy 0 0 0 [.ref 120, .int r, .int x] 137 im (RR pl it) (some (.int (gbS r x (im 122 4))), 137, im, RR pl it) := by
  refine mt_of (by decide +kernel) (Nat.le_of_ble_eq_true rfl) ?_
  show WW _ _ _ _ _ _ _ 0 [(0, .ref 120), (1, .int r), (2, .int x)] [] _ _ _
  refine r_iload_n dX9_gotBy_0 rfl ?_
  refine r_iload_n dX9_gotBy_1 rfl ?_
  refine r_icmp_lt (tgt := 22) dX9_gotBy_2 (by decide) (fun h2 => ?_) (fun h2 => ?_)
  · refine r_iconst (v := 0) dX9_gotBy_22 (by decide) ?_
    exact r_iret dX9_gotBy_23 rfl (by simp only [gbS, eq_self, Bool.false_eq_true, Bool.true_eq_false, if_true, if_false, reduceIte, true_and, and_true, false_and, and_false, true_or, or_true, false_or, or_false, not_true_eq_false, not_false_eq_true, Bool.not_true, Bool.not_false, Bool.true_and, Bool.and_true, Bool.false_and, Bool.and_false, decide_true, decide_false, h2]) (Nat.le_refl _) (Nat.le_refl _)
  · refine r_iload_n dX9_gotBy_5 rfl ?_
    refine r_iload_n dX9_gotBy_6 rfl ?_
    refine r_isub dX9_gotBy_7 ?_
    refine r_aload_n dX9_gotBy_8 rfl ?_
    refine r_getr fl_X9_17 dX9_gotBy_9 kd_120 ln_120 rfl rfl ?_
    refine r_iconst (v := 4) dX9_gotBy_12 (by decide) ?_
    refine r_iald (j := 4) dX9_gotBy_13 kd_122 ln_122 (cI 4) (by omega) (by decide) ?_
    refine r_irem dX9_gotBy_14 hne ?_
    refine r_if_ne (tgt := 22) dX9_gotBy_15 (by decide) (fun h15 => ?_) (fun h15 => ?_)
    · refine r_iconst (v := 0) dX9_gotBy_22 (by decide) ?_
      exact r_iret dX9_gotBy_23 rfl (by simp only [gbS, eq_self, Bool.false_eq_true, Bool.true_eq_false, if_true, if_false, reduceIte, true_and, and_true, false_and, and_false, true_or, or_true, false_or, or_false, not_true_eq_false, not_false_eq_true, Bool.not_true, Bool.not_false, Bool.true_and, Bool.and_true, Bool.false_and, Bool.and_false, decide_true, decide_false, h2, h15]) (Nat.le_refl _) (Nat.le_refl _)
    · refine r_iconst (v := 1) dX9_gotBy_18 (by decide) ?_
      refine r_goto (tgt := 23) dX9_gotBy_19 (by decide) ?_
      exact r_iret dX9_gotBy_23 rfl (by simp only [gbS, eq_self, Bool.false_eq_true, Bool.true_eq_false, if_true, if_false, reduceIte, true_and, and_true, false_and, and_false, true_or, or_true, false_or, or_false, not_true_eq_false, not_false_eq_true, Bool.not_true, Bool.not_false, Bool.true_and, Bool.and_true, Bool.false_and, Bool.and_false, decide_true, decide_false, h2, eq_true h15]) (Nat.le_refl _) (Nat.le_refl _)

set_option maxRecDepth 100000 in
set_option maxHeartbeats 4000000 in
theorem m_paidSet {im : IM} {pl it : Nat} (hm : MA im) (hB0 : HHm im) (hd0 : HDd im) (hne : ¬ im 122 4 = 0) : MT YX9_paidSet 1 0 0 [.ref 120] 137 im (RR pl it) (some (.int (pdM im)), 137, im, RR pl it) := by
  obtain ⟨W, T, S, hW, hW8, hT, hT6, hS, hS5⟩ := id hm
  have htW : tn (im 122 0) = W := by rw [hW, tn_nI (by omega)]
  have htT : tn (im 122 1) = T := by rw [hT, tn_nI (by omega)]
  have htS : tn (im 122 2) = S := by rw [hS, tn_nI (by omega)]
  obtain ⟨B, hB, hB6⟩ := id hB0
  have htB : tn (im 120 19) = B := by rw [hB, tn_nI (by omega)]
  obtain ⟨D, hD, hD30⟩ := id hd0
  have htD : tn (im 122 4) = D := by rw [hD, tn_nI (by omega)]
  refine mt_of (by decide +kernel) (Nat.le_of_ble_eq_true rfl) ?_
  show WW _ _ _ _ _ _ _ 0 [(0, .ref 120)] [] _ _ _
  refine r_iconst (v := 0) dX9_paidSet_0 (by decide) ?_
  refine r_istore_n dX9_paidSet_1 (by decide) ?_
  refine r_iconst (v := 0) dX9_paidSet_2 (by decide) ?_
  refine r_istore_n dX9_paidSet_3 (by decide) ?_
  refine r_lv (lv' := [(0, .ref 120), (1, .int (psF (im 135) (im 122 4) B 0)), (2, .int (nI 0))]) (al_cons rfl (al_int rfl rfl (al_int rfl (by exact (cI 0)) al_nil))) ?_
  refine WW.loop (fun t => [(0, .ref 120), (1, .int (psF (im 135) (im 122 4) B t)), (2, .int (nI t))]) (fun _ => im) (N := D) ?_ ?_ 0 (Nat.zero_le _)
  · show WW _ _ _ _ _ _ _ 4 [(0, .ref 120), (1, .int (psF (im 135) (im 122 4) B D)), (2, .int (nI D))] _ _ _ _
    refine r_iload_n dX9_paidSet_4 rfl ?_
    refine r_aload_n dX9_paidSet_5 rfl ?_
    refine r_getr fl_X9_17 dX9_paidSet_6 kd_120 ln_120 rfl rfl ?_
    refine r_iconst (v := 4) dX9_paidSet_9 (by decide) ?_
    refine r_iald (j := 4) dX9_paidSet_10 kd_122 ln_122 (cI 4) (by omega) (by decide) ?_
    refine r_icmp_ge_t (tgt := 92) dX9_paidSet_11 (by decide) (ix_le hD rfl (by omega) (by omega)) ?_
    refine r_iload_n dX9_paidSet_92 rfl ?_
    exact r_iret dX9_paidSet_93 rfl (by rw [pdM, htB, htD]) (Nat.le_refl _) (Nat.le_refl _)
  · intro t ht iht
    show WW _ _ _ _ _ _ _ 4 [(0, .ref 120), (1, .int (psF (im 135) (im 122 4) B t)), (2, .int (nI t))] _ _ _ _
    refine r_iload_n dX9_paidSet_4 rfl ?_
    refine r_aload_n dX9_paidSet_5 rfl ?_
    refine r_getr fl_X9_17 dX9_paidSet_6 kd_120 ln_120 rfl rfl ?_
    refine r_iconst (v := 4) dX9_paidSet_9 (by decide) ?_
    refine r_iald (j := 4) dX9_paidSet_10 kd_122 ln_122 (cI 4) (by omega) (by decide) ?_
    refine r_icmp_ge_f (tgt := 92) dX9_paidSet_11 (by decide) (ix_nle hD rfl (by omega) (by omega)) ?_
    refine r_iconst (v := 1) dX9_paidSet_14 (by decide) ?_
    refine r_istore_n dX9_paidSet_15 (by decide) ?_
    refine r_iconst (v := 0) dX9_paidSet_16 (by decide) ?_
    refine r_istore dX9_paidSet_17 (by decide) ?_
    refine r_lv (lv' := [(0, .ref 120), (1, .int (psF (im 135) (im 122 4) B t)), (2, .int (nI t)), (3, .int (bI (hfF (im 135) (nI t) (im 122 4) 0))), (4, .int (nI 0))]) (al_cons rfl (al_cons rfl (al_cons rfl (al_int rfl rfl (al_int rfl (by exact (cI 0)) al_nil))))) ?_
    refine WW.loop (fun u => [(0, .ref 120), (1, .int (psF (im 135) (im 122 4) B t)), (2, .int (nI t)), (3, .int (bI (hfF (im 135) (nI t) (im 122 4) u))), (4, .int (nI u))]) (fun _ => im) (N := B) ?_ ?_ 0 (Nat.zero_le _)
    · show WW _ _ _ _ _ _ _ 19 [(0, .ref 120), (1, .int (psF (im 135) (im 122 4) B t)), (2, .int (nI t)), (3, .int (bI (hfF (im 135) (nI t) (im 122 4) B))), (4, .int (nI B))] _ _ _ _
      refine r_iload dX9_paidSet_19 rfl ?_
      refine r_aload_n dX9_paidSet_21 rfl ?_
      refine r_geti fl_X9_129 dX9_paidSet_22 kd_120 ln_120 rfl ?_
      refine r_icmp_ge_t (tgt := 72) dX9_paidSet_25 (by decide) (ix_le hB rfl (by omega) (by omega)) ?_
      refine r_iload_n dX9_paidSet_72 rfl ?_
      refine r_iload_n dX9_paidSet_73 rfl ?_
      refine r_bz_eq (tgt := 83) dX9_paidSet_74 (by decide) (fun h74 => ?_) (fun h74 => ?_)
      · refine r_iconst (v := 0) dX9_paidSet_83 (by decide) ?_
        refine r_ior dX9_paidSet_84 ?_
        refine r_istore_n dX9_paidSet_85 (by decide) ?_
        refine r_iinc dX9_paidSet_86 rfl (by decide) (ix_inc rfl) ?_
        refine r_goto (tgt := 4) dX9_paidSet_89 (by decide) ?_
        refine r_lv (lv' := [(0, .ref 120), (1, .int (psF (im 135) (im 122 4) B (t + 1))), (2, .int (nI (t + 1)))]) (al_cons rfl (al_int rfl (by simp only [psF, or0, eq_self, Bool.false_eq_true, Bool.true_eq_false, if_true, if_false, reduceIte, h74]) (al_cons rfl al_nil))) ?_
        exact iht
      · refine r_iconst (v := 1) dX9_paidSet_77 (by decide) ?_
        refine r_iload_n dX9_paidSet_78 rfl ?_
        refine r_ishl dX9_paidSet_79 ?_
        refine r_goto (tgt := 84) dX9_paidSet_80 (by decide) ?_
        refine r_ior dX9_paidSet_84 ?_
        refine r_istore_n dX9_paidSet_85 (by decide) ?_
        refine r_iinc dX9_paidSet_86 rfl (by decide) (ix_inc rfl) ?_
        refine r_goto (tgt := 4) dX9_paidSet_89 (by decide) ?_
        refine r_lv (lv' := [(0, .ref 120), (1, .int (psF (im 135) (im 122 4) B (t + 1))), (2, .int (nI (t + 1)))]) (al_cons rfl (al_int rfl (by simp only [psF, or0, eq_self, Bool.false_eq_true, Bool.true_eq_false, if_true, if_false, reduceIte, h74]) (al_cons rfl al_nil))) ?_
        exact iht
    · intro u hu ihu
      show WW _ _ _ _ _ _ _ 19 [(0, .ref 120), (1, .int (psF (im 135) (im 122 4) B t)), (2, .int (nI t)), (3, .int (bI (hfF (im 135) (nI t) (im 122 4) u))), (4, .int (nI u))] _ _ _ _
      refine r_iload dX9_paidSet_19 rfl ?_
      refine r_aload_n dX9_paidSet_21 rfl ?_
      refine r_geti fl_X9_129 dX9_paidSet_22 kd_120 ln_120 rfl ?_
      refine r_icmp_ge_f (tgt := 72) dX9_paidSet_25 (by decide) (ix_nle hB rfl (by omega) (by omega)) ?_
      refine r_iload_n dX9_paidSet_28 rfl ?_
      refine r_bz_eq (tgt := 64) dX9_paidSet_29 (by decide) (fun h29 => ?_) (fun h29 => ?_)
      · refine r_iconst (v := 0) dX9_paidSet_64 (by decide) ?_
        refine r_istore_n dX9_paidSet_65 (by decide) ?_
        refine r_iinc dX9_paidSet_66 rfl (by decide) (ix_inc rfl) ?_
        refine r_goto (tgt := 19) dX9_paidSet_69 (by decide) ?_
        refine r_lv (lv' := [(0, .ref 120), (1, .int (psF (im 135) (im 122 4) B t)), (2, .int (nI t)), (3, .int (bI (hfF (im 135) (nI t) (im 122 4) (u + 1)))), (4, .int (nI (u + 1)))]) (al_cons rfl (al_cons rfl (al_cons rfl (al_int rfl (by rw [hfF, h29]; rfl) (al_cons rfl al_nil))))) ?_
        exact ihu
      · refine r_aload_n dX9_paidSet_32 rfl ?_
        refine r_iload_n dX9_paidSet_33 rfl ?_
        refine r_aload_n dX9_paidSet_34 rfl ?_
        refine r_getr fl_X9_57 dX9_paidSet_35 kd_120 ln_120 rfl rfl ?_
        refine r_iconst (v := 2) dX9_paidSet_38 (by decide) ?_
        refine r_iload dX9_paidSet_39 rfl ?_
        refine r_imul dX9_paidSet_41 ?_
        refine r_iald (j := 2 * u) dX9_paidSet_42 kd_135 ln_135 (ix_mul (cI 2) rfl) (by omega) (by decide) ?_
        refine r_V2s cv_X9_224 dX9_paidSet_43 (m_gotBy hne (nI t) (im 135 (2 * u))) ⟨by decide, by decide⟩ kd_120 ln_120 cl_9 (Nat.le_of_ble_eq_true rfl) ⟨Nat.le_refl _, Nat.le_refl _⟩ ?_
        refine r_aload_n dX9_paidSet_46 rfl ?_
        refine r_getr fl_X9_57 dX9_paidSet_47 kd_120 ln_120 rfl rfl ?_
        refine r_iconst (v := 2) dX9_paidSet_50 (by decide) ?_
        refine r_iload dX9_paidSet_51 rfl ?_
        refine r_imul dX9_paidSet_53 ?_
        refine r_iconst (v := 1) dX9_paidSet_54 (by decide) ?_
        refine r_iadd dX9_paidSet_55 ?_
        refine r_iald (j := (2 * u) + 1) dX9_paidSet_56 kd_135 ln_135 (ix_add (ix_mul (cI 2) rfl) (cI 1)) (by omega) (by decide) ?_
        refine r_icmp_ne (tgt := 64) dX9_paidSet_57 (by decide) (fun h57 => ?_) (fun h57 => ?_)
        · refine r_iconst (v := 0) dX9_paidSet_64 (by decide) ?_
          refine r_istore_n dX9_paidSet_65 (by decide) ?_
          refine r_iinc dX9_paidSet_66 rfl (by decide) (ix_inc rfl) ?_
          refine r_goto (tgt := 19) dX9_paidSet_69 (by decide) ?_
          refine r_lv (lv' := [(0, .ref 120), (1, .int (psF (im 135) (im 122 4) B t)), (2, .int (nI t)), (3, .int (bI (hfF (im 135) (nI t) (im 122 4) (u + 1)))), (4, .int (nI (u + 1)))]) (al_cons rfl (al_cons rfl (al_cons rfl (al_int rfl (by rw [hfF, h29, decide_eq_false h57]; rfl) (al_cons rfl al_nil))))) ?_
          exact ihu
        · refine r_iconst (v := 1) dX9_paidSet_60 (by decide) ?_
          refine r_goto (tgt := 65) dX9_paidSet_61 (by decide) ?_
          refine r_istore_n dX9_paidSet_65 (by decide) ?_
          refine r_iinc dX9_paidSet_66 rfl (by decide) (ix_inc rfl) ?_
          refine r_goto (tgt := 19) dX9_paidSet_69 (by decide) ?_
          refine r_lv (lv' := [(0, .ref 120), (1, .int (psF (im 135) (im 122 4) B t)), (2, .int (nI t)), (3, .int (bI (hfF (im 135) (nI t) (im 122 4) (u + 1)))), (4, .int (nI (u + 1)))]) (al_cons rfl (al_cons rfl (al_cons rfl (al_int rfl (by rw [hfF, h29, decide_eq_true h57]; rfl) (al_cons rfl al_nil))))) ?_
          exact ihu

set_option maxRecDepth 100000 in
set_option maxHeartbeats 4000000 in
theorem m_paid {im : IM} {pl it : Nat} (hm : MA im) (hB0 : HHm im) (hd0 : HDd im) (hne : icB im = true → ¬ im 122 4 = 0) : MT YX9_paid 2 0 0 [.ref 120] 137 im (RR pl it) (some (.int (if icB im = false then (-1000000003) else pdM im)), 137, im, RR pl it) := by
  obtain ⟨W, T, S, hW, hW8, hT, hT6, hS, hS5⟩ := id hm
  have htW : tn (im 122 0) = W := by rw [hW, tn_nI (by omega)]
  have htT : tn (im 122 1) = T := by rw [hT, tn_nI (by omega)]
  have htS : tn (im 122 2) = S := by rw [hS, tn_nI (by omega)]
  refine mt_of (by decide +kernel) (Nat.le_of_ble_eq_true rfl) ?_
  show WW _ _ _ _ _ _ _ 0 [(0, .ref 120)] [] _ _ _
  refine r_aload_n dX9_paid_0 rfl ?_
  refine r_V0s cv_X9_164 dX9_paid_1 (m_isCastle hm) ⟨by decide, by decide⟩ kd_120 ln_120 cl_9 (Nat.le_of_ble_eq_true rfl) ⟨Nat.le_refl _, Nat.le_refl _⟩ ?_
  refine r_bz_eq (tgt := 14) dX9_paid_4 (by decide) (fun h4 => ?_) (fun h4 => ?_)
  · refine r_ldc dX9_paid_14 kn_X9_168 ?_
    exact r_iret dX9_paid_16 rfl (by simp only [eq_self, Bool.false_eq_true, Bool.true_eq_false, if_true, if_false, reduceIte, true_and, and_true, false_and, and_false, true_or, or_true, false_or, or_false, not_true_eq_false, not_false_eq_true, Bool.not_true, Bool.not_false, Bool.true_and, Bool.and_true, Bool.false_and, Bool.and_false, decide_true, decide_false, h4]) (Nat.le_refl _) (Nat.le_refl _)
  · refine r_aload_n dX9_paid_7 rfl ?_
    refine r_V0s cv_X9_227 dX9_paid_8 (m_paidSet hm hB0 hd0 (hne h4)) ⟨by decide, by decide⟩ kd_120 ln_120 cl_9 (Nat.le_of_ble_eq_true rfl) ⟨Nat.le_refl _, Nat.le_refl _⟩ ?_
    refine r_goto (tgt := 16) dX9_paid_11 (by decide) ?_
    exact r_iret dX9_paid_16 rfl (by simp only [eq_self, Bool.false_eq_true, Bool.true_eq_false, if_true, if_false, reduceIte, true_and, and_true, false_and, and_false, true_or, or_true, false_or, or_false, not_true_eq_false, not_false_eq_true, Bool.not_true, Bool.not_false, Bool.true_and, Bool.and_true, Bool.false_and, Bool.and_false, decide_true, decide_false, h4]) (Nat.le_refl _) (Nat.le_refl _)

set_option maxRecDepth 100000 in
set_option maxHeartbeats 4000000 in
theorem m_ask {im : IM} {pl it : Nat} (hm : MA im) (hB0 : HHm im) (hd0 : HDd im) (hne : icB im = true → ¬ im 122 4 = 0) : MT YX9_ask 2 0 0 [.ref 120] 137 im (RR pl it) (some (.int (if icB im = false then (-1000000003) else akM im)), 137, im, RR pl it) := by
  obtain ⟨W, T, S, hW, hW8, hT, hT6, hS, hS5⟩ := id hm
  have htW : tn (im 122 0) = W := by rw [hW, tn_nI (by omega)]
  have htT : tn (im 122 1) = T := by rw [hT, tn_nI (by omega)]
  have htS : tn (im 122 2) = S := by rw [hS, tn_nI (by omega)]
  obtain ⟨B, hB, hB6⟩ := id hB0
  have htB : tn (im 120 19) = B := by rw [hB, tn_nI (by omega)]
  obtain ⟨D, hD, hD30⟩ := id hd0
  have htD : tn (im 122 4) = D := by rw [hD, tn_nI (by omega)]
  refine mt_of (by decide +kernel) (Nat.le_of_ble_eq_true rfl) ?_
  show WW _ _ _ _ _ _ _ 0 [(0, .ref 120)] [] _ _ _
  refine r_aload_n dX9_ask_0 rfl ?_
  refine r_V0s cv_X9_164 dX9_ask_1 (m_isCastle hm) ⟨by decide, by decide⟩ kd_120 ln_120 cl_9 (Nat.le_of_ble_eq_true rfl) ⟨Nat.le_refl _, Nat.le_refl _⟩ ?_
  refine r_bz_ne (tgt := 10) dX9_ask_4 (by decide) (fun h4 => ?_) (fun h4 => ?_)
  · refine r_aload_n dX9_ask_10 rfl ?_
    refine r_V0s cv_X9_227 dX9_ask_11 (m_paidSet hm hB0 hd0 (hne h4)) ⟨by decide, by decide⟩ kd_120 ln_120 cl_9 (Nat.le_of_ble_eq_true rfl) ⟨Nat.le_refl _, Nat.le_refl _⟩ ?_
    refine r_istore_n dX9_ask_14 (by decide) ?_
    refine r_iload_n dX9_ask_15 rfl ?_
    refine r_S1s cv_X9_212 dX9_ask_16 (m_ones (pdM im)) ⟨by decide, by decide⟩ (Nat.le_of_ble_eq_true rfl) ⟨Nat.le_refl _, Nat.le_refl _⟩ ?_
    refine r_istore_n dX9_ask_19 (by decide) ?_
    refine r_iconst (v := (-1)) dX9_ask_20 (by decide) ?_
    refine r_istore_n dX9_ask_21 (by decide) ?_
    refine r_iload_n dX9_ask_22 rfl ?_
    refine r_istore dX9_ask_23 (by decide) ?_
    refine r_iconst (v := 0) dX9_ask_25 (by decide) ?_
    refine r_istore dX9_ask_26 (by decide) ?_
    refine r_lv (lv' := [(0, .ref 120), (1, .int (pdM im)), (2, .int (onF (pdM im) 30)), (3, .int ((bmF (pdM im) (onF (pdM im) 30) (im 122 4) D 0).1)), (4, .int ((bmF (pdM im) (onF (pdM im) 30) (im 122 4) D 0).2)), (5, .int (nI 0))]) (al_cons rfl (al_cons rfl (al_cons rfl (al_int rfl rfl (al_int rfl rfl (al_int rfl (by exact (cI 0)) al_nil)))))) ?_
    refine WW.loop (fun t => [(0, .ref 120), (1, .int (pdM im)), (2, .int (onF (pdM im) 30)), (3, .int ((bmF (pdM im) (onF (pdM im) 30) (im 122 4) D t).1)), (4, .int ((bmF (pdM im) (onF (pdM im) 30) (im 122 4) D t).2)), (5, .int (nI t))]) (fun _ => im) (N := 60) ?_ ?_ 0 (Nat.zero_le _)
    · show WW _ _ _ _ _ _ _ 28 [(0, .ref 120), (1, .int (pdM im)), (2, .int (onF (pdM im) 30)), (3, .int ((bmF (pdM im) (onF (pdM im) 30) (im 122 4) D 60).1)), (4, .int ((bmF (pdM im) (onF (pdM im) 30) (im 122 4) D 60).2)), (5, .int (nI 60))] _ _ _ _
      refine r_iload dX9_ask_28 rfl ?_
      refine r_bipush (v := 60) dX9_ask_30 (by decide) ?_
      refine r_icmp_ge_t (tgt := 140) dX9_ask_32 (by decide) (ix_le (cI 60) rfl (by omega) (by omega)) ?_
      refine r_iload_n dX9_ask_140 rfl ?_
      exact r_iret dX9_ask_141 rfl (by simp only [akM, htD, eq_self, Bool.false_eq_true, Bool.true_eq_false, if_true, if_false, reduceIte, h4]) (Nat.le_refl _) (Nat.le_refl _)
    · intro t ht iht
      show WW _ _ _ _ _ _ _ 28 [(0, .ref 120), (1, .int (pdM im)), (2, .int (onF (pdM im) 30)), (3, .int ((bmF (pdM im) (onF (pdM im) 30) (im 122 4) D t).1)), (4, .int ((bmF (pdM im) (onF (pdM im) 30) (im 122 4) D t).2)), (5, .int (nI t))] _ _ _ _
      refine r_iload dX9_ask_28 rfl ?_
      refine r_bipush (v := 60) dX9_ask_30 (by decide) ?_
      refine r_icmp_ge_f (tgt := 140) dX9_ask_32 (by decide) (ix_nle (cI 60) rfl (by omega) (by omega)) ?_
      refine r_iconst (v := 0) dX9_ask_35 (by decide) ?_
      refine r_istore dX9_ask_36 (by decide) ?_
      refine r_iconst (v := 0) dX9_ask_38 (by decide) ?_
      refine r_istore dX9_ask_39 (by decide) ?_
      refine r_lv (lv' := [(0, .ref 120), (1, .int (pdM im)), (2, .int (onF (pdM im) 30)), (3, .int ((bmF (pdM im) (onF (pdM im) 30) (im 122 4) D t).1)), (4, .int ((bmF (pdM im) (onF (pdM im) 30) (im 122 4) D t).2)), (5, .int (nI t)), (6, .int (ymF (pdM im) (nI t) (im 122 4) 0)), (7, .int (nI 0))]) (al_cons rfl (al_cons rfl (al_cons rfl (al_cons rfl (al_cons rfl (al_cons rfl (al_int rfl rfl (al_int rfl (by exact (cI 0)) al_nil)))))))) ?_
      refine WW.loop (fun u => [(0, .ref 120), (1, .int (pdM im)), (2, .int (onF (pdM im) 30)), (3, .int ((bmF (pdM im) (onF (pdM im) 30) (im 122 4) D t).1)), (4, .int ((bmF (pdM im) (onF (pdM im) 30) (im 122 4) D t).2)), (5, .int (nI t)), (6, .int (ymF (pdM im) (nI t) (im 122 4) u)), (7, .int (nI u))]) (fun _ => im) (N := D) ?_ ?_ 0 (Nat.zero_le _)
      · show WW _ _ _ _ _ _ _ 41 [(0, .ref 120), (1, .int (pdM im)), (2, .int (onF (pdM im) 30)), (3, .int ((bmF (pdM im) (onF (pdM im) 30) (im 122 4) D t).1)), (4, .int ((bmF (pdM im) (onF (pdM im) 30) (im 122 4) D t).2)), (5, .int (nI t)), (6, .int (ymF (pdM im) (nI t) (im 122 4) D)), (7, .int (nI D))] _ _ _ _
        refine r_iload dX9_ask_41 rfl ?_
        refine r_aload_n dX9_ask_43 rfl ?_
        refine r_getr fl_X9_17 dX9_ask_44 kd_120 ln_120 rfl rfl ?_
        refine r_iconst (v := 4) dX9_ask_47 (by decide) ?_
        refine r_iald (j := 4) dX9_ask_48 kd_122 ln_122 (cI 4) (by omega) (by decide) ?_
        refine r_icmp_ge_t (tgt := 84) dX9_ask_49 (by decide) (ix_le hD rfl (by omega) (by omega)) ?_
        refine r_iload dX9_ask_84 rfl ?_
        refine r_iload_n dX9_ask_86 rfl ?_
        refine r_iload dX9_ask_87 rfl ?_
        refine r_isub dX9_ask_89 ?_
        refine r_icmp_le (tgt := 98) dX9_ask_90 (by decide) (fun h90 => ?_) (fun h90 => ?_)
        · refine r_iload_n dX9_ask_98 rfl ?_
          refine r_iload dX9_ask_99 rfl ?_
          refine r_isub dX9_ask_101 ?_
          refine r_istore dX9_ask_102 (by decide) ?_
          refine r_iload dX9_ask_104 rfl ?_
          refine r_iload dX9_ask_106 rfl ?_
          refine r_icmp_ge (tgt := 116) dX9_ask_108 (by decide) (fun h108 => ?_) (fun h108 => ?_)
          · refine r_iload_n dX9_ask_116 rfl ?_
            refine r_istore_n dX9_ask_117 (by decide) ?_
            refine r_iload dX9_ask_118 rfl ?_
            refine r_iload dX9_ask_120 rfl ?_
            refine r_icmp_ge (tgt := 130) dX9_ask_122 (by decide) (fun h122 => ?_) (fun h122 => ?_)
            · refine r_iload dX9_ask_130 rfl ?_
              refine r_istore dX9_ask_132 (by decide) ?_
              refine r_iinc dX9_ask_134 rfl (by decide) (ix_inc rfl) ?_
              refine r_goto (tgt := 28) dX9_ask_137 (by decide) ?_
              refine r_lv (lv' := [(0, .ref 120), (1, .int (pdM im)), (2, .int (onF (pdM im) 30)), (3, .int ((bmF (pdM im) (onF (pdM im) 30) (im 122 4) D (t + 1)).1)), (4, .int ((bmF (pdM im) (onF (pdM im) 30) (im 122 4) D (t + 1)).2)), (5, .int (nI (t + 1)))]) (al_cons rfl (al_cons rfl (al_cons rfl (al_int rfl (by simp only [bmF, mmV, eq_self, Bool.false_eq_true, Bool.true_eq_false, if_true, if_false, reduceIte, h4, h90, h108, h122]) (al_int rfl (by simp only [bmF, mmV, eq_self, Bool.false_eq_true, Bool.true_eq_false, if_true, if_false, reduceIte, h4, h90, h108, h122]) (al_cons rfl al_nil)))))) ?_
              exact iht
            · refine r_iload dX9_ask_125 rfl ?_
              refine r_goto (tgt := 132) dX9_ask_127 (by decide) ?_
              refine r_istore dX9_ask_132 (by decide) ?_
              refine r_iinc dX9_ask_134 rfl (by decide) (ix_inc rfl) ?_
              refine r_goto (tgt := 28) dX9_ask_137 (by decide) ?_
              refine r_lv (lv' := [(0, .ref 120), (1, .int (pdM im)), (2, .int (onF (pdM im) 30)), (3, .int ((bmF (pdM im) (onF (pdM im) 30) (im 122 4) D (t + 1)).1)), (4, .int ((bmF (pdM im) (onF (pdM im) 30) (im 122 4) D (t + 1)).2)), (5, .int (nI (t + 1)))]) (al_cons rfl (al_cons rfl (al_cons rfl (al_int rfl (absurd h108 h122) (al_int rfl (absurd h108 h122) (al_cons rfl al_nil)))))) ?_
              exact iht
          · refine r_iload dX9_ask_111 rfl ?_
            refine r_goto (tgt := 117) dX9_ask_113 (by decide) ?_
            refine r_istore_n dX9_ask_117 (by decide) ?_
            refine r_iload dX9_ask_118 rfl ?_
            refine r_iload dX9_ask_120 rfl ?_
            refine r_icmp_ge (tgt := 130) dX9_ask_122 (by decide) (fun h122 => ?_) (fun h122 => ?_)
            · refine r_iload dX9_ask_130 rfl ?_
              refine r_istore dX9_ask_132 (by decide) ?_
              refine r_iinc dX9_ask_134 rfl (by decide) (ix_inc rfl) ?_
              refine r_goto (tgt := 28) dX9_ask_137 (by decide) ?_
              refine r_lv (lv' := [(0, .ref 120), (1, .int (pdM im)), (2, .int (onF (pdM im) 30)), (3, .int ((bmF (pdM im) (onF (pdM im) 30) (im 122 4) D (t + 1)).1)), (4, .int ((bmF (pdM im) (onF (pdM im) 30) (im 122 4) D (t + 1)).2)), (5, .int (nI (t + 1)))]) (al_cons rfl (al_cons rfl (al_cons rfl (al_int rfl (absurd h122 h108) (al_int rfl (absurd h122 h108) (al_cons rfl al_nil)))))) ?_
              exact iht
            · refine r_iload dX9_ask_125 rfl ?_
              refine r_goto (tgt := 132) dX9_ask_127 (by decide) ?_
              refine r_istore dX9_ask_132 (by decide) ?_
              refine r_iinc dX9_ask_134 rfl (by decide) (ix_inc rfl) ?_
              refine r_goto (tgt := 28) dX9_ask_137 (by decide) ?_
              refine r_lv (lv' := [(0, .ref 120), (1, .int (pdM im)), (2, .int (onF (pdM im) 30)), (3, .int ((bmF (pdM im) (onF (pdM im) 30) (im 122 4) D (t + 1)).1)), (4, .int ((bmF (pdM im) (onF (pdM im) 30) (im 122 4) D (t + 1)).2)), (5, .int (nI (t + 1)))]) (al_cons rfl (al_cons rfl (al_cons rfl (al_int rfl (by simp only [bmF, mmV, eq_self, Bool.false_eq_true, Bool.true_eq_false, if_true, if_false, reduceIte, h4, h90, h108, h122]) (al_int rfl (by simp only [bmF, mmV, eq_self, Bool.false_eq_true, Bool.true_eq_false, if_true, if_false, reduceIte, h4, h90, h108, h122]) (al_cons rfl al_nil)))))) ?_
              exact iht
        · refine r_iload dX9_ask_93 rfl ?_
          refine r_goto (tgt := 102) dX9_ask_95 (by decide) ?_
          refine r_istore dX9_ask_102 (by decide) ?_
          refine r_iload dX9_ask_104 rfl ?_
          refine r_iload dX9_ask_106 rfl ?_
          refine r_icmp_ge (tgt := 116) dX9_ask_108 (by decide) (fun h108 => ?_) (fun h108 => ?_)
          · refine r_iload_n dX9_ask_116 rfl ?_
            refine r_istore_n dX9_ask_117 (by decide) ?_
            refine r_iload dX9_ask_118 rfl ?_
            refine r_iload dX9_ask_120 rfl ?_
            refine r_icmp_ge (tgt := 130) dX9_ask_122 (by decide) (fun h122 => ?_) (fun h122 => ?_)
            · refine r_iload dX9_ask_130 rfl ?_
              refine r_istore dX9_ask_132 (by decide) ?_
              refine r_iinc dX9_ask_134 rfl (by decide) (ix_inc rfl) ?_
              refine r_goto (tgt := 28) dX9_ask_137 (by decide) ?_
              refine r_lv (lv' := [(0, .ref 120), (1, .int (pdM im)), (2, .int (onF (pdM im) 30)), (3, .int ((bmF (pdM im) (onF (pdM im) 30) (im 122 4) D (t + 1)).1)), (4, .int ((bmF (pdM im) (onF (pdM im) 30) (im 122 4) D (t + 1)).2)), (5, .int (nI (t + 1)))]) (al_cons rfl (al_cons rfl (al_cons rfl (al_int rfl (by simp only [bmF, mmV, eq_self, Bool.false_eq_true, Bool.true_eq_false, if_true, if_false, reduceIte, h4, h90, h108, h122]) (al_int rfl (by simp only [bmF, mmV, eq_self, Bool.false_eq_true, Bool.true_eq_false, if_true, if_false, reduceIte, h4, h90, h108, h122]) (al_cons rfl al_nil)))))) ?_
              exact iht
            · refine r_iload dX9_ask_125 rfl ?_
              refine r_goto (tgt := 132) dX9_ask_127 (by decide) ?_
              refine r_istore dX9_ask_132 (by decide) ?_
              refine r_iinc dX9_ask_134 rfl (by decide) (ix_inc rfl) ?_
              refine r_goto (tgt := 28) dX9_ask_137 (by decide) ?_
              refine r_lv (lv' := [(0, .ref 120), (1, .int (pdM im)), (2, .int (onF (pdM im) 30)), (3, .int ((bmF (pdM im) (onF (pdM im) 30) (im 122 4) D (t + 1)).1)), (4, .int ((bmF (pdM im) (onF (pdM im) 30) (im 122 4) D (t + 1)).2)), (5, .int (nI (t + 1)))]) (al_cons rfl (al_cons rfl (al_cons rfl (al_int rfl (absurd h108 h122) (al_int rfl (absurd h108 h122) (al_cons rfl al_nil)))))) ?_
              exact iht
          · refine r_iload dX9_ask_111 rfl ?_
            refine r_goto (tgt := 117) dX9_ask_113 (by decide) ?_
            refine r_istore_n dX9_ask_117 (by decide) ?_
            refine r_iload dX9_ask_118 rfl ?_
            refine r_iload dX9_ask_120 rfl ?_
            refine r_icmp_ge (tgt := 130) dX9_ask_122 (by decide) (fun h122 => ?_) (fun h122 => ?_)
            · refine r_iload dX9_ask_130 rfl ?_
              refine r_istore dX9_ask_132 (by decide) ?_
              refine r_iinc dX9_ask_134 rfl (by decide) (ix_inc rfl) ?_
              refine r_goto (tgt := 28) dX9_ask_137 (by decide) ?_
              refine r_lv (lv' := [(0, .ref 120), (1, .int (pdM im)), (2, .int (onF (pdM im) 30)), (3, .int ((bmF (pdM im) (onF (pdM im) 30) (im 122 4) D (t + 1)).1)), (4, .int ((bmF (pdM im) (onF (pdM im) 30) (im 122 4) D (t + 1)).2)), (5, .int (nI (t + 1)))]) (al_cons rfl (al_cons rfl (al_cons rfl (al_int rfl (absurd h122 h108) (al_int rfl (absurd h122 h108) (al_cons rfl al_nil)))))) ?_
              exact iht
            · refine r_iload dX9_ask_125 rfl ?_
              refine r_goto (tgt := 132) dX9_ask_127 (by decide) ?_
              refine r_istore dX9_ask_132 (by decide) ?_
              refine r_iinc dX9_ask_134 rfl (by decide) (ix_inc rfl) ?_
              refine r_goto (tgt := 28) dX9_ask_137 (by decide) ?_
              refine r_lv (lv' := [(0, .ref 120), (1, .int (pdM im)), (2, .int (onF (pdM im) 30)), (3, .int ((bmF (pdM im) (onF (pdM im) 30) (im 122 4) D (t + 1)).1)), (4, .int ((bmF (pdM im) (onF (pdM im) 30) (im 122 4) D (t + 1)).2)), (5, .int (nI (t + 1)))]) (al_cons rfl (al_cons rfl (al_cons rfl (al_int rfl (by simp only [bmF, mmV, eq_self, Bool.false_eq_true, Bool.true_eq_false, if_true, if_false, reduceIte, h4, h90, h108, h122]) (al_int rfl (by simp only [bmF, mmV, eq_self, Bool.false_eq_true, Bool.true_eq_false, if_true, if_false, reduceIte, h4, h90, h108, h122]) (al_cons rfl al_nil)))))) ?_
              exact iht
      · intro u hu ihu
        show WW _ _ _ _ _ _ _ 41 [(0, .ref 120), (1, .int (pdM im)), (2, .int (onF (pdM im) 30)), (3, .int ((bmF (pdM im) (onF (pdM im) 30) (im 122 4) D t).1)), (4, .int ((bmF (pdM im) (onF (pdM im) 30) (im 122 4) D t).2)), (5, .int (nI t)), (6, .int (ymF (pdM im) (nI t) (im 122 4) u)), (7, .int (nI u))] _ _ _ _
        refine r_iload dX9_ask_41 rfl ?_
        refine r_aload_n dX9_ask_43 rfl ?_
        refine r_getr fl_X9_17 dX9_ask_44 kd_120 ln_120 rfl rfl ?_
        refine r_iconst (v := 4) dX9_ask_47 (by decide) ?_
        refine r_iald (j := 4) dX9_ask_48 kd_122 ln_122 (cI 4) (by omega) (by decide) ?_
        refine r_icmp_ge_f (tgt := 84) dX9_ask_49 (by decide) (ix_nle hD rfl (by omega) (by omega)) ?_
        refine r_iload dX9_ask_52 rfl ?_
        refine r_iload_n dX9_ask_54 rfl ?_
        refine r_iload dX9_ask_55 rfl ?_
        refine r_S2s cv_X9_135 dX9_ask_57 (m_has (pdM im) (nI u)) ⟨by decide, by decide⟩ (Nat.le_of_ble_eq_true rfl) ⟨Nat.le_refl _, Nat.le_refl _⟩ ?_
        refine r_bz_eq (tgt := 74) dX9_ask_60 (by decide) (fun h60 => ?_) (fun h60 => ?_)
        · refine r_iconst (v := 0) dX9_ask_74 (by decide) ?_
          refine r_iadd dX9_ask_75 ?_
          refine r_istore dX9_ask_76 (by decide) ?_
          refine r_iinc dX9_ask_78 rfl (by decide) (ix_inc rfl) ?_
          refine r_goto (tgt := 41) dX9_ask_81 (by decide) ?_
          refine r_lv (lv' := [(0, .ref 120), (1, .int (pdM im)), (2, .int (onF (pdM im) 30)), (3, .int ((bmF (pdM im) (onF (pdM im) 30) (im 122 4) D t).1)), (4, .int ((bmF (pdM im) (onF (pdM im) 30) (im 122 4) D t).2)), (5, .int (nI t)), (6, .int (ymF (pdM im) (nI t) (im 122 4) (u + 1))), (7, .int (nI (u + 1)))]) (al_cons rfl (al_cons rfl (al_cons rfl (al_cons rfl (al_cons rfl (al_cons rfl (al_int rfl (by simp only [ymF, ad0, eq_self, Bool.false_eq_true, Bool.true_eq_false, if_true, if_false, reduceIte, h4, h60]) (al_cons rfl al_nil)))))))) ?_
          exact ihu
        · refine r_aload_n dX9_ask_63 rfl ?_
          refine r_iload dX9_ask_64 rfl ?_
          refine r_iload dX9_ask_66 rfl ?_
          refine r_V2s cv_X9_224 dX9_ask_68 (m_gotBy (hne h4) (nI u) (nI t)) ⟨by decide, by decide⟩ kd_120 ln_120 cl_9 (Nat.le_of_ble_eq_true rfl) ⟨Nat.le_refl _, Nat.le_refl _⟩ ?_
          refine r_goto (tgt := 75) dX9_ask_71 (by decide) ?_
          refine r_iadd dX9_ask_75 ?_
          refine r_istore dX9_ask_76 (by decide) ?_
          refine r_iinc dX9_ask_78 rfl (by decide) (ix_inc rfl) ?_
          refine r_goto (tgt := 41) dX9_ask_81 (by decide) ?_
          refine r_lv (lv' := [(0, .ref 120), (1, .int (pdM im)), (2, .int (onF (pdM im) 30)), (3, .int ((bmF (pdM im) (onF (pdM im) 30) (im 122 4) D t).1)), (4, .int ((bmF (pdM im) (onF (pdM im) 30) (im 122 4) D t).2)), (5, .int (nI t)), (6, .int (ymF (pdM im) (nI t) (im 122 4) (u + 1))), (7, .int (nI (u + 1)))]) (al_cons rfl (al_cons rfl (al_cons rfl (al_cons rfl (al_cons rfl (al_cons rfl (al_int rfl (by simp only [ymF, ad0, eq_self, Bool.false_eq_true, Bool.true_eq_false, if_true, if_false, reduceIte, h4, h60]) (al_cons rfl al_nil)))))))) ?_
          exact ihu
  · refine r_ldc dX9_ask_7 kn_X9_168 ?_
    exact r_iret dX9_ask_9 rfl (by simp only [akM, eq_self, Bool.false_eq_true, Bool.true_eq_false, if_true, if_false, reduceIte, true_and, and_true, false_and, and_false, true_or, or_true, false_or, or_false, not_true_eq_false, not_false_eq_true, Bool.not_true, Bool.not_false, Bool.true_and, Bool.and_true, Bool.false_and, Bool.and_false, decide_true, decide_false, h4]) (Nat.le_refl _) (Nat.le_refl _)

