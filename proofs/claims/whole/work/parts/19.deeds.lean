set_option maxRecDepth 100000 in
set_option maxHeartbeats 4000000 in
theorem c_fits {im : IM} {pl it : Nat} (hB0 : HH im) (r e : Int32) : MT YX4_fits 1 0 0 [.ref 103, .int r, .int e] 137 im (RR pl it) (some (.int (bI (ftF (im 104) (im 105) r e (tn (im 103 2))))), 137, im, RR pl it) := by
  obtain ⟨B, hB, hB15⟩ := id hB0
  have htB : tn (im 103 2) = B := by rw [hB, tn_nI (by omega)]
  refine mt_of (by decide +kernel) (Nat.le_of_ble_eq_true rfl) ?_
  show WW _ _ _ _ _ _ _ 0 [(0, .ref 103), (1, .int r), (2, .int e)] [] _ _ _
  have key : ∀ m t, t + m = B → ftF (im 104) (im 105) r e t = true → WW YX4_fits 1 0 0 (some (.int (bI (ftF (im 104) (im 105) r e (tn (im 103 2))))), 137, im, RR pl it) 0 0 2 [(0, .ref 103), (1, .int r), (2, .int e), (3, .int (nI t))] [] 137 im (RR pl it) := by
    intro m
    induction m with
    | zero =>
      intro t ht hh
      refine r_iload_n dX4_fits_2 rfl ?_
      refine r_aload_n dX4_fits_3 rfl ?_
      refine r_geti fl_X4_19 dX4_fits_4 kd_103 ln_103 rfl ?_
      refine r_icmp_ge_t (tgt := 38) dX4_fits_7 (by decide) (ix_le hB rfl (by omega) (by omega)) ?_
      refine r_iconst (v := 1) dX4_fits_38 (by decide) ?_
      exact r_zret dX4_fits_39 rfl nar1 (by rw [htB, show B = t by omega, hh]; rfl) (Nat.le_refl _) (Nat.le_refl _)
    | succ m ih =>
      intro t ht hh
      refine r_iload_n dX4_fits_2 rfl ?_
      refine r_aload_n dX4_fits_3 rfl ?_
      refine r_geti fl_X4_19 dX4_fits_4 kd_103 ln_103 rfl ?_
      refine r_icmp_ge_f (tgt := 38) dX4_fits_7 (by decide) (ix_nle hB rfl (by omega) (by omega)) ?_
      refine r_aload_n dX4_fits_10 rfl ?_
      refine r_getr fl_X4_9 dX4_fits_11 kd_103 ln_103 rfl rfl ?_
      refine r_iload_n dX4_fits_14 rfl ?_
      refine r_iald (j := t) dX4_fits_15 kd_104 ln_104 rfl (by omega) (by decide) ?_
      refine r_iload_n dX4_fits_16 rfl ?_
      refine r_iload_n dX4_fits_17 rfl ?_
      refine r_S3s cv_X4_27 dX4_fits_18 (c_gotMoney (im 104 t) r e) ⟨by decide, by decide⟩ (Nat.le_of_ble_eq_true rfl) ⟨Nat.le_refl _, Nat.le_refl _⟩ ?_
      refine r_aload_n dX4_fits_21 rfl ?_
      refine r_getr fl_X4_15 dX4_fits_22 kd_103 ln_103 rfl rfl ?_
      refine r_iload_n dX4_fits_25 rfl ?_
      refine r_zald (j := t) dX4_fits_26 kd_105 ln_105 rfl (by omega) (by decide) ?_
      refine r_icmp_eq (tgt := 32) dX4_fits_27 (by decide) (fun h27 => ?_) (fun h27 => ?_)
      · refine r_iinc dX4_fits_32 rfl (by decide) (ix_inc rfl) ?_
        refine r_goto (tgt := 2) dX4_fits_35 (by decide) ?_
        refine r_lv (lv' := [(0, .ref 103), (1, .int r), (2, .int e), (3, .int (nI (t + 1)))]) (al_cons rfl (al_cons rfl (al_cons rfl (al_cons rfl al_nil)))) ?_
        exact ih (t + 1) (by omega) (by rw [ftF, hh, decide_eq_true h27]; rfl)
      · refine r_iconst (v := 0) dX4_fits_30 (by decide) ?_
        exact r_zret dX4_fits_31 rfl nar0 (by rw [htB, show B = (t + 1) + m by omega, ftF_mono (by rw [ftF, hh, decide_eq_false h27]; rfl) m]; rfl) (Nat.le_refl _) (Nat.le_refl _)
  refine r_iconst (v := 0) dX4_fits_0 (by decide) ?_
  refine r_istore_n dX4_fits_1 (by decide) ?_
  refine r_lv (lv' := [(0, .ref 103), (1, .int r), (2, .int e), (3, .int (nI 0))]) (al_cons rfl (al_cons rfl (al_cons rfl (al_int rfl (by exact (cI 0)) al_nil)))) ?_
  exact key B 0 (by omega) rfl

set_option maxRecDepth 100000 in
set_option maxHeartbeats 4000000 in
theorem c_fitting {im : IM} {pl it : Nat} (hB0 : HH im) {e : Int32} {D : Nat} (hD : e = nI D) (hD30 : D ≤ 30) : MT YX4_fitting 2 0 0 [.ref 103, .int e] 137 im (RR pl it) (some (.int (fgF (im 104) (im 105) e (tn (im 103 2)) D)), 137, im, RR pl it) := by
  obtain ⟨B, hB, hB15⟩ := id hB0
  have htB : tn (im 103 2) = B := by rw [hB, tn_nI (by omega)]
  refine mt_of (by decide +kernel) (Nat.le_of_ble_eq_true rfl) ?_
  show WW _ _ _ _ _ _ _ 0 [(0, .ref 103), (1, .int e)] [] _ _ _
  refine r_iconst (v := 0) dX4_fitting_0 (by decide) ?_
  refine r_istore_n dX4_fitting_1 (by decide) ?_
  refine r_iconst (v := 0) dX4_fitting_2 (by decide) ?_
  refine r_istore_n dX4_fitting_3 (by decide) ?_
  refine r_lv (lv' := [(0, .ref 103), (1, .int e), (2, .int (fgF (im 104) (im 105) e (tn (im 103 2)) 0)), (3, .int (nI 0))]) (al_cons rfl (al_cons rfl (al_int rfl rfl (al_int rfl (by exact (cI 0)) al_nil)))) ?_
  refine WW.loop (fun t => [(0, .ref 103), (1, .int e), (2, .int (fgF (im 104) (im 105) e (tn (im 103 2)) t)), (3, .int (nI t))]) (fun _ => im) (N := D) ?_ ?_ 0 (Nat.zero_le _)
  · show WW _ _ _ _ _ _ _ 4 [(0, .ref 103), (1, .int e), (2, .int (fgF (im 104) (im 105) e (tn (im 103 2)) D)), (3, .int (nI D))] _ _ _ _
    refine r_iload_n dX4_fitting_4 rfl ?_
    refine r_iload_n dX4_fitting_5 rfl ?_
    refine r_icmp_ge_t (tgt := 30) dX4_fitting_6 (by decide) (ix_le hD rfl (by omega) (by omega)) ?_
    refine r_iload_n dX4_fitting_30 rfl ?_
    exact r_iret dX4_fitting_31 rfl rfl (Nat.le_refl _) (Nat.le_refl _)
  · intro t ht iht
    show WW _ _ _ _ _ _ _ 4 [(0, .ref 103), (1, .int e), (2, .int (fgF (im 104) (im 105) e (tn (im 103 2)) t)), (3, .int (nI t))] _ _ _ _
    refine r_iload_n dX4_fitting_4 rfl ?_
    refine r_iload_n dX4_fitting_5 rfl ?_
    refine r_icmp_ge_f (tgt := 30) dX4_fitting_6 (by decide) (ix_nle hD rfl (by omega) (by omega)) ?_
    refine r_aload_n dX4_fitting_9 rfl ?_
    refine r_iload_n dX4_fitting_10 rfl ?_
    refine r_iload_n dX4_fitting_11 rfl ?_
    refine r_V2s cv_X4_23 dX4_fitting_12 (c_fits hB0 (nI t) e) ⟨by decide, by decide⟩ kd_103 ln_103 cl_4 (Nat.le_of_ble_eq_true rfl) ⟨Nat.le_refl _, Nat.le_refl _⟩ ?_
    refine r_bz_eq (tgt := 24) dX4_fitting_15 (by decide) (fun h15 => ?_) (fun h15 => ?_)
    · refine r_iinc dX4_fitting_24 rfl (by decide) (ix_inc rfl) ?_
      refine r_goto (tgt := 4) dX4_fitting_27 (by decide) ?_
      refine r_lv (lv' := [(0, .ref 103), (1, .int e), (2, .int (fgF (im 104) (im 105) e (tn (im 103 2)) (t + 1))), (3, .int (nI (t + 1)))]) (al_cons rfl (al_cons rfl (al_int rfl (by simp only [fgF, eq_self, Bool.false_eq_true, Bool.true_eq_false, if_true, if_false, reduceIte, true_and, and_true, false_and, and_false, true_or, or_true, false_or, or_false, not_true_eq_false, not_false_eq_true, Bool.not_true, Bool.not_false, Bool.true_and, Bool.and_true, Bool.false_and, Bool.and_false, decide_true, decide_false, h15]) (al_cons rfl al_nil)))) ?_
      exact iht
    · refine r_iload_n dX4_fitting_18 rfl ?_
      refine r_iconst (v := 1) dX4_fitting_19 (by decide) ?_
      refine r_iload_n dX4_fitting_20 rfl ?_
      refine r_ishl dX4_fitting_21 ?_
      refine r_ior dX4_fitting_22 ?_
      refine r_istore_n dX4_fitting_23 (by decide) ?_
      refine r_iinc dX4_fitting_24 rfl (by decide) (ix_inc rfl) ?_
      refine r_goto (tgt := 4) dX4_fitting_27 (by decide) ?_
      refine r_lv (lv' := [(0, .ref 103), (1, .int e), (2, .int (fgF (im 104) (im 105) e (tn (im 103 2)) (t + 1))), (3, .int (nI (t + 1)))]) (al_cons rfl (al_cons rfl (al_int rfl (by simp only [fgF, eq_self, Bool.false_eq_true, Bool.true_eq_false, if_true, if_false, reduceIte, true_and, and_true, false_and, and_false, true_or, or_true, false_or, or_false, not_true_eq_false, not_false_eq_true, Bool.not_true, Bool.not_false, Bool.true_and, Bool.and_true, Bool.false_and, Bool.and_false, decide_true, decide_false, h15]) (al_cons rfl al_nil)))) ?_
      exact iht

set_option maxRecDepth 100000 in
set_option maxHeartbeats 4000000 in
theorem c_greaterPart {n : Nat} {im : IM} {rm : RM} (s x : Int32) {e : Int32} {D : Nat} (hD : e = nI D) (hD30 : D ≤ 30) : MT YX4_greaterPart 1 0 0 [.int s, .int x, .int e] n im rm (some (.int (gpS s x e)), n, im, rm) := by
  refine mt_of (by decide +kernel) (Nat.le_of_ble_eq_true rfl) ?_
  show WW _ _ _ _ _ _ _ 0 [(0, .int s), (1, .int x), (2, .int e)] [] _ _ _
  refine r_iconst (v := 0) dX4_greaterPart_0 (by decide) ?_
  refine r_istore_n dX4_greaterPart_1 (by decide) ?_
  refine r_iconst (v := 0) dX4_greaterPart_2 (by decide) ?_
  refine r_istore dX4_greaterPart_3 (by decide) ?_
  refine r_lv (lv' := [(0, .int s), (1, .int x), (2, .int e), (3, .int (ysF s x e 0)), (4, .int (nI 0))]) (al_cons rfl (al_cons rfl (al_cons rfl (al_int rfl rfl (al_int rfl (by exact (cI 0)) al_nil))))) ?_
  refine WW.loop (fun t => [(0, .int s), (1, .int x), (2, .int e), (3, .int (ysF s x e t)), (4, .int (nI t))]) (fun _ => im) (N := D) ?_ ?_ 0 (Nat.zero_le _)
  · show WW _ _ _ _ _ _ _ 5 [(0, .int s), (1, .int x), (2, .int e), (3, .int (ysF s x e D)), (4, .int (nI D))] _ _ _ _
    refine r_iload dX4_greaterPart_5 rfl ?_
    refine r_iload_n dX4_greaterPart_7 rfl ?_
    refine r_icmp_ge_t (tgt := 39) dX4_greaterPart_8 (by decide) (ix_le hD rfl (by omega) (by omega)) ?_
    refine r_iload_n dX4_greaterPart_39 rfl ?_
    refine r_iload_n dX4_greaterPart_40 rfl ?_
    refine r_S1s cv_X4_35 dX4_greaterPart_41 (c_bitCount s) ⟨by decide, by decide⟩ (Nat.le_of_ble_eq_true rfl) ⟨Nat.le_refl _, Nat.le_refl _⟩ ?_
    refine r_iload_n dX4_greaterPart_44 rfl ?_
    refine r_isub dX4_greaterPart_45 ?_
    refine r_max cv_X4_47 dX4_greaterPart_46 (by decide) (Nat.le_of_ble_eq_true rfl) ⟨Nat.le_refl _, Nat.le_refl _⟩ ?_
    exact r_iret dX4_greaterPart_49 rfl (by rw [gpS, hD, tn_nI (by omega)]) (Nat.le_refl _) (Nat.le_refl _)
  · intro t ht iht
    show WW _ _ _ _ _ _ _ 5 [(0, .int s), (1, .int x), (2, .int e), (3, .int (ysF s x e t)), (4, .int (nI t))] _ _ _ _
    refine r_iload dX4_greaterPart_5 rfl ?_
    refine r_iload_n dX4_greaterPart_7 rfl ?_
    refine r_icmp_ge_f (tgt := 39) dX4_greaterPart_8 (by decide) (ix_nle hD rfl (by omega) (by omega)) ?_
    refine r_iload_n dX4_greaterPart_11 rfl ?_
    refine r_iload dX4_greaterPart_12 rfl ?_
    refine r_N2s cv_X4_44 dX4_greaterPart_14 (c_has s (nI t)) ⟨by decide, by decide⟩ (Nat.le_of_ble_eq_true rfl) ⟨Nat.le_refl _, Nat.le_refl _⟩ ?_
    refine r_bz_eq (tgt := 33) dX4_greaterPart_17 (by decide) (fun h17 => ?_) (fun h17 => ?_)
    · refine r_iinc dX4_greaterPart_33 rfl (by decide) (ix_inc rfl) ?_
      refine r_goto (tgt := 5) dX4_greaterPart_36 (by decide) ?_
      refine r_lv (lv' := [(0, .int s), (1, .int x), (2, .int e), (3, .int (ysF s x e (t + 1))), (4, .int (nI (t + 1)))]) (al_cons rfl (al_cons rfl (al_cons rfl (al_int rfl (by simp only [ysF, eq_self, Bool.false_eq_true, Bool.true_eq_false, if_true, if_false, reduceIte, true_and, and_true, false_and, and_false, true_or, or_true, false_or, or_false, not_true_eq_false, not_false_eq_true, Bool.not_true, Bool.not_false, Bool.true_and, Bool.and_true, Bool.false_and, Bool.and_false, decide_true, decide_false, h17]; try rfl) (al_cons rfl al_nil))))) ?_
      exact iht
    · refine r_iload_n dX4_greaterPart_20 rfl ?_
      refine r_iload dX4_greaterPart_21 rfl ?_
      refine r_iload_n dX4_greaterPart_23 rfl ?_
      refine r_S3s cv_X4_27 dX4_greaterPart_24 (c_gotMoney x (nI t) e) ⟨by decide, by decide⟩ (Nat.le_of_ble_eq_true rfl) ⟨Nat.le_refl _, Nat.le_refl _⟩ ?_
      refine r_bz_eq (tgt := 33) dX4_greaterPart_27 (by decide) (fun h27 => ?_) (fun h27 => ?_)
      · refine r_iinc dX4_greaterPart_33 rfl (by decide) (ix_inc rfl) ?_
        refine r_goto (tgt := 5) dX4_greaterPart_36 (by decide) ?_
        refine r_lv (lv' := [(0, .int s), (1, .int x), (2, .int e), (3, .int (ysF s x e (t + 1))), (4, .int (nI (t + 1)))]) (al_cons rfl (al_cons rfl (al_cons rfl (al_int rfl (by simp only [ysF, eq_self, Bool.false_eq_true, Bool.true_eq_false, if_true, if_false, reduceIte, true_and, and_true, false_and, and_false, true_or, or_true, false_or, or_false, not_true_eq_false, not_false_eq_true, Bool.not_true, Bool.not_false, Bool.true_and, Bool.and_true, Bool.false_and, Bool.and_false, decide_true, decide_false, h17, h27]; try rfl) (al_cons rfl al_nil))))) ?_
        exact iht
      · refine r_iinc dX4_greaterPart_30 rfl (by decide) rfl ?_
        refine r_iinc dX4_greaterPart_33 rfl (by decide) (ix_inc rfl) ?_
        refine r_goto (tgt := 5) dX4_greaterPart_36 (by decide) ?_
        refine r_lv (lv' := [(0, .int s), (1, .int x), (2, .int e), (3, .int (ysF s x e (t + 1))), (4, .int (nI (t + 1)))]) (al_cons rfl (al_cons rfl (al_cons rfl (al_int rfl (by simp only [ysF, eq_self, Bool.false_eq_true, Bool.true_eq_false, if_true, if_false, reduceIte, true_and, and_true, false_and, and_false, true_or, or_true, false_or, or_false, not_true_eq_false, not_false_eq_true, Bool.not_true, Bool.not_false, Bool.true_and, Bool.and_true, Bool.false_and, Bool.and_false, decide_true, decide_false, h17, h27]; try rfl) (al_cons rfl al_nil))))) ?_
        exact iht

set_option maxRecDepth 100000 in
set_option maxHeartbeats 4000000 in
theorem c_bestQ {im : IM} {pl it : Nat} (hB0 : HH im) {e : Int32} {D : Nat} (hD : e = nI D) (hD30 : D ≤ 30) : MT YX4_bestQuestion 3 0 0 [.ref 103, .int e] 137 im (RR pl it) (some (.int ((bqF (fgF (im 104) (im 105) e (tn (im 103 2)) D) e 60).1)), 137, im, RR pl it) := by
  obtain ⟨B, hB, hB15⟩ := id hB0
  have htB : tn (im 103 2) = B := by rw [hB, tn_nI (by omega)]
  refine mt_of (by decide +kernel) (Nat.le_of_ble_eq_true rfl) ?_
  show WW _ _ _ _ _ _ _ 0 [(0, .ref 103), (1, .int e)] [] _ _ _
  refine r_aload_n dX4_bestQuestion_0 rfl ?_
  refine r_iload_n dX4_bestQuestion_1 rfl ?_
  refine r_V1s cv_X4_31 dX4_bestQuestion_2 (c_fitting hB0 hD hD30) ⟨by decide, by decide⟩ kd_103 ln_103 cl_4 (Nat.le_of_ble_eq_true rfl) ⟨Nat.le_refl _, Nat.le_refl _⟩ ?_
  refine r_istore_n dX4_bestQuestion_5 (by decide) ?_
  refine r_iconst (v := (-1)) dX4_bestQuestion_6 (by decide) ?_
  refine r_istore_n dX4_bestQuestion_7 (by decide) ?_
  refine r_iload_n dX4_bestQuestion_8 rfl ?_
  refine r_S1s cv_X4_35 dX4_bestQuestion_9 (c_bitCount (fgF (im 104) (im 105) e (tn (im 103 2)) D)) ⟨by decide, by decide⟩ (Nat.le_of_ble_eq_true rfl) ⟨Nat.le_refl _, Nat.le_refl _⟩ ?_
  refine r_istore dX4_bestQuestion_12 (by decide) ?_
  refine r_iconst (v := 0) dX4_bestQuestion_14 (by decide) ?_
  refine r_istore dX4_bestQuestion_15 (by decide) ?_
  refine r_lv (lv' := [(0, .ref 103), (1, .int e), (2, .int (fgF (im 104) (im 105) e (tn (im 103 2)) D)), (3, .int ((bqF (fgF (im 104) (im 105) e (tn (im 103 2)) D) e 0).1)), (4, .int ((bqF (fgF (im 104) (im 105) e (tn (im 103 2)) D) e 0).2)), (5, .int (nI 0))]) (al_cons rfl (al_cons rfl (al_cons rfl (al_int rfl rfl (al_int rfl rfl (al_int rfl (by exact (cI 0)) al_nil)))))) ?_
  refine WW.loop (fun t => [(0, .ref 103), (1, .int e), (2, .int (fgF (im 104) (im 105) e (tn (im 103 2)) D)), (3, .int ((bqF (fgF (im 104) (im 105) e (tn (im 103 2)) D) e t).1)), (4, .int ((bqF (fgF (im 104) (im 105) e (tn (im 103 2)) D) e t).2)), (5, .int (nI t))]) (fun _ => im) (N := 60) ?_ ?_ 0 (Nat.zero_le _)
  · show WW _ _ _ _ _ _ _ 17 [(0, .ref 103), (1, .int e), (2, .int (fgF (im 104) (im 105) e (tn (im 103 2)) D)), (3, .int ((bqF (fgF (im 104) (im 105) e (tn (im 103 2)) D) e 60).1)), (4, .int ((bqF (fgF (im 104) (im 105) e (tn (im 103 2)) D) e 60).2)), (5, .int (nI 60))] _ _ _ _
    refine r_iload dX4_bestQuestion_17 rfl ?_
    refine r_bipush (v := 59) dX4_bestQuestion_19 (by decide) ?_
    refine r_icmp_gt_t (tgt := 53) dX4_bestQuestion_21 (by decide) (ix_lt (cI 59) rfl (by omega) (by omega)) ?_
    refine r_iload_n dX4_bestQuestion_53 rfl ?_
    exact r_iret dX4_bestQuestion_54 rfl rfl (Nat.le_refl _) (Nat.le_refl _)
  · intro t ht iht
    show WW _ _ _ _ _ _ _ 17 [(0, .ref 103), (1, .int e), (2, .int (fgF (im 104) (im 105) e (tn (im 103 2)) D)), (3, .int ((bqF (fgF (im 104) (im 105) e (tn (im 103 2)) D) e t).1)), (4, .int ((bqF (fgF (im 104) (im 105) e (tn (im 103 2)) D) e t).2)), (5, .int (nI t))] _ _ _ _
    refine r_iload dX4_bestQuestion_17 rfl ?_
    refine r_bipush (v := 59) dX4_bestQuestion_19 (by decide) ?_
    refine r_icmp_gt_f (tgt := 53) dX4_bestQuestion_21 (by decide) (ix_nlt (cI 59) rfl (by omega) (by omega)) ?_
    refine r_iload_n dX4_bestQuestion_24 rfl ?_
    refine r_iload dX4_bestQuestion_25 rfl ?_
    refine r_iload_n dX4_bestQuestion_27 rfl ?_
    refine r_S3s cv_X4_40 dX4_bestQuestion_28 (c_greaterPart (fgF (im 104) (im 105) e (tn (im 103 2)) D) (nI t) hD hD30) ⟨by decide, by decide⟩ (Nat.le_of_ble_eq_true rfl) ⟨Nat.le_refl _, Nat.le_refl _⟩ ?_
    refine r_istore dX4_bestQuestion_31 (by decide) ?_
    refine r_iload dX4_bestQuestion_33 rfl ?_
    refine r_iload dX4_bestQuestion_35 rfl ?_
    refine r_icmp_ge (tgt := 47) dX4_bestQuestion_37 (by decide) (fun h37 => ?_) (fun h37 => ?_)
    · refine r_iinc dX4_bestQuestion_47 rfl (by decide) (ix_inc rfl) ?_
      refine r_goto (tgt := 17) dX4_bestQuestion_50 (by decide) ?_
      refine r_lv (lv' := [(0, .ref 103), (1, .int e), (2, .int (fgF (im 104) (im 105) e (tn (im 103 2)) D)), (3, .int ((bqF (fgF (im 104) (im 105) e (tn (im 103 2)) D) e (t + 1)).1)), (4, .int ((bqF (fgF (im 104) (im 105) e (tn (im 103 2)) D) e (t + 1)).2)), (5, .int (nI (t + 1)))]) (al_cons rfl (al_cons rfl (al_cons rfl (al_int rfl (by simp only [bqF, eq_self, Bool.false_eq_true, Bool.true_eq_false, if_true, if_false, reduceIte, true_and, and_true, false_and, and_false, true_or, or_true, false_or, or_false, not_true_eq_false, not_false_eq_true, Bool.not_true, Bool.not_false, Bool.true_and, Bool.and_true, Bool.false_and, Bool.and_false, decide_true, decide_false, h37]) (al_int rfl (by simp only [bqF, eq_self, Bool.false_eq_true, Bool.true_eq_false, if_true, if_false, reduceIte, true_and, and_true, false_and, and_false, true_or, or_true, false_or, or_false, not_true_eq_false, not_false_eq_true, Bool.not_true, Bool.not_false, Bool.true_and, Bool.and_true, Bool.false_and, Bool.and_false, decide_true, decide_false, h37]) (al_cons rfl al_nil)))))) ?_
      exact iht
    · refine r_iload dX4_bestQuestion_40 rfl ?_
      refine r_istore_n dX4_bestQuestion_42 (by decide) ?_
      refine r_iload dX4_bestQuestion_43 rfl ?_
      refine r_istore dX4_bestQuestion_45 (by decide) ?_
      refine r_iinc dX4_bestQuestion_47 rfl (by decide) (ix_inc rfl) ?_
      refine r_goto (tgt := 17) dX4_bestQuestion_50 (by decide) ?_
      refine r_lv (lv' := [(0, .ref 103), (1, .int e), (2, .int (fgF (im 104) (im 105) e (tn (im 103 2)) D)), (3, .int ((bqF (fgF (im 104) (im 105) e (tn (im 103 2)) D) e (t + 1)).1)), (4, .int ((bqF (fgF (im 104) (im 105) e (tn (im 103 2)) D) e (t + 1)).2)), (5, .int (nI (t + 1)))]) (al_cons rfl (al_cons rfl (al_cons rfl (al_int rfl (by simp only [bqF, eq_self, Bool.false_eq_true, Bool.true_eq_false, if_true, if_false, reduceIte, true_and, and_true, false_and, and_false, true_or, or_true, false_or, or_false, not_true_eq_false, not_false_eq_true, Bool.not_true, Bool.not_false, Bool.true_and, Bool.and_true, Bool.false_and, Bool.and_false, decide_true, decide_false, h37]) (al_int rfl (by simp only [bqF, eq_self, Bool.false_eq_true, Bool.true_eq_false, if_true, if_false, reduceIte, true_and, and_true, false_and, and_false, true_or, or_true, false_or, or_false, not_true_eq_false, not_false_eq_true, Bool.not_true, Bool.not_false, Bool.true_and, Bool.and_true, Bool.false_and, Bool.and_false, decide_true, decide_false, h37]) (al_cons rfl al_nil)))))) ?_
      exact iht

set_option maxRecDepth 100000 in
set_option maxHeartbeats 4000000 in
theorem c_paid {im : IM} {pl it : Nat} (hc : CA im pl) (hB0 : HH im) (hd : HD im pl) : MT YX8_paid 3 0 0 [.ref 0] 137 im (RR pl it) (some (.int (if decide (0 < im pl 0) = false then (-1000000003) else fgF (im 104) (im 105) (im pl 10) (tn (im 103 2)) (tn (im pl 10)))), 137, im, RR pl it) := by
  obtain ⟨hC, W, T, S, hW, hW8, hT, hT6, hS, hS5⟩ := id hc
  have htW : tn (im pl 0) = W := by rw [hW, tn_nI (by omega)]
  have htT : tn (im pl 2) = T := by rw [hT, tn_nI (by omega)]
  have htS : tn (im pl 6) = S := by rw [hS, tn_nI (by omega)]
  obtain ⟨D, hD, hD30⟩ := id hd
  have htD : tn (im pl 10) = D := by rw [hD, tn_nI (by omega)]
  refine mt_of (by decide +kernel) (Nat.le_of_ble_eq_true rfl) ?_
  show WW _ _ _ _ _ _ _ 0 [(0, .ref 0)] [] _ _ _
  refine r_aload_n dX8_paid_0 rfl ?_
  refine r_getr fl_X8_23 dX8_paid_1 kd_0 ln_0 rfl rfl ?_
  refine r_V0s cv_X8_198 dX8_paid_4 (c_stands hc) ⟨by decide, by decide⟩ (kC0 hC) (lC0 hC) cl_2 (Nat.le_of_ble_eq_true rfl) ⟨Nat.le_refl _, Nat.le_refl _⟩ ?_
  refine r_bz_eq (tgt := 27) dX8_paid_7 (by decide) (fun h7 => ?_) (fun h7 => ?_)
  · refine r_ldc dX8_paid_27 kn_X8_197 ?_
    exact r_iret dX8_paid_29 rfl (by simp only [eq_self, Bool.false_eq_true, Bool.true_eq_false, if_true, if_false, reduceIte, htD, h7]) (Nat.le_refl _) (Nat.le_refl _)
  · refine r_aload_n dX8_paid_10 rfl ?_
    refine r_getr fl_X8_44 dX8_paid_11 kd_0 ln_0 rfl rfl ?_
    refine r_aload_n dX8_paid_14 rfl ?_
    refine r_getr fl_X8_23 dX8_paid_15 kd_0 ln_0 rfl rfl ?_
    refine r_geti fl_X8_108 dX8_paid_18 (kC0 hC) (lC0 hC) rfl ?_
    refine r_V1s cv_X8_252 dX8_paid_21 (c_fitting hB0 hD hD30) ⟨by decide, by decide⟩ kd_103 ln_103 cl_4 (Nat.le_of_ble_eq_true rfl) ⟨Nat.le_refl _, Nat.le_refl _⟩ ?_
    refine r_goto (tgt := 29) dX8_paid_24 (by decide) ?_
    exact r_iret dX8_paid_29 rfl (by simp only [eq_self, Bool.false_eq_true, Bool.true_eq_false, if_true, if_false, reduceIte, htD, h7]) (Nat.le_refl _) (Nat.le_refl _)

set_option maxRecDepth 100000 in
set_option maxHeartbeats 4000000 in
theorem c_ask {im : IM} {pl it : Nat} (hc : CA im pl) (hB0 : HH im) (hd : HD im pl) : MT YX8_ask 4 0 0 [.ref 0] 137 im (RR pl it) (some (.int (if decide (0 < im pl 0) = false then (-1000000003) else (bqF (fgF (im 104) (im 105) (im pl 10) (tn (im 103 2)) (tn (im pl 10))) (im pl 10) 60).1)), 137, im, RR pl it) := by
  obtain ⟨hC, W, T, S, hW, hW8, hT, hT6, hS, hS5⟩ := id hc
  have htW : tn (im pl 0) = W := by rw [hW, tn_nI (by omega)]
  have htT : tn (im pl 2) = T := by rw [hT, tn_nI (by omega)]
  have htS : tn (im pl 6) = S := by rw [hS, tn_nI (by omega)]
  obtain ⟨D, hD, hD30⟩ := id hd
  have htD : tn (im pl 10) = D := by rw [hD, tn_nI (by omega)]
  refine mt_of (by decide +kernel) (Nat.le_of_ble_eq_true rfl) ?_
  show WW _ _ _ _ _ _ _ 0 [(0, .ref 0)] [] _ _ _
  refine r_aload_n dX8_ask_0 rfl ?_
  refine r_getr fl_X8_23 dX8_ask_1 kd_0 ln_0 rfl rfl ?_
  refine r_V0s cv_X8_198 dX8_ask_4 (c_stands hc) ⟨by decide, by decide⟩ (kC0 hC) (lC0 hC) cl_2 (Nat.le_of_ble_eq_true rfl) ⟨Nat.le_refl _, Nat.le_refl _⟩ ?_
  refine r_bz_eq (tgt := 27) dX8_ask_7 (by decide) (fun h7 => ?_) (fun h7 => ?_)
  · refine r_ldc dX8_ask_27 kn_X8_197 ?_
    exact r_iret dX8_ask_29 rfl (by simp only [eq_self, Bool.false_eq_true, Bool.true_eq_false, if_true, if_false, reduceIte, htD, h7]) (Nat.le_refl _) (Nat.le_refl _)
  · refine r_aload_n dX8_ask_10 rfl ?_
    refine r_getr fl_X8_44 dX8_ask_11 kd_0 ln_0 rfl rfl ?_
    refine r_aload_n dX8_ask_14 rfl ?_
    refine r_getr fl_X8_23 dX8_ask_15 kd_0 ln_0 rfl rfl ?_
    refine r_geti fl_X8_108 dX8_ask_18 (kC0 hC) (lC0 hC) rfl ?_
    refine r_V1s cv_X8_255 dX8_ask_21 (c_bestQ hB0 hD hD30) ⟨by decide, by decide⟩ kd_103 ln_103 cl_4 (Nat.le_of_ble_eq_true rfl) ⟨Nat.le_refl _, Nat.le_refl _⟩ ?_
    refine r_goto (tgt := 29) dX8_ask_24 (by decide) ?_
    exact r_iret dX8_ask_29 rfl (by simp only [eq_self, Bool.false_eq_true, Bool.true_eq_false, if_true, if_false, reduceIte, htD, h7]) (Nat.le_refl _) (Nat.le_refl _)

set_option maxRecDepth 100000 in
set_option maxHeartbeats 4000000 in
theorem c_judge {im : IM} {pl it : Nat} (hc : CA im pl) (hB0 : HB im) : MT YX8_judge 3 0 0 [.ref 0] 137 im (RR pl it) (some (.int (foF (im 107) (wlX im pl) 0 (tn (im 106 1)))), 137, im, RR pl it) := by
  obtain ⟨hC, W, T, S, hW, hW8, hT, hT6, hS, hS5⟩ := id hc
  have htW : tn (im pl 0) = W := by rw [hW, tn_nI (by omega)]
  have htT : tn (im pl 2) = T := by rw [hT, tn_nI (by omega)]
  have htS : tn (im pl 6) = S := by rw [hS, tn_nI (by omega)]
  refine mt_of (by decide +kernel) (Nat.le_of_ble_eq_true rfl) ?_
  show WW _ _ _ _ _ _ _ 0 [(0, .ref 0)] [] _ _ _
  refine r_aload_n dX8_judge_0 rfl ?_
  refine r_getr fl_X8_51 dX8_judge_1 kd_0 ln_0 rfl rfl ?_
  refine r_aload_n dX8_judge_4 rfl ?_
  refine r_V0s cv_X8_127 dX8_judge_5 (c_waysLeft hc) ⟨by decide, by decide⟩ kd_0 ln_0 cl_8 (Nat.le_of_ble_eq_true rfl) ⟨Nat.le_refl _, Nat.le_refl _⟩ ?_
  refine r_V1s cv_X8_259 dX8_judge_8 (c_firstOther hB0 (wlX im pl)) ⟨by decide, by decide⟩ kd_106 ln_106 cl_1 (Nat.le_of_ble_eq_true rfl) ⟨Nat.le_refl _, Nat.le_refl _⟩ ?_
  exact r_iret dX8_judge_11 rfl rfl (Nat.le_refl _) (Nat.le_refl _)

set_option maxRecDepth 100000 in
set_option maxHeartbeats 4000000 in
theorem c_rdAdd {im : IM} {pl it : Nat} (hL0 : HL im) (x : Int32) : MT YX7_add 0 0 0 [.ref 1, .int x] 137 im (RR pl it) (some (.int (bI (decide (im 1 1 < 240)))), 137, rdX im x, RR pl it) := by
  obtain ⟨L, hL, hL240⟩ := id hL0
  have htL : tn (im 1 1) = L := by rw [hL, tn_nI (by omega)]
  refine mt_of (by decide +kernel) (Nat.le_of_ble_eq_true rfl) ?_
  show WW _ _ _ _ _ _ _ 0 [(0, .ref 1), (1, .int x)] [] _ _ _
  refine r_aload_n dX7_add_0 rfl ?_
  refine r_geti fl_X7_15 dX7_add_1 kd_1 ln_1 rfl ?_
  refine r_sipush (v := 240) dX7_add_4 (by decide) ?_
  refine r_icmp_lt (tgt := 12) dX7_add_7 (by decide) (fun h7 => ?_) (fun h7 => ?_)
  · have hLl : L < 240 := lt_of_nI hL (cI 240) h7 (by omega) (by omega)
    refine r_aload_n dX7_add_12 rfl ?_
    refine r_getr fl_X7_9 dX7_add_13 kd_1 ln_1 rfl rfl ?_
    refine r_aload_n dX7_add_16 rfl ?_
    refine r_geti fl_X7_15 dX7_add_17 kd_1 ln_1 rfl ?_
    refine r_iload_n dX7_add_20 rfl ?_
    refine r_as (j := L) dX7_add_21 kd_2 ln_2 hL (by omega) (by decide) ?_
    refine r_aload_n dX7_add_22 rfl ?_
    refine r_dup dX7_add_23 rfl ?_
    refine r_getx (x := im 1 1) fl_X7_15 dX7_add_24 kd_1 ln_1 rfl (by simp only [st_at]; grind) ?_
    refine r_iconst (v := 1) dX7_add_27 (by decide) ?_
    refine r_iadd dX7_add_28 ?_
    refine r_pi fl_X7_15 dX7_add_29 kd_1 ln_1 rfl ?_
    refine r_iconst (v := 1) dX7_add_32 (by decide) ?_
    exact r_zret dX7_add_33 rfl nar1 (by simp only [rdX, bI, decide_true, decide_false, eq_self, Bool.false_eq_true, Bool.true_eq_false, if_true, if_false, reduceIte, h7, htL]) (Nat.le_refl _) (Nat.le_refl _)
  · refine r_iconst (v := 0) dX7_add_10 (by decide) ?_
    exact r_zret dX7_add_11 rfl nar0 (by simp only [rdX, bI, decide_true, decide_false, eq_self, Bool.false_eq_true, Bool.true_eq_false, if_true, if_false, reduceIte, h7]) (Nat.le_refl _) (Nat.le_refl _)

set_option maxRecDepth 100000 in
set_option maxHeartbeats 4000000 in
theorem c_feed {im : IM} {pl it : Nat} (hL0 : HL im) (x : Int32) : MT YX8_feed 1 0 0 [.ref 0, .int x] 137 im (RR pl it) (some (.int (fdV im x)), 137, fdX im x, RR pl it) := by
  refine mt_of (by decide +kernel) (Nat.le_of_ble_eq_true rfl) ?_
  show WW _ _ _ _ _ _ _ 0 [(0, .ref 0), (1, .int x)] [] _ _ _
  refine r_iload_n dX8_feed_0 rfl ?_
  refine r_iconst (v := 0) dX8_feed_1 (by decide) ?_
  refine r_sipush (v := 255) dX8_feed_2 (by decide) ?_
  refine r_S3s cv_X8_69 dX8_feed_5 (c_within x 0 255) ⟨by decide, by decide⟩ (Nat.le_of_ble_eq_true rfl) ⟨Nat.le_refl _, Nat.le_refl _⟩ ?_
  refine r_bz_ne (tgt := 14) dX8_feed_8 (by decide) (fun h8 => ?_) (fun h8 => ?_)
  · refine r_aload_n dX8_feed_14 rfl ?_
    refine r_getr fl_X8_16 dX8_feed_15 kd_0 ln_0 rfl rfl ?_
    refine r_iload_n dX8_feed_18 rfl ?_
    refine r_V1s cv_X8_74 dX8_feed_19 (c_rdAdd hL0 x) ⟨by decide, by decide⟩ kd_1 ln_1 cl_7 (Nat.le_of_ble_eq_true rfl) ⟨Nat.le_refl _, Nat.le_refl _⟩ ?_
    refine r_bz_eq (tgt := 35) dX8_feed_22 (by decide) (fun h22 => ?_) (fun h22 => ?_)
    · refine r_ldc dX8_feed_35 kn_X8_81 ?_
      exact r_iret dX8_feed_37 rfl (by simp only [fdV, fdX, rdX, eq_self, Bool.false_eq_true, Bool.true_eq_false, if_true, if_false, reduceIte, h8, if_neg (of_decide_eq_false h22)]) (Nat.le_refl _) (Nat.le_refl _)
    · refine r_aload_n dX8_feed_25 rfl ?_
      refine r_getr fl_X8_16 dX8_feed_26 kd_0 ln_0 rfl rfl ?_
      refine r_getx (x := im 1 1 + 1) fl_X8_78 dX8_feed_29 kd_1 ln_1 rfl (by unfold rdX; rw [if_pos (of_decide_eq_true h22), st_same]) ?_
      refine r_goto (tgt := 37) dX8_feed_32 (by decide) ?_
      exact r_iret dX8_feed_37 rfl (by simp only [fdV, fdX, rdX, eq_self, Bool.false_eq_true, Bool.true_eq_false, if_true, if_false, reduceIte, h8, if_pos (of_decide_eq_true h22)]) (Nat.le_refl _) (Nat.le_refl _)
  · refine r_ldc dX8_feed_11 kn_X8_73 ?_
    exact r_iret dX8_feed_13 rfl (by simp only [fdV, fdX, rdX, eq_self, Bool.false_eq_true, Bool.true_eq_false, if_true, if_false, reduceIte, h8]) (Nat.le_refl _) (Nat.le_refl _)

set_option maxRecDepth 100000 in
set_option maxHeartbeats 4000000 in
theorem c_hear {im : IM} {pl it : Nat} (hc : CA im pl) (hB0 : HH im) (x g : Int32) (hg : b01 g) : MT YX8_hear 1 0 0 [.ref 0, .int x, .int g] 137 im (RR pl it) (some (.int (if inB x 0 59 = false then (-1000000002) else if decide (0 < im pl 0) = false then (-1000000003) else if im 103 2 < 6 then im 103 2 + 1 else (-1000000004))), 137, if inB x 0 59 = false then im else if decide (0 < im pl 0) = false then im else hsX im x g, RR pl it) := by
  obtain ⟨hC, W, T, S, hW, hW8, hT, hT6, hS, hS5⟩ := id hc
  have htW : tn (im pl 0) = W := by rw [hW, tn_nI (by omega)]
  have htT : tn (im pl 2) = T := by rw [hT, tn_nI (by omega)]
  have htS : tn (im pl 6) = S := by rw [hS, tn_nI (by omega)]
  refine mt_of (by decide +kernel) (Nat.le_of_ble_eq_true rfl) ?_
  show WW _ _ _ _ _ _ _ 0 [(0, .ref 0), (1, .int x), (2, .int g)] [] _ _ _
  refine r_iload_n dX8_hear_0 rfl ?_
  refine r_iconst (v := 0) dX8_hear_1 (by decide) ?_
  refine r_bipush (v := 59) dX8_hear_2 (by decide) ?_
  refine r_S3s cv_X8_69 dX8_hear_4 (c_within x 0 59) ⟨by decide, by decide⟩ (Nat.le_of_ble_eq_true rfl) ⟨Nat.le_refl _, Nat.le_refl _⟩ ?_
  refine r_bz_ne (tgt := 13) dX8_hear_7 (by decide) (fun h7 => ?_) (fun h7 => ?_)
  · refine r_aload_n dX8_hear_13 rfl ?_
    refine r_getr fl_X8_23 dX8_hear_14 kd_0 ln_0 rfl rfl ?_
    refine r_V0s cv_X8_198 dX8_hear_17 (c_stands hc) ⟨by decide, by decide⟩ (kC0 hC) (lC0 hC) cl_2 (Nat.le_of_ble_eq_true rfl) ⟨Nat.le_refl _, Nat.le_refl _⟩ ?_
    refine r_bz_ne (tgt := 26) dX8_hear_20 (by decide) (fun h20 => ?_) (fun h20 => ?_)
    · refine r_aload_n dX8_hear_26 rfl ?_
      refine r_getr fl_X8_44 dX8_hear_27 kd_0 ln_0 rfl rfl ?_
      refine r_iload_n dX8_hear_30 rfl ?_
      refine r_iload_n dX8_hear_31 rfl ?_
      refine r_V2s cv_X8_249 dX8_hear_32 (c_hearAdd hB0 x g hg) ⟨by decide, by decide⟩ kd_103 ln_103 cl_4 (Nat.le_of_ble_eq_true rfl) ⟨Nat.le_refl _, Nat.le_refl _⟩ ?_
      refine r_bz_eq (tgt := 48) dX8_hear_35 (by decide) (fun h35 => ?_) (fun h35 => ?_)
      · refine r_ldc dX8_hear_48 kn_X8_81 ?_
        exact r_iret dX8_hear_50 rfl (by simp only [eq_self, Bool.false_eq_true, Bool.true_eq_false, if_true, if_false, reduceIte, h7, h20, if_neg (of_decide_eq_false h35)]) (Nat.le_refl _) (Nat.le_refl _)
      · refine r_aload_n dX8_hear_38 rfl ?_
        refine r_getr fl_X8_44 dX8_hear_39 kd_0 ln_0 rfl rfl ?_
        refine r_getx (x := im 103 2 + 1) fl_X8_140 dX8_hear_42 kd_103 ln_103 rfl (by unfold hsX; rw [if_pos (of_decide_eq_true h35), st_same]) ?_
        refine r_goto (tgt := 50) dX8_hear_45 (by decide) ?_
        exact r_iret dX8_hear_50 rfl (by simp only [eq_self, Bool.false_eq_true, Bool.true_eq_false, if_true, if_false, reduceIte, h7, h20, if_pos (of_decide_eq_true h35)]) (Nat.le_refl _) (Nat.le_refl _)
    · refine r_ldc dX8_hear_23 kn_X8_197 ?_
      exact r_iret dX8_hear_25 rfl (by simp only [eq_self, Bool.false_eq_true, Bool.true_eq_false, if_true, if_false, reduceIte, h7, h20]) (Nat.le_refl _) (Nat.le_refl _)
  · refine r_ldc dX8_hear_10 kn_X8_73 ?_
    exact r_iret dX8_hear_12 rfl (by simp only [eq_self, Bool.false_eq_true, Bool.true_eq_false, if_true, if_false, reduceIte, h7]) (Nat.le_refl _) (Nat.le_refl _)

set_option maxRecDepth 100000 in
set_option maxHeartbeats 4000000 in
theorem c_write {im : IM} {pl it : Nat} (hc : CA im pl) (hB0 : HB im) (x : Int32) : MT YX8_write 2 0 0 [.ref 0, .int x] 137 im (RR pl it) (some (.int (if decide (x &&& (alS (im pl 0) ^^^ (-1)) = 0) = false then (-1000000001) else if im 106 1 < 15 then im 106 1 + 1 else (-1000000004))), 137, if decide (x &&& (alS (im pl 0) ^^^ (-1)) = 0) = false then im else bkX im x, RR pl it) := by
  obtain ⟨hC, W, T, S, hW, hW8, hT, hT6, hS, hS5⟩ := id hc
  have htW : tn (im pl 0) = W := by rw [hW, tn_nI (by omega)]
  have htT : tn (im pl 2) = T := by rw [hT, tn_nI (by omega)]
  have htS : tn (im pl 6) = S := by rw [hS, tn_nI (by omega)]
  refine mt_of (by decide +kernel) (Nat.le_of_ble_eq_true rfl) ?_
  show WW _ _ _ _ _ _ _ 0 [(0, .ref 0), (1, .int x)] [] _ _ _
  refine r_aload_n dX8_write_0 rfl ?_
  refine r_getr fl_X8_23 dX8_write_1 kd_0 ln_0 rfl rfl ?_
  refine r_iload_n dX8_write_4 rfl ?_
  refine r_V1s cv_X8_206 dX8_write_5 (c_hasWays hc x) ⟨by decide, by decide⟩ (kC0 hC) (lC0 hC) cl_2 (Nat.le_of_ble_eq_true rfl) ⟨Nat.le_refl _, Nat.le_refl _⟩ ?_
  refine r_bz_ne (tgt := 14) dX8_write_8 (by decide) (fun h8 => ?_) (fun h8 => ?_)
  · refine r_aload_n dX8_write_14 rfl ?_
    refine r_getr fl_X8_51 dX8_write_15 kd_0 ln_0 rfl rfl ?_
    refine r_iload_n dX8_write_18 rfl ?_
    refine r_V1s cv_X8_258 dX8_write_19 (c_bookAdd hB0 x) ⟨by decide, by decide⟩ kd_106 ln_106 cl_1 (Nat.le_of_ble_eq_true rfl) ⟨Nat.le_refl _, Nat.le_refl _⟩ ?_
    refine r_bz_eq (tgt := 35) dX8_write_22 (by decide) (fun h22 => ?_) (fun h22 => ?_)
    · refine r_ldc dX8_write_35 kn_X8_81 ?_
      exact r_iret dX8_write_37 rfl (by simp only [eq_self, Bool.false_eq_true, Bool.true_eq_false, if_true, if_false, reduceIte, h8, if_neg (of_decide_eq_false h22)]) (Nat.le_refl _) (Nat.le_refl _)
    · refine r_aload_n dX8_write_25 rfl ?_
      refine r_getr fl_X8_51 dX8_write_26 kd_0 ln_0 rfl rfl ?_
      refine r_getx (x := im 106 1 + 1) fl_X8_141 dX8_write_29 kd_106 ln_106 rfl (by unfold bkX; rw [if_pos (of_decide_eq_true h22), st_same]) ?_
      refine r_goto (tgt := 37) dX8_write_32 (by decide) ?_
      exact r_iret dX8_write_37 rfl (by simp only [eq_self, Bool.false_eq_true, Bool.true_eq_false, if_true, if_false, reduceIte, h8, if_pos (of_decide_eq_true h22)]) (Nat.le_refl _) (Nat.le_refl _)
  · refine r_ldc dX8_write_11 kn_X8_150 ?_
    exact r_iret dX8_write_13 rfl (by simp only [eq_self, Bool.false_eq_true, Bool.true_eq_false, if_true, if_false, reduceIte, h8]) (Nat.le_refl _) (Nat.le_refl _)

set_option maxRecDepth 100000 in
set_option maxHeartbeats 4000000 in
theorem c_tear {im : IM} {pl it : Nat}  : MT YX8_tear 0 0 0 [.ref 0] 137 im (RR pl it) (some (.int (im 103 2 + im 106 1)), 137, st (st im 103 2 0) 106 1 0, RR pl it) := by
  refine mt_of (by decide +kernel) (Nat.le_of_ble_eq_true rfl) ?_
  show WW _ _ _ _ _ _ _ 0 [(0, .ref 0)] [] _ _ _
  refine r_aload_n dX8_tear_0 rfl ?_
  refine r_getr fl_X8_44 dX8_tear_1 kd_0 ln_0 rfl rfl ?_
  refine r_geti fl_X8_140 dX8_tear_4 kd_103 ln_103 rfl ?_
  refine r_aload_n dX8_tear_7 rfl ?_
  refine r_getr fl_X8_51 dX8_tear_8 kd_0 ln_0 rfl rfl ?_
  refine r_geti fl_X8_141 dX8_tear_11 kd_106 ln_106 rfl ?_
  refine r_iadd dX8_tear_14 ?_
  refine r_istore_n dX8_tear_15 (by decide) ?_
  refine r_aload_n dX8_tear_16 rfl ?_
  refine r_getr fl_X8_44 dX8_tear_17 kd_0 ln_0 rfl rfl ?_
  refine r_iconst (v := 0) dX8_tear_20 (by decide) ?_
  refine r_pi fl_X8_140 dX8_tear_21 kd_103 ln_103 rfl ?_
  refine r_aload_n dX8_tear_24 rfl ?_
  refine r_getr fl_X8_51 dX8_tear_25 kd_0 ln_0 rfl rfl ?_
  refine r_iconst (v := 0) dX8_tear_28 (by decide) ?_
  refine r_pi fl_X8_141 dX8_tear_29 kd_106 ln_106 rfl ?_
  refine r_iload_n dX8_tear_32 rfl ?_
  exact r_iret dX8_tear_33 rfl rfl (Nat.le_refl _) (Nat.le_refl _)

set_option maxRecDepth 100000 in
set_option maxHeartbeats 4000000 in
theorem c_seed {im : IM} {pl it : Nat} (x : Int32) : MT YX8_seed 0 0 0 [.ref 0, .int x] 137 im (RR pl it) (some (.int (if 0 ≤ x then im 108 0 else (-1000000002))), 137, if 0 ≤ x then st im 108 0 x else im, RR pl it) := by
  refine mt_of (by decide +kernel) (Nat.le_of_ble_eq_true rfl) ?_
  show WW _ _ _ _ _ _ _ 0 [(0, .ref 0), (1, .int x)] [] _ _ _
  refine r_iload_n dX8_seed_0 rfl ?_
  refine r_if_ge (tgt := 7) dX8_seed_1 (by decide) (fun h1 => ?_) (fun h1 => ?_)
  · refine r_aload_n dX8_seed_7 rfl ?_
    refine r_getr fl_X8_58 dX8_seed_8 kd_0 ln_0 rfl rfl ?_
    refine r_geti fl_X8_262 dX8_seed_11 kd_108 ln_108 rfl ?_
    refine r_istore_n dX8_seed_14 (by decide) ?_
    refine r_aload_n dX8_seed_15 rfl ?_
    refine r_getr fl_X8_58 dX8_seed_16 kd_0 ln_0 rfl rfl ?_
    refine r_iload_n dX8_seed_19 rfl ?_
    refine r_pi fl_X8_262 dX8_seed_20 kd_108 ln_108 rfl ?_
    refine r_iload_n dX8_seed_23 rfl ?_
    exact r_iret dX8_seed_24 rfl (by simp only [eq_self, Bool.false_eq_true, Bool.true_eq_false, if_true, if_false, reduceIte, true_and, and_true, false_and, and_false, true_or, or_true, false_or, or_false, not_true_eq_false, not_false_eq_true, Bool.not_true, Bool.not_false, Bool.true_and, Bool.and_true, Bool.false_and, Bool.and_false, decide_true, decide_false, h1]) (Nat.le_refl _) (Nat.le_refl _)
  · refine r_ldc dX8_seed_4 kn_X8_73 ?_
    exact r_iret dX8_seed_6 rfl (by simp only [eq_self, Bool.false_eq_true, Bool.true_eq_false, if_true, if_false, reduceIte, true_and, and_true, false_and, and_false, true_or, or_true, false_or, or_false, not_true_eq_false, not_false_eq_true, Bool.not_true, Bool.not_false, Bool.true_and, Bool.and_true, Bool.false_and, Bool.and_false, decide_true, decide_false, h1]) (Nat.le_refl _) (Nat.le_refl _)

set_option maxRecDepth 100000 in
set_option maxHeartbeats 4000000 in
theorem c_make {im : IM} {pl it : Nat} (hc : CA im pl) (hE0 : HE im) (hz : HZ im) (x : Int32) : MT YX8_make 3 0 0 [.ref 0, .int x] 137 im (RR pl it) (some (.int (mkV im pl x)), 137, mkX im pl x, RR pl it) := by
  obtain ⟨hC, W, T, S, hW, hW8, hT, hT6, hS, hS5⟩ := id hc
  have htW : tn (im pl 0) = W := by rw [hW, tn_nI (by omega)]
  have htT : tn (im pl 2) = T := by rw [hT, tn_nI (by omega)]
  have htS : tn (im pl 6) = S := by rw [hS, tn_nI (by omega)]
  refine mt_of (by decide +kernel) (Nat.le_of_ble_eq_true rfl) ?_
  show WW _ _ _ _ _ _ _ 0 [(0, .ref 0), (1, .int x)] [] _ _ _
  refine r_aload_n dX8_make_0 rfl ?_
  refine r_getr fl_X8_23 dX8_make_1 kd_0 ln_0 rfl rfl ?_
  refine r_iload_n dX8_make_4 rfl ?_
  refine r_V1s cv_X8_151 dX8_make_5 (c_hasTest hc x) ⟨by decide, by decide⟩ (kC0 hC) (lC0 hC) cl_2 (Nat.le_of_ble_eq_true rfl) ⟨Nat.le_refl _, Nat.le_refl _⟩ ?_
  refine r_bz_ne (tgt := 14) dX8_make_8 (by decide) (fun h8 => ?_) (fun h8 => ?_)
  · refine r_aload_n dX8_make_14 rfl ?_
    refine r_getr fl_X8_30 dX8_make_15 kd_0 ln_0 rfl rfl ?_
    refine r_aload_n dX8_make_18 rfl ?_
    refine r_getr fl_X8_23 dX8_make_19 kd_0 ln_0 rfl rfl ?_
    refine r_iload_n dX8_make_22 rfl ?_
    refine r_V2s cv_X8_193 dX8_make_23 (c_canMake hc x) ⟨by decide, by decide⟩ kd_17 ln_17 cl_0 (Nat.le_of_ble_eq_true rfl) ⟨Nat.le_refl _, Nat.le_refl _⟩ ?_
    refine r_bz_ne (tgt := 32) dX8_make_26 (by decide) (fun h26 => ?_) (fun h26 => ?_)
    · refine r_aload_n dX8_make_32 rfl ?_
      refine r_getr fl_X8_37 dX8_make_33 kd_0 ln_0 rfl rfl ?_
      refine r_aload_n dX8_make_36 rfl ?_
      refine r_getr fl_X8_30 dX8_make_37 kd_0 ln_0 rfl rfl ?_
      refine r_V1n cv_X8_185 dX8_make_40 (c_remember hE0 (hz 17 isA_17).1 (hz 17 isA_17).2) ⟨by decide, by decide⟩ kd_21 ln_21 cl_5 (Nat.le_of_ble_eq_true rfl) ⟨Nat.le_refl _, Nat.le_refl _⟩ ?_
      refine r_aload_n dX8_make_43 rfl ?_
      refine r_getr fl_X8_30 dX8_make_44 kd_0 ln_0 rfl rfl ?_
      refine r_dup dX8_make_47 rfl ?_
      refine r_getx (x := im 17 4) fl_X8_124 dX8_make_48 kd_17 ln_17 rfl (rmX_off hE0 (by omega)) ?_
      refine r_iconst (v := 1) dX8_make_51 (by decide) ?_
      refine r_iload_n dX8_make_52 rfl ?_
      refine r_ishl dX8_make_53 ?_
      refine r_ior dX8_make_54 ?_
      refine r_pi fl_X8_124 dX8_make_55 kd_17 ln_17 rfl ?_
      refine r_aload_n dX8_make_58 rfl ?_
      refine r_V0s cv_X8_127 dX8_make_59 (by have q := c_waysLeft (pl := pl) (it := it) (im := st (rmX im) 17 4 (im 17 4 ||| (1 <<< (x &&& 31)))) (hc.keepR (by rw [st_row (by rcases hC with h | h <;> omega)]; exact rmX_row hE0 (by rcases hC with h | h <;> omega))); rw [wlX, st_same, st_row (by rcases hC with h | h <;> omega), st_row (by rcases hC with h | h <;> omega), rmX_row hE0 (by rcases hC with h | h <;> omega), rmX_row hE0 (by rcases hC with h | h <;> omega)] at q; exact q) ⟨by decide, by decide⟩ kd_0 ln_0 cl_8 (Nat.le_of_ble_eq_true rfl) ⟨Nat.le_refl _, Nat.le_refl _⟩ ?_
      exact r_iret dX8_make_62 rfl (by simp only [mkV, mkX, eq_self, Bool.false_eq_true, Bool.true_eq_false, if_true, if_false, reduceIte, true_and, and_true, false_and, and_false, true_or, or_true, false_or, or_false, not_true_eq_false, not_false_eq_true, Bool.not_true, Bool.not_false, Bool.true_and, Bool.and_true, Bool.false_and, Bool.and_false, decide_true, decide_false, h8, h26]) (Nat.le_refl _) (Nat.le_refl _)
    · refine r_ldc dX8_make_29 kn_X8_197 ?_
      exact r_iret dX8_make_31 rfl (by simp only [mkV, mkX, eq_self, Bool.false_eq_true, Bool.true_eq_false, if_true, if_false, reduceIte, true_and, and_true, false_and, and_false, true_or, or_true, false_or, or_false, not_true_eq_false, not_false_eq_true, Bool.not_true, Bool.not_false, Bool.true_and, Bool.and_true, Bool.false_and, Bool.and_false, decide_true, decide_false, h8, h26]) (Nat.le_refl _) (Nat.le_refl _)
  · refine r_ldc dX8_make_11 kn_X8_150 ?_
    exact r_iret dX8_make_13 rfl (by simp only [mkV, mkX, eq_self, Bool.false_eq_true, Bool.true_eq_false, if_true, if_false, reduceIte, true_and, and_true, false_and, and_false, true_or, or_true, false_or, or_false, not_true_eq_false, not_false_eq_true, Bool.not_true, Bool.not_false, Bool.true_and, Bool.and_true, Bool.false_and, Bool.and_false, decide_true, decide_false, h8]) (Nat.le_refl _) (Nat.le_refl _)

set_option maxRecDepth 100000 in
set_option maxHeartbeats 4000000 in
theorem c_seal {im : IM} {pl it : Nat} (hc : CA im pl) (hE0 : HE im) (hz : HZ im) (x : Int32) (hx : b01 x) : MT YX8_seal 2 0 0 [.ref 0, .int x] 137 im (RR pl it) (some (.int (slV im pl)), 137, slX im pl x, RR pl it) := by
  obtain ⟨hC, W, T, S, hW, hW8, hT, hT6, hS, hS5⟩ := id hc
  have htW : tn (im pl 0) = W := by rw [hW, tn_nI (by omega)]
  have htT : tn (im pl 2) = T := by rw [hT, tn_nI (by omega)]
  have htS : tn (im pl 6) = S := by rw [hS, tn_nI (by omega)]
  refine mt_of (by decide +kernel) (Nat.le_of_ble_eq_true rfl) ?_
  show WW _ _ _ _ _ _ _ 0 [(0, .ref 0), (1, .int x)] [] _ _ _
  refine r_aload_n dX8_seal_0 rfl ?_
  refine r_getr fl_X8_23 dX8_seal_1 kd_0 ln_0 rfl rfl ?_
  refine r_V0s cv_X8_198 dX8_seal_4 (c_stands hc) ⟨by decide, by decide⟩ (kC0 hC) (lC0 hC) cl_2 (Nat.le_of_ble_eq_true rfl) ⟨Nat.le_refl _, Nat.le_refl _⟩ ?_
  refine r_bz_ne (tgt := 13) dX8_seal_7 (by decide) (fun h7 => ?_) (fun h7 => ?_)
  · refine r_aload_n dX8_seal_13 rfl ?_
    refine r_getr fl_X8_37 dX8_seal_14 kd_0 ln_0 rfl rfl ?_
    refine r_aload_n dX8_seal_17 rfl ?_
    refine r_getr fl_X8_30 dX8_seal_18 kd_0 ln_0 rfl rfl ?_
    refine r_V1n cv_X8_185 dX8_seal_21 (c_remember hE0 (hz 17 isA_17).1 (hz 17 isA_17).2) ⟨by decide, by decide⟩ kd_21 ln_21 cl_5 (Nat.le_of_ble_eq_true rfl) ⟨Nat.le_refl _, Nat.le_refl _⟩ ?_
    refine r_aload_n dX8_seal_24 rfl ?_
    refine r_getr fl_X8_30 dX8_seal_25 kd_0 ln_0 rfl rfl ?_
    refine r_getx (x := im 17 3) fl_X8_121 dX8_seal_28 kd_17 ln_17 rfl (rmX_off hE0 (by omega)) ?_
    refine r_if_eq (tgt := 38) dX8_seal_31 (by decide) (fun h31 => ?_) (fun h31 => ?_)
    · refine r_iconst (v := 0) dX8_seal_38 (by decide) ?_
      refine r_istore_n dX8_seal_39 (by decide) ?_
      refine r_aload_n dX8_seal_40 rfl ?_
      refine r_getr fl_X8_30 dX8_seal_41 kd_0 ln_0 rfl rfl ?_
      refine r_iload_n dX8_seal_44 rfl ?_
      refine r_pz fl_X8_121 dX8_seal_45 kd_17 ln_17 rfl (b01_nar hx) ?_
      refine r_iload_n dX8_seal_48 rfl ?_
      exact r_iret dX8_seal_49 rfl (by simp only [slV, slX, eq_self, Bool.false_eq_true, Bool.true_eq_false, if_true, if_false, reduceIte, true_and, and_true, false_and, and_false, true_or, or_true, false_or, or_false, not_true_eq_false, not_false_eq_true, Bool.not_true, Bool.not_false, Bool.true_and, Bool.and_true, Bool.false_and, Bool.and_false, decide_true, decide_false, h7, eq_true h31]) (Nat.le_refl _) (Nat.le_refl _)
    · refine r_iconst (v := 1) dX8_seal_34 (by decide) ?_
      refine r_goto (tgt := 39) dX8_seal_35 (by decide) ?_
      refine r_istore_n dX8_seal_39 (by decide) ?_
      refine r_aload_n dX8_seal_40 rfl ?_
      refine r_getr fl_X8_30 dX8_seal_41 kd_0 ln_0 rfl rfl ?_
      refine r_iload_n dX8_seal_44 rfl ?_
      refine r_pz fl_X8_121 dX8_seal_45 kd_17 ln_17 rfl (b01_nar hx) ?_
      refine r_iload_n dX8_seal_48 rfl ?_
      exact r_iret dX8_seal_49 rfl (by simp only [slV, slX, eq_self, Bool.false_eq_true, Bool.true_eq_false, if_true, if_false, reduceIte, true_and, and_true, false_and, and_false, true_or, or_true, false_or, or_false, not_true_eq_false, not_false_eq_true, Bool.not_true, Bool.not_false, Bool.true_and, Bool.and_true, Bool.false_and, Bool.and_false, decide_true, decide_false, h7, h31]) (Nat.le_refl _) (Nat.le_refl _)
  · refine r_ldc dX8_seal_10 kn_X8_197 ?_
    exact r_iret dX8_seal_12 rfl (by simp only [slV, slX, eq_self, Bool.false_eq_true, Bool.true_eq_false, if_true, if_false, reduceIte, true_and, and_true, false_and, and_false, true_or, or_true, false_or, or_false, not_true_eq_false, not_false_eq_true, Bool.not_true, Bool.not_false, Bool.true_and, Bool.and_true, Bool.false_and, Bool.and_false, decide_true, decide_false, h7]) (Nat.le_refl _) (Nat.le_refl _)

set_option maxRecDepth 100000 in
set_option maxHeartbeats 4000000 in
theorem c_smash {im : IM} {pl it : Nat} (hc : CA im pl) (hE0 : HE im) (hz : HZ im) : MT YX8_smash 2 0 0 [.ref 0] 137 im (RR pl it) (some (.int (smV im pl)), 137, smX im pl, RR pl it) := by
  obtain ⟨hC, W, T, S, hW, hW8, hT, hT6, hS, hS5⟩ := id hc
  have htW : tn (im pl 0) = W := by rw [hW, tn_nI (by omega)]
  have htT : tn (im pl 2) = T := by rw [hT, tn_nI (by omega)]
  have htS : tn (im pl 6) = S := by rw [hS, tn_nI (by omega)]
  refine mt_of (by decide +kernel) (Nat.le_of_ble_eq_true rfl) ?_
  show WW _ _ _ _ _ _ _ 0 [(0, .ref 0)] [] _ _ _
  refine r_aload_n dX8_smash_0 rfl ?_
  refine r_getr fl_X8_23 dX8_smash_1 kd_0 ln_0 rfl rfl ?_
  refine r_V0s cv_X8_198 dX8_smash_4 (c_stands hc) ⟨by decide, by decide⟩ (kC0 hC) (lC0 hC) cl_2 (Nat.le_of_ble_eq_true rfl) ⟨Nat.le_refl _, Nat.le_refl _⟩ ?_
  refine r_bz_eq (tgt := 20) dX8_smash_7 (by decide) (fun h7 => ?_) (fun h7 => ?_)
  · refine r_ldc dX8_smash_20 kn_X8_197 ?_
    exact r_iret dX8_smash_22 rfl (by simp only [smV, smX, eq_self, Bool.false_eq_true, Bool.true_eq_false, if_true, if_false, reduceIte, true_and, and_true, false_and, and_false, true_or, or_true, false_or, or_false, not_true_eq_false, not_false_eq_true, Bool.not_true, Bool.not_false, Bool.true_and, Bool.and_true, Bool.false_and, Bool.and_false, decide_true, decide_false, h7]) (Nat.le_refl _) (Nat.le_refl _)
  · refine r_aload_n dX8_smash_10 rfl ?_
    refine r_getr fl_X8_30 dX8_smash_11 kd_0 ln_0 rfl rfl ?_
    refine r_geti fl_X8_117 dX8_smash_14 kd_17 ln_17 rfl ?_
    refine r_if_ne (tgt := 23) dX8_smash_17 (by decide) (fun h17 => ?_) (fun h17 => ?_)
    · refine r_aload_n dX8_smash_23 rfl ?_
      refine r_getr fl_X8_37 dX8_smash_24 kd_0 ln_0 rfl rfl ?_
      refine r_aload_n dX8_smash_27 rfl ?_
      refine r_getr fl_X8_30 dX8_smash_28 kd_0 ln_0 rfl rfl ?_
      refine r_V1n cv_X8_185 dX8_smash_31 (c_remember hE0 (hz 17 isA_17).1 (hz 17 isA_17).2) ⟨by decide, by decide⟩ kd_21 ln_21 cl_5 (Nat.le_of_ble_eq_true rfl) ⟨Nat.le_refl _, Nat.le_refl _⟩ ?_
      refine r_aload_n dX8_smash_34 rfl ?_
      refine r_getr fl_X8_30 dX8_smash_35 kd_0 ln_0 rfl rfl ?_
      refine r_iconst (v := 0) dX8_smash_38 (by decide) ?_
      refine r_pz fl_X8_117 dX8_smash_39 kd_17 ln_17 rfl ⟨nar0, rfl⟩ ?_
      refine r_aload_n dX8_smash_42 rfl ?_
      refine r_getr fl_X8_30 dX8_smash_43 kd_0 ln_0 rfl rfl ?_
      refine r_getx (x := im 17 1) fl_X8_114 dX8_smash_46 kd_17 ln_17 rfl (by rw [st_ne (by omega)]; exact rmX_off hE0 (by omega)) ?_
      exact r_iret dX8_smash_49 rfl (by simp only [smV, smX, eq_self, Bool.false_eq_true, Bool.true_eq_false, if_true, if_false, reduceIte, true_and, and_true, false_and, and_false, true_or, or_true, false_or, or_false, not_true_eq_false, not_false_eq_true, Bool.not_true, Bool.not_false, Bool.true_and, Bool.and_true, Bool.false_and, Bool.and_false, decide_true, decide_false, h7, h17]) (Nat.le_refl _) (Nat.le_refl _)
    · refine r_ldc dX8_smash_20 kn_X8_197 ?_
      exact r_iret dX8_smash_22 rfl (by simp only [smV, smX, eq_self, Bool.false_eq_true, Bool.true_eq_false, if_true, if_false, reduceIte, true_and, and_true, false_and, and_false, true_or, or_true, false_or, or_false, not_true_eq_false, not_false_eq_true, Bool.not_true, Bool.not_false, Bool.true_and, Bool.and_true, Bool.false_and, Bool.and_false, decide_true, decide_false, h7, eq_true h17]) (Nat.le_refl _) (Nat.le_refl _)

set_option maxRecDepth 100000 in
set_option maxHeartbeats 4000000 in
theorem c_hire {im : IM} {pl it : Nat} (hc : CA im pl) (hE0 : HE im) (hz : HZ im) (x is : Int32) : MT YX8_hire 2 0 0 [.ref 0, .int x, .int is] 137 im (RR pl it) (some (.int (hiV im pl x)), 137, hiX im pl x is, RR pl it) := by
  obtain ⟨hC, W, T, S, hW, hW8, hT, hT6, hS, hS5⟩ := id hc
  have htW : tn (im pl 0) = W := by rw [hW, tn_nI (by omega)]
  have htT : tn (im pl 2) = T := by rw [hT, tn_nI (by omega)]
  have htS : tn (im pl 6) = S := by rw [hS, tn_nI (by omega)]
  refine mt_of (by decide +kernel) (Nat.le_of_ble_eq_true rfl) ?_
  show WW _ _ _ _ _ _ _ 0 [(0, .ref 0), (1, .int x), (2, .int is)] [] _ _ _
  refine r_aload_n dX8_hire_0 rfl ?_
  refine r_getr fl_X8_23 dX8_hire_1 kd_0 ln_0 rfl rfl ?_
  refine r_iload_n dX8_hire_4 rfl ?_
  refine r_V1s cv_X8_167 dX8_hire_5 (c_hasServant hc x) ⟨by decide, by decide⟩ (kC0 hC) (lC0 hC) cl_2 (Nat.le_of_ble_eq_true rfl) ⟨Nat.le_refl _, Nat.le_refl _⟩ ?_
  refine r_bz_ne (tgt := 14) dX8_hire_8 (by decide) (fun h8 => ?_) (fun h8 => ?_)
  · refine r_aload_n dX8_hire_14 rfl ?_
    refine r_getr fl_X8_37 dX8_hire_15 kd_0 ln_0 rfl rfl ?_
    refine r_aload_n dX8_hire_18 rfl ?_
    refine r_getr fl_X8_30 dX8_hire_19 kd_0 ln_0 rfl rfl ?_
    refine r_V1n cv_X8_185 dX8_hire_22 (c_remember hE0 (hz 17 isA_17).1 (hz 17 isA_17).2) ⟨by decide, by decide⟩ kd_21 ln_21 cl_5 (Nat.le_of_ble_eq_true rfl) ⟨Nat.le_refl _, Nat.le_refl _⟩ ?_
    refine r_aload_n dX8_hire_25 rfl ?_
    refine r_getr fl_X8_30 dX8_hire_26 kd_0 ln_0 rfl rfl ?_
    refine r_getx (x := im 17 5) fl_X8_134 dX8_hire_29 kd_17 ln_17 rfl (rmX_off hE0 (by omega)) ?_
    refine r_iload_n dX8_hire_32 rfl ?_
    refine r_S2s cv_X8_163 dX8_hire_33 (c_has (im 17 5) x) ⟨by decide, by decide⟩ (Nat.le_of_ble_eq_true rfl) ⟨Nat.le_refl _, Nat.le_refl _⟩ ?_
    refine r_bz_eq (tgt := 43) dX8_hire_36 (by decide) (fun h36 => ?_) (fun h36 => ?_)
    · refine r_iconst (v := 0) dX8_hire_43 (by decide) ?_
      refine r_istore_n dX8_hire_44 (by decide) ?_
      refine r_aload_n dX8_hire_45 rfl ?_
      refine r_getr fl_X8_30 dX8_hire_46 kd_0 ln_0 rfl rfl ?_
      refine r_iload_n dX8_hire_49 rfl ?_
      refine r_iload_n dX8_hire_50 rfl ?_
      refine r_V2n cv_X8_202 dX8_hire_51 (c_setHired x is) ⟨by decide, by decide⟩ kd_17 ln_17 cl_0 (Nat.le_of_ble_eq_true rfl) ⟨Nat.le_refl _, Nat.le_refl _⟩ ?_
      refine r_iload_n dX8_hire_54 rfl ?_
      exact r_iret dX8_hire_55 rfl (by simp only [hiV, hiX, eq_self, Bool.false_eq_true, Bool.true_eq_false, if_true, if_false, reduceIte, h8, h36]; rfl) (Nat.le_refl _) (Nat.le_refl _)
    · refine r_iconst (v := 1) dX8_hire_39 (by decide) ?_
      refine r_goto (tgt := 44) dX8_hire_40 (by decide) ?_
      refine r_istore_n dX8_hire_44 (by decide) ?_
      refine r_aload_n dX8_hire_45 rfl ?_
      refine r_getr fl_X8_30 dX8_hire_46 kd_0 ln_0 rfl rfl ?_
      refine r_iload_n dX8_hire_49 rfl ?_
      refine r_iload_n dX8_hire_50 rfl ?_
      refine r_V2n cv_X8_202 dX8_hire_51 (c_setHired x is) ⟨by decide, by decide⟩ kd_17 ln_17 cl_0 (Nat.le_of_ble_eq_true rfl) ⟨Nat.le_refl _, Nat.le_refl _⟩ ?_
      refine r_iload_n dX8_hire_54 rfl ?_
      exact r_iret dX8_hire_55 rfl (by simp only [hiV, hiX, eq_self, Bool.false_eq_true, Bool.true_eq_false, if_true, if_false, reduceIte, h8, h36]; rfl) (Nat.le_refl _) (Nat.le_refl _)
  · refine r_ldc dX8_hire_11 kn_X8_150 ?_
    exact r_iret dX8_hire_13 rfl (by simp only [hiV, hiX, eq_self, Bool.false_eq_true, Bool.true_eq_false, if_true, if_false, reduceIte, h8]) (Nat.le_refl _) (Nat.le_refl _)

set_option maxRecDepth 100000 in
set_option maxHeartbeats 4000000 in
theorem c_buy {im : IM} {pl it : Nat} (hc : CA im pl) (hE0 : HE im) (hz : HZ im) (x w m : Int32) : MT YX8_buy 2 0 0 [.ref 0, .int x, .int w, .int m] 137 im (RR pl it) (some (.int (byV im pl x w m)), 137, byX im pl x w m, RR pl it) := by
  obtain ⟨hC, W, T, S, hW, hW8, hT, hT6, hS, hS5⟩ := id hc
  have htW : tn (im pl 0) = W := by rw [hW, tn_nI (by omega)]
  have htT : tn (im pl 2) = T := by rw [hT, tn_nI (by omega)]
  have htS : tn (im pl 6) = S := by rw [hS, tn_nI (by omega)]
  refine mt_of (by decide +kernel) (Nat.le_of_ble_eq_true rfl) ?_
  show WW _ _ _ _ _ _ _ 0 [(0, .ref 0), (1, .int x), (2, .int w), (3, .int m)] [] _ _ _
  refine r_aload_n dX8_buy_0 rfl ?_
  refine r_getr fl_X8_23 dX8_buy_1 kd_0 ln_0 rfl rfl ?_
  refine r_iload_n dX8_buy_4 rfl ?_
  refine r_V1s cv_X8_167 dX8_buy_5 (c_hasServant hc x) ⟨by decide, by decide⟩ (kC0 hC) (lC0 hC) cl_2 (Nat.le_of_ble_eq_true rfl) ⟨Nat.le_refl _, Nat.le_refl _⟩ ?_
  refine r_bz_eq (tgt := 26) dX8_buy_8 (by decide) (fun h8 => ?_) (fun h8 => ?_)
  · refine r_ldc dX8_buy_26 kn_X8_150 ?_
    exact r_iret dX8_buy_28 rfl (by simp only [byV, byX, eq_self, Bool.false_eq_true, Bool.true_eq_false, if_true, if_false, reduceIte, h8]) (Nat.le_refl _) (Nat.le_refl _)
  · refine r_aload_n dX8_buy_11 rfl ?_
    refine r_getr fl_X8_23 dX8_buy_12 kd_0 ln_0 rfl rfl ?_
    refine r_iload_n dX8_buy_15 rfl ?_
    refine r_V1s cv_X8_206 dX8_buy_16 (c_hasWays hc w) ⟨by decide, by decide⟩ (kC0 hC) (lC0 hC) cl_2 (Nat.le_of_ble_eq_true rfl) ⟨Nat.le_refl _, Nat.le_refl _⟩ ?_
    refine r_bz_eq (tgt := 26) dX8_buy_19 (by decide) (fun h19 => ?_) (fun h19 => ?_)
    · refine r_ldc dX8_buy_26 kn_X8_150 ?_
      exact r_iret dX8_buy_28 rfl (by simp only [byV, byX, eq_self, Bool.false_eq_true, Bool.true_eq_false, if_true, if_false, reduceIte, h8, h19]) (Nat.le_refl _) (Nat.le_refl _)
    · refine r_iload_n dX8_buy_22 rfl ?_
      refine r_if_ne (tgt := 29) dX8_buy_23 (by decide) (fun h23 => ?_) (fun h23 => ?_)
      · refine r_iload_n dX8_buy_29 rfl ?_
        refine r_iconst (v := 0) dX8_buy_30 (by decide) ?_
        refine r_sipush (v := 9999) dX8_buy_31 (by decide) ?_
        refine r_S3s cv_X8_69 dX8_buy_34 (c_within m 0 9999) ⟨by decide, by decide⟩ (Nat.le_of_ble_eq_true rfl) ⟨Nat.le_refl _, Nat.le_refl _⟩ ?_
        refine r_bz_ne (tgt := 43) dX8_buy_37 (by decide) (fun h37 => ?_) (fun h37 => ?_)
        · obtain ⟨jw, hjw, hj⟩ := inB_nat (W := S) (by rw [← hS]; exact h8) (by omega)
          have htt : tn x = jw := by rw [hj, tn_nI (by omega)]
          refine r_iload_n dX8_buy_43 rfl ?_
          refine r_aload_n dX8_buy_44 rfl ?_
          refine r_getr fl_X8_23 dX8_buy_45 kd_0 ln_0 rfl rfl ?_
          refine r_getr fl_X8_173 dX8_buy_48 (kC0 hC) (lC0 hC) rfl (rrC8 hC) ?_
          refine r_iload_n dX8_buy_51 rfl ?_
          refine r_iald (j := jw) dX8_buy_52 (kC6 hC) (lC6 hC) hj (by omega) (by decide) ?_
          refine r_icmp_ge (tgt := 59) dX8_buy_53 (by decide) (fun h53 => ?_) (fun h53 => ?_)
          · refine r_aload_n dX8_buy_59 rfl ?_
            refine r_getr fl_X8_37 dX8_buy_60 kd_0 ln_0 rfl rfl ?_
            refine r_aload_n dX8_buy_63 rfl ?_
            refine r_getr fl_X8_30 dX8_buy_64 kd_0 ln_0 rfl rfl ?_
            refine r_V1n cv_X8_185 dX8_buy_67 (c_remember hE0 (hz 17 isA_17).1 (hz 17 isA_17).2) ⟨by decide, by decide⟩ kd_21 ln_21 cl_5 (Nat.le_of_ble_eq_true rfl) ⟨Nat.le_refl _, Nat.le_refl _⟩ ?_
            refine r_aload_n dX8_buy_70 rfl ?_
            refine r_getr fl_X8_30 dX8_buy_71 kd_0 ln_0 rfl rfl ?_
            refine r_getr fl_X8_170 dX8_buy_74 kd_17 ln_17 rfl rfl ?_
            refine r_iload_n dX8_buy_77 rfl ?_
            refine r_iload_n dX8_buy_78 rfl ?_
            refine r_as (j := jw) dX8_buy_79 kd_18 ln_18 hj (by omega) (by decide) ?_
            refine r_aload_n dX8_buy_80 rfl ?_
            refine r_getr fl_X8_30 dX8_buy_81 kd_0 ln_0 rfl rfl ?_
            refine r_iload_n dX8_buy_84 rfl ?_
            refine r_iload_n dX8_buy_85 rfl ?_
            refine r_V2n cv_X8_209 dX8_buy_86 (c_give x m) ⟨by decide, by decide⟩ kd_17 ln_17 cl_0 (Nat.le_of_ble_eq_true rfl) ⟨Nat.le_refl _, Nat.le_refl _⟩ ?_
            refine r_aload_n dX8_buy_89 rfl ?_
            refine r_getr fl_X8_30 dX8_buy_90 kd_0 ln_0 rfl rfl ?_
            refine r_getr fl_X8_176 dX8_buy_93 kd_17 ln_17 rfl rfl ?_
            refine r_iload_n dX8_buy_96 rfl ?_
            refine r_ialx (j := jw) (x := mnI (im 19 jw + m) 999999) dX8_buy_97 kd_19 ln_19 hj (by omega) (by decide) (by rw [hj, giX_nat (by omega), st_same, st_ne (by omega), rmX_off hE0 (by omega)]) ?_
            exact r_iret dX8_buy_98 rfl (by simp only [byV, byX, eq_self, Bool.false_eq_true, Bool.true_eq_false, if_true, if_false, reduceIte, h8, h19, h23, h37, h53, htt]) (Nat.le_refl _) (Nat.le_refl _)
          · refine r_ldc dX8_buy_56 kn_X8_197 ?_
            exact r_iret dX8_buy_58 rfl (by simp only [byV, byX, eq_self, Bool.false_eq_true, Bool.true_eq_false, if_true, if_false, reduceIte, h8, h19, h23, h37, h53, htt]) (Nat.le_refl _) (Nat.le_refl _)
        · refine r_ldc dX8_buy_40 kn_X8_73 ?_
          exact r_iret dX8_buy_42 rfl (by simp only [byV, byX, eq_self, Bool.false_eq_true, Bool.true_eq_false, if_true, if_false, reduceIte, h8, h19, h23, h37]) (Nat.le_refl _) (Nat.le_refl _)
      · refine r_ldc dX8_buy_26 kn_X8_150 ?_
        exact r_iret dX8_buy_28 rfl (by simp only [byV, byX, eq_self, Bool.false_eq_true, Bool.true_eq_false, if_true, if_false, reduceIte, h8, h19, eq_true h23]) (Nat.le_refl _) (Nat.le_refl _)

set_option maxRecDepth 100000 in
set_option maxHeartbeats 4000000 in
theorem c_day {im : IM} {pl it : Nat} (hc : CA im pl) (hE0 : HE im) (hz : HZ im) (x : Int32) : MT YX8_day 3 0 0 [.ref 0, .int x] 137 im (RR pl it) (some (.int (dyV im pl x)), 137, dyX im pl x, RR pl it) := by
  obtain ⟨hC, W, T, S, hW, hW8, hT, hT6, hS, hS5⟩ := id hc
  have htW : tn (im pl 0) = W := by rw [hW, tn_nI (by omega)]
  have htT : tn (im pl 2) = T := by rw [hT, tn_nI (by omega)]
  have htS : tn (im pl 6) = S := by rw [hS, tn_nI (by omega)]
  refine mt_of (by decide +kernel) (Nat.le_of_ble_eq_true rfl) ?_
  show WW _ _ _ _ _ _ _ 0 [(0, .ref 0), (1, .int x)] [] _ _ _
  refine r_aload_n dX8_day_0 rfl ?_
  refine r_iload_n dX8_day_1 rfl ?_
  refine r_V1s cv_X8_182 dX8_day_2 (c_refusal hc x) ⟨by decide, by decide⟩ kd_0 ln_0 cl_8 (Nat.le_of_ble_eq_true rfl) ⟨Nat.le_refl _, Nat.le_refl _⟩ ?_
  refine r_istore_n dX8_day_5 (by decide) ?_
  refine r_iload_n dX8_day_6 rfl ?_
  refine r_if_eq (tgt := 12) dX8_day_7 (by decide) (fun h7 => ?_) (fun h7 => ?_)
  · obtain ⟨jw, hj1, hj60, hj⟩ := rfD_nat h7
    have htt : tn x = jw := by rw [hj, tn_nI (by omega)]
    refine r_aload_n dX8_day_12 rfl ?_
    refine r_getr fl_X8_37 dX8_day_13 kd_0 ln_0 rfl rfl ?_
    refine r_aload_n dX8_day_16 rfl ?_
    refine r_getr fl_X8_30 dX8_day_17 kd_0 ln_0 rfl rfl ?_
    refine r_V1n cv_X8_185 dX8_day_20 (c_remember hE0 (hz 17 isA_17).1 (hz 17 isA_17).2) ⟨by decide, by decide⟩ kd_21 ln_21 cl_5 (Nat.le_of_ble_eq_true rfl) ⟨Nat.le_refl _, Nat.le_refl _⟩ ?_
    refine r_iconst (v := 0) dX8_day_23 (by decide) ?_
    refine r_istore_n dX8_day_24 (by decide) ?_
    refine r_lv (lv' := [(0, .ref 0), (1, .int x), (3, .int (nI 0))]) (al_cons rfl (al_cons rfl (al_int rfl (by exact (cI 0)) al_nil))) ?_
    refine r_im (im' := itD pl 0 (rmX im)) rfl ?_
    refine WW.loop (fun t => [(0, .ref 0), (1, .int x), (3, .int (nI t))]) (fun t => itD pl t (rmX im)) (N := jw) ?_ ?_ 0 (Nat.zero_le _)
    · show WW _ _ _ _ _ _ _ 25 [(0, .ref 0), (1, .int x), (3, .int (nI jw))] _ _ (itD pl jw (rmX im)) _
      refine r_iload_n dX8_day_25 rfl ?_
      refine r_iload_n dX8_day_26 rfl ?_
      refine r_icmp_ge_t (tgt := 47) dX8_day_27 (by decide) (ix_le hj rfl (by omega) (by omega)) ?_
      refine r_aload_n dX8_day_47 rfl ?_
      refine r_getr fl_X8_30 dX8_day_48 kd_0 ln_0 rfl rfl ?_
      refine r_getx (x := itD pl jw (rmX im) 17 0) fl_X8_111 dX8_day_51 kd_17 ln_17 rfl rfl ?_
      exact r_iret dX8_day_54 rfl (by simp only [dyV, dyX, eq_self, Bool.false_eq_true, Bool.true_eq_false, if_true, if_false, reduceIte, eq_true h7, htt]) (Nat.le_refl _) (Nat.le_refl _)
    · intro t ht iht
      show WW _ _ _ _ _ _ _ 25 [(0, .ref 0), (1, .int x), (3, .int (nI t))] _ _ (itD pl t (rmX im)) _
      refine r_iload_n dX8_day_25 rfl ?_
      refine r_iload_n dX8_day_26 rfl ?_
      refine r_icmp_ge_f (tgt := 47) dX8_day_27 (by decide) (ix_nle hj rfl (by omega) (by omega)) ?_
      refine r_aload_n dX8_day_30 rfl ?_
      refine r_getr fl_X8_30 dX8_day_31 kd_0 ln_0 rfl rfl ?_
      refine r_aload_n dX8_day_34 rfl ?_
      refine r_getr fl_X8_23 dX8_day_35 kd_0 ln_0 rfl rfl ?_
      refine r_V1n cv_X8_189 dX8_day_38 (c_passDay (hc.keepR (by rw [itD_row (by rcases hC with h | h <;> omega)]; exact rmX_row hE0 (by rcases hC with h | h <;> omega)))) ⟨by decide, by decide⟩ kd_17 ln_17 cl_0 (Nat.le_of_ble_eq_true rfl) ⟨Nat.le_refl _, Nat.le_refl _⟩ ?_
      refine r_iinc dX8_day_41 rfl (by decide) (ix_inc rfl) ?_
      refine r_goto (tgt := 25) dX8_day_44 (by decide) ?_
      refine r_lv (lv' := [(0, .ref 0), (1, .int x), (3, .int (nI (t + 1)))]) (al_cons rfl (al_cons rfl (al_cons rfl al_nil))) ?_
      refine r_im (im' := itD pl (t + 1) (rmX im)) rfl ?_
      exact iht
  · refine r_iload_n dX8_day_10 rfl ?_
    exact r_iret dX8_day_11 rfl (by simp only [dyV, dyX, eq_self, Bool.false_eq_true, Bool.true_eq_false, if_true, if_false, reduceIte, h7]) (Nat.le_refl _) (Nat.le_refl _)

set_option maxRecDepth 100000 in
set_option maxHeartbeats 4000000 in
theorem c_undo {im : IM} {pl it : Nat} (hc : CA im pl) (hE0 : HE im) (hz : HZ im) : MT YX8_undo 2 0 0 [.ref 0] 137 im (RR pl it) (some (.int (unV im)), 137, rcX im, RR pl it) := by
  obtain ⟨hC, W, T, S, hW, hW8, hT, hT6, hS, hS5⟩ := id hc
  have htW : tn (im pl 0) = W := by rw [hW, tn_nI (by omega)]
  have htT : tn (im pl 2) = T := by rw [hT, tn_nI (by omega)]
  have htS : tn (im pl 6) = S := by rw [hS, tn_nI (by omega)]
  refine mt_of (by decide +kernel) (Nat.le_of_ble_eq_true rfl) ?_
  show WW _ _ _ _ _ _ _ 0 [(0, .ref 0)] [] _ _ _
  refine r_aload_n dX8_undo_0 rfl ?_
  refine r_getr fl_X8_37 dX8_undo_1 kd_0 ln_0 rfl rfl ?_
  refine r_geti fl_X8_142 dX8_undo_4 kd_21 ln_21 rfl ?_
  refine r_if_ne (tgt := 13) dX8_undo_7 (by decide) (fun h7 => ?_) (fun h7 => ?_)
  · refine r_aload_n dX8_undo_13 rfl ?_
    refine r_getr fl_X8_37 dX8_undo_14 kd_0 ln_0 rfl rfl ?_
    refine r_aload_n dX8_undo_17 rfl ?_
    refine r_getr fl_X8_30 dX8_undo_18 kd_0 ln_0 rfl rfl ?_
    refine r_V1n cv_X8_216 dX8_undo_21 (c_recall hE0 (fun i hi => hz _ (isA_past hi))) ⟨by decide, by decide⟩ kd_21 ln_21 cl_5 (Nat.le_of_ble_eq_true rfl) ⟨Nat.le_refl _, Nat.le_refl _⟩ ?_
    refine r_aload_n dX8_undo_24 rfl ?_
    refine r_getr fl_X8_37 dX8_undo_25 kd_0 ln_0 rfl rfl ?_
    refine r_getx (x := im 21 2 - 1) fl_X8_142 dX8_undo_28 kd_21 ln_21 rfl (by rw [rcX, if_neg h7]; unfold cpA; rw [cpT_off (by omega), st_same]) ?_
    exact r_iret dX8_undo_31 rfl (by simp only [unV, rcX, eq_self, Bool.false_eq_true, Bool.true_eq_false, if_true, if_false, reduceIte, h7]) (Nat.le_refl _) (Nat.le_refl _)
  · refine r_ldc dX8_undo_10 kn_X8_197 ?_
    exact r_iret dX8_undo_12 rfl (by simp only [unV, rcX, eq_self, Bool.false_eq_true, Bool.true_eq_false, if_true, if_false, reduceIte, eq_true h7]) (Nat.le_refl _) (Nat.le_refl _)

set_option maxRecDepth 100000 in
set_option maxHeartbeats 4000000 in
theorem c_keep {im : IM} {pl it : Nat} (hz : HZ im) (x : Int32) : MT YX8_keep 1 0 0 [.ref 0, .int x] 137 im (RR pl it) (some (.int (if inB x 0 1 = false then (-1000000001) else 1)), 137, kpX im x, RR pl it) := by
  refine mt_of (by decide +kernel) (Nat.le_of_ble_eq_true rfl) ?_
  show WW _ _ _ _ _ _ _ 0 [(0, .ref 0), (1, .int x)] [] _ _ _
  refine r_iload_n dX8_keep_0 rfl ?_
  refine r_iconst (v := 0) dX8_keep_1 (by decide) ?_
  refine r_iconst (v := 1) dX8_keep_2 (by decide) ?_
  refine r_S3s cv_X8_69 dX8_keep_3 (c_within x 0 1) ⟨by decide, by decide⟩ (Nat.le_of_ble_eq_true rfl) ⟨Nat.le_refl _, Nat.le_refl _⟩ ?_
  refine r_bz_ne (tgt := 12) dX8_keep_6 (by decide) (fun h6 => ?_) (fun h6 => ?_)
  · obtain ⟨jw, hjw, hj⟩ := inB_nat (W := 2) (w := x) h6 (by omega)
    have htt : tn x = jw := by rw [hj, tn_nI (by omega)]
    refine r_aload_n dX8_keep_12 rfl ?_
    refine r_getr fl_X8_64 dX8_keep_13 kd_0 ln_0 rfl rfl ?_
    refine r_iload_n dX8_keep_16 rfl ?_
    refine r_aald (j := jw) dX8_keep_17 kd_109 (Or.inr rfl) ln_109 hj (by omega) (by decide) (rr_img hjw) ?_
    refine r_iconst (v := 1) dX8_keep_18 (by decide) ?_
    refine r_pz fl_X8_265 dX8_keep_19 (kd_img hjw) (ln_img hjw) rfl ⟨nar1, rfl⟩ ?_
    refine r_aload_n dX8_keep_22 rfl ?_
    refine r_getr fl_X8_64 dX8_keep_23 kd_0 ln_0 rfl rfl ?_
    refine r_iload_n dX8_keep_26 rfl ?_
    refine r_aald (j := jw) dX8_keep_27 kd_109 (Or.inr rfl) ln_109 hj (by omega) (by decide) (rr_img hjw) ?_
    refine r_getr fl_X8_268 dX8_keep_28 (kd_img hjw) (ln_img hjw) rfl (rr_imgA hjw) ?_
    refine r_aload_n dX8_keep_31 rfl ?_
    refine r_getr fl_X8_30 dX8_keep_32 kd_0 ln_0 rfl rfl ?_
    refine r_V1n cv_X8_271 dX8_keep_35 (c_copyFrom (isA_img hjw) isA_17 (by omega) (by rw [st_row (by omega)]; exact (hz 17 isA_17).1) (by rw [st_row (by omega)]; exact (hz 17 isA_17).2)) ⟨by decide, by decide⟩ (kA0 (isA_img hjw)) (lA0 (isA_img hjw)) cl_0 (Nat.le_of_ble_eq_true rfl) ⟨Nat.le_refl _, Nat.le_refl _⟩ ?_
    refine r_aload_n dX8_keep_38 rfl ?_
    refine r_getr fl_X8_64 dX8_keep_39 kd_0 ln_0 rfl rfl ?_
    refine r_iload_n dX8_keep_42 rfl ?_
    refine r_aald (j := jw) dX8_keep_43 kd_109 (Or.inr rfl) ln_109 hj (by omega) (by decide) (rr_img hjw) ?_
    refine r_aload_n dX8_keep_44 rfl ?_
    refine r_getr fl_X8_58 dX8_keep_45 kd_0 ln_0 rfl rfl ?_
    refine r_getx (x := im 108 0) fl_X8_262 dX8_keep_48 kd_108 ln_108 rfl (by unfold cpA; rw [cpT_off (by omega), st_ne (by omega)]) ?_
    refine r_pi fl_X8_274 dX8_keep_51 (kd_img hjw) (ln_img hjw) rfl ?_
    refine r_aload_n dX8_keep_54 rfl ?_
    refine r_getr fl_X8_37 dX8_keep_55 kd_0 ln_0 rfl rfl ?_
    refine r_V0n cv_X8_277 dX8_keep_58 c_forget ⟨by decide, by decide⟩ kd_21 ln_21 cl_5 (Nat.le_of_ble_eq_true rfl) ⟨Nat.le_refl _, Nat.le_refl _⟩ ?_
    refine r_iconst (v := 1) dX8_keep_61 (by decide) ?_
    exact r_iret dX8_keep_62 rfl (by simp only [kpX, eq_self, Bool.false_eq_true, Bool.true_eq_false, if_true, if_false, reduceIte, h6, htt]) (Nat.le_refl _) (Nat.le_refl _)
  · refine r_ldc dX8_keep_9 kn_X8_150 ?_
    exact r_iret dX8_keep_11 rfl (by simp only [kpX, eq_self, Bool.false_eq_true, Bool.true_eq_false, if_true, if_false, reduceIte, h6]) (Nat.le_refl _) (Nat.le_refl _)

set_option maxRecDepth 100000 in
set_option maxHeartbeats 4000000 in
theorem c_goBack {im : IM} {pl it : Nat} (hz : HZ im) (x : Int32) : MT YX8_goBack 1 0 0 [.ref 0, .int x] 137 im (RR pl it) (some (.int (gbV im x)), 137, gbX im x, RR pl it) := by
  refine mt_of (by decide +kernel) (Nat.le_of_ble_eq_true rfl) ?_
  show WW _ _ _ _ _ _ _ 0 [(0, .ref 0), (1, .int x)] [] _ _ _
  refine r_iload_n dX8_goBack_0 rfl ?_
  refine r_iconst (v := 0) dX8_goBack_1 (by decide) ?_
  refine r_iconst (v := 1) dX8_goBack_2 (by decide) ?_
  refine r_S3s cv_X8_69 dX8_goBack_3 (c_within x 0 1) ⟨by decide, by decide⟩ (Nat.le_of_ble_eq_true rfl) ⟨Nat.le_refl _, Nat.le_refl _⟩ ?_
  refine r_bz_ne (tgt := 12) dX8_goBack_6 (by decide) (fun h6 => ?_) (fun h6 => ?_)
  · obtain ⟨jw, hjw, hj⟩ := inB_nat (W := 2) (w := x) h6 (by omega)
    have htt : tn x = jw := by rw [hj, tn_nI (by omega)]
    refine r_aload_n dX8_goBack_12 rfl ?_
    refine r_getr fl_X8_64 dX8_goBack_13 kd_0 ln_0 rfl rfl ?_
    refine r_iload_n dX8_goBack_16 rfl ?_
    refine r_aald (j := jw) dX8_goBack_17 kd_109 (Or.inr rfl) ln_109 hj (by omega) (by decide) (rr_img hjw) ?_
    refine r_geti fl_X8_265 dX8_goBack_18 (kd_img hjw) (ln_img hjw) rfl ?_
    refine r_if_ne (tgt := 27) dX8_goBack_21 (by decide) (fun h21 => ?_) (fun h21 => ?_)
    · refine r_aload_n dX8_goBack_27 rfl ?_
      refine r_getr fl_X8_30 dX8_goBack_28 kd_0 ln_0 rfl rfl ?_
      refine r_aload_n dX8_goBack_31 rfl ?_
      refine r_getr fl_X8_64 dX8_goBack_32 kd_0 ln_0 rfl rfl ?_
      refine r_iload_n dX8_goBack_35 rfl ?_
      refine r_aald (j := jw) dX8_goBack_36 kd_109 (Or.inr rfl) ln_109 hj (by omega) (by decide) (rr_img hjw) ?_
      refine r_getr fl_X8_268 dX8_goBack_37 (kd_img hjw) (ln_img hjw) rfl (rr_imgA hjw) ?_
      refine r_V1n cv_X8_271 dX8_goBack_40 (c_copyFrom isA_17 (isA_img hjw) (by omega) (hz _ (isA_img hjw)).1 (hz _ (isA_img hjw)).2) ⟨by decide, by decide⟩ kd_17 ln_17 cl_0 (Nat.le_of_ble_eq_true rfl) ⟨Nat.le_refl _, Nat.le_refl _⟩ ?_
      refine r_aload_n dX8_goBack_43 rfl ?_
      refine r_getr fl_X8_58 dX8_goBack_44 kd_0 ln_0 rfl rfl ?_
      refine r_aload_n dX8_goBack_47 rfl ?_
      refine r_getr fl_X8_64 dX8_goBack_48 kd_0 ln_0 rfl rfl ?_
      refine r_iload_n dX8_goBack_51 rfl ?_
      refine r_aald (j := jw) dX8_goBack_52 kd_109 (Or.inr rfl) ln_109 hj (by omega) (by decide) (rr_img hjw) ?_
      refine r_getx (x := im (110 + 5 * jw) 2) fl_X8_274 dX8_goBack_53 (kd_img hjw) (ln_img hjw) rfl (by unfold cpA; rw [cpT_off (by omega)]) ?_
      refine r_pi fl_X8_262 dX8_goBack_56 kd_108 ln_108 rfl ?_
      refine r_aload_n dX8_goBack_59 rfl ?_
      refine r_getr fl_X8_37 dX8_goBack_60 kd_0 ln_0 rfl rfl ?_
      refine r_V0n cv_X8_277 dX8_goBack_63 c_forget ⟨by decide, by decide⟩ kd_21 ln_21 cl_5 (Nat.le_of_ble_eq_true rfl) ⟨Nat.le_refl _, Nat.le_refl _⟩ ?_
      refine r_iconst (v := 1) dX8_goBack_66 (by decide) ?_
      exact r_iret dX8_goBack_67 rfl (by simp only [gbV, gbX, eq_self, Bool.false_eq_true, Bool.true_eq_false, if_true, if_false, reduceIte, h6, h21, htt]) (Nat.le_refl _) (Nat.le_refl _)
    · refine r_ldc dX8_goBack_24 kn_X8_197 ?_
      exact r_iret dX8_goBack_26 rfl (by simp only [gbV, gbX, eq_self, Bool.false_eq_true, Bool.true_eq_false, if_true, if_false, reduceIte, h6, eq_true h21, htt]) (Nat.le_refl _) (Nat.le_refl _)
  · refine r_ldc dX8_goBack_9 kn_X8_150 ?_
    exact r_iret dX8_goBack_11 rfl (by simp only [gbV, gbX, eq_self, Bool.false_eq_true, Bool.true_eq_false, if_true, if_false, reduceIte, h6]) (Nat.le_refl _) (Nat.le_refl _)

