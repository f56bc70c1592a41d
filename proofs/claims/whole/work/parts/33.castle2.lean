theorem cl_go {it n : Nat} {q : Bool × IM} (h : q.1 = true) (h1 : ¬ q.2 1 2 ≤ q.2 1 3) : clF it (n + 1) q = clF it n (rcF q.2 it) := by
  rw [clF, if_neg (by rw [h]; decide), if_neg h1]
set_option maxRecDepth 100000 in
set_option maxHeartbeats 4000000 in
theorem c_readText {im : IM} {pl it C : Nat} (hI : isC it) (hcC : im 1 1 = nI C) (hC : C ≤ 240) : MT YX7_readText 5 0 0 [.ref 1] 137 im (RR pl it) (some (.int (txF im it).1), 137, (txF im it).2, RR pl it) := by
  refine mt_of (by decide +kernel) (Nat.le_of_ble_eq_true rfl) ?_
  show WW _ _ _ _ _ _ _ 0 [(0, .ref 1)] [] _ _ _
  have key : ∀ (m i : Nat) (q : Bool × IM), i + m = 240 → RC q.2 it → WW YX7_readText 5 0 0 (some (.int (clF it m q 1 8)), 137, clF it m q, RR pl it) 0 0 80 [(0, .ref 1), (1, .int (bI q.1)), (2, .int (nI i))] [] 137 q.2 (RR pl it) := by
    intro m
    induction m with
    | zero =>
      intro i q hi hc
      refine r_iload_n dX7_readText_80 rfl ?_
      refine r_sipush (v := 240) dX7_readText_81 (by decide) ?_
      refine r_icmp_ge_t (tgt := 113) dX7_readText_84 (by decide) (ix_le (cI 240) rfl (by omega) (by omega)) ?_
      refine r_aload_n dX7_readText_113 rfl ?_
      refine r_geti fl_X7_42 dX7_readText_114 kd_1 ln_1 rfl ?_
      exact r_iret dX7_readText_117 rfl rfl (Nat.le_refl _) (Nat.le_refl _)
    | succ m ih =>
      intro i q hi hc
      refine r_iload_n dX7_readText_80 rfl ?_
      refine r_sipush (v := 240) dX7_readText_81 (by decide) ?_
      refine r_icmp_ge_f (tgt := 113) dX7_readText_84 (by decide) (ix_nle (cI 240) rfl (by omega) (by omega)) ?_
      refine r_iload_n dX7_readText_87 rfl ?_
      refine r_bz_eq (tgt := 113) dX7_readText_88 (by decide) (fun h88 => ?_) (fun h88 => ?_)
      · refine r_aload_n dX7_readText_113 rfl ?_
        refine r_geti fl_X7_42 dX7_readText_114 kd_1 ln_1 rfl ?_
        exact r_iret dX7_readText_117 rfl (by simp only [clF, eq_self, Bool.false_eq_true, Bool.true_eq_false, if_true, if_false, reduceIte, h88]) (Nat.le_refl _) (Nat.le_refl _)
      · refine r_aload_n dX7_readText_91 rfl ?_
        refine r_geti fl_X7_22 dX7_readText_92 kd_1 ln_1 rfl ?_
        refine r_aload_n dX7_readText_95 rfl ?_
        refine r_geti fl_X7_19 dX7_readText_96 kd_1 ln_1 rfl ?_
        refine r_icmp_ge (tgt := 113) dX7_readText_99 (by decide) (fun h99 => ?_) (fun h99 => ?_)
        · refine r_aload_n dX7_readText_113 rfl ?_
          refine r_geti fl_X7_42 dX7_readText_114 kd_1 ln_1 rfl ?_
          exact r_iret dX7_readText_117 rfl (by simp only [clF, eq_self, Bool.false_eq_true, Bool.true_eq_false, if_true, if_false, reduceIte, h88, h99]) (Nat.le_refl _) (Nat.le_refl _)
        · refine r_aload_n dX7_readText_102 rfl ?_
          refine r_V0s cv_X7_64 dX7_readText_103 (c_readClause hc) ⟨by decide, by decide⟩ kd_1 ln_1 cl_7 (Nat.le_of_ble_eq_true rfl) ⟨Nat.le_refl _, Nat.le_refl _⟩ ?_
          refine r_istore_n dX7_readText_106 (by decide) ?_
          refine r_iinc dX7_readText_107 rfl (by decide) (ix_inc rfl) ?_
          refine r_goto (tgt := 80) dX7_readText_110 (by decide) ?_
          rw [cl_go h88 h99]
          refine r_lv (lv' := [(0, .ref 1), (1, .int (bI (rcF q.2 it).1)), (2, .int (nI (i + 1)))]) (al_cons rfl (al_cons rfl (al_cons rfl al_nil))) ?_
          exact ih (i + 1) _ (by omega) hc.prc
  refine r_aload_n dX7_readText_0 rfl ?_
  refine r_aload_n dX7_readText_1 rfl ?_
  refine r_geti fl_X7_15 dX7_readText_2 kd_1 ln_1 rfl ?_
  refine r_pi fl_X7_19 dX7_readText_5 kd_1 ln_1 rfl ?_
  refine r_aload_n dX7_readText_8 rfl ?_
  refine r_iconst (v := 0) dX7_readText_9 (by decide) ?_
  refine r_pi fl_X7_15 dX7_readText_10 kd_1 ln_1 rfl ?_
  refine r_aload_n dX7_readText_13 rfl ?_
  refine r_iconst (v := 0) dX7_readText_14 (by decide) ?_
  refine r_pi fl_X7_22 dX7_readText_15 kd_1 ln_1 rfl ?_
  refine r_aload_n dX7_readText_18 rfl ?_
  refine r_iconst (v := 0) dX7_readText_19 (by decide) ?_
  refine r_pz fl_X7_32 dX7_readText_20 kd_1 ln_1 rfl ⟨nar0, rfl⟩ ?_
  refine r_aload_n dX7_readText_23 rfl ?_
  refine r_iconst (v := 0) dX7_readText_24 (by decide) ?_
  refine r_pi fl_X7_42 dX7_readText_25 kd_1 ln_1 rfl ?_
  refine r_aload_n dX7_readText_28 rfl ?_
  refine r_iconst (v := (-1)) dX7_readText_29 (by decide) ?_
  refine r_pi fl_X7_45 dX7_readText_30 kd_1 ln_1 rfl ?_
  refine r_aload_n dX7_readText_33 rfl ?_
  refine r_getr fl_X7_28 dX7_readText_34 kd_1 ln_1 rfl rfl ?_
  refine r_V0n cv_X7_48 dX7_readText_37 (c_clear hI (lC0 hI)) ⟨by decide, by decide⟩ (kC0 hI) (lC0 hI) cl_2 (Nat.le_of_ble_eq_true rfl) ⟨Nat.le_refl _, Nat.le_refl _⟩ ?_
  refine r_aload_n dX7_readText_40 rfl ?_
  refine r_V0n cv_X7_51 dX7_readText_41 (c_skip (txA_RC hI hcC hC).1) ⟨by decide, by decide⟩ kd_1 ln_1 cl_7 (Nat.le_of_ble_eq_true rfl) ⟨Nat.le_refl _, Nat.le_refl _⟩ ?_
  refine r_aload_n dX7_readText_44 rfl ?_
  refine r_geti fl_X7_22 dX7_readText_45 kd_1 ln_1 rfl ?_
  refine r_aload_n dX7_readText_48 rfl ?_
  refine r_geti fl_X7_19 dX7_readText_49 kd_1 ln_1 rfl ?_
  refine r_icmp_lt (tgt := 57) dX7_readText_52 (by decide) (fun h52 => ?_) (fun h52 => ?_)
  · refine r_aload_n dX7_readText_57 rfl ?_
    refine r_getr fl_X7_28 dX7_readText_58 kd_1 ln_1 rfl rfl ?_
    refine r_iconst (v := 1) dX7_readText_61 (by decide) ?_
    refine r_pi fl_X7_54 dX7_readText_62 (kC0 hI) (lC0 hI) rfl ?_
    refine r_aload_n dX7_readText_65 rfl ?_
    refine r_getr fl_X7_28 dX7_readText_66 kd_1 ln_1 rfl rfl ?_
    refine r_iconst (v := 1) dX7_readText_69 (by decide) ?_
    refine r_pi fl_X7_57 dX7_readText_70 (kC0 hI) (lC0 hI) rfl ?_
    refine r_aload_n dX7_readText_73 rfl ?_
    refine r_V0s cv_X7_60 dX7_readText_74 (c_readWays (txC0_RC hI hcC hC)) ⟨by decide, by decide⟩ kd_1 ln_1 cl_7 (Nat.le_of_ble_eq_true rfl) ⟨Nat.le_refl _, Nat.le_refl _⟩ ?_
    refine r_istore_n dX7_readText_77 (by decide) ?_
    refine r_iconst (v := 0) dX7_readText_78 (by decide) ?_
    refine r_istore_n dX7_readText_79 (by decide) ?_
    refine r_lv (lv' := [(0, .ref 1), (1, .int (bI (waF (st (st (txB im it) it 9 1) it 10 1) it).1)), (2, .int (nI 0))]) (al_cons rfl (al_cons rfl (al_cons rfl al_nil))) ?_
    rw [txF, if_pos (show txB im it 1 3 < txB im it 1 2 from h52)]
    exact key 240 0 (waF (st (st (txB im it) it 9 1) it 10 1) it) (by omega) (txC0_RC hI hcC hC).pwa
  · refine r_iconst (v := 0) dX7_readText_55 (by decide) ?_
    exact r_iret dX7_readText_56 rfl (by rw [txF, if_neg (show ¬ txB im it 1 3 < txB im it 1 2 from h52)]; rfl) (Nat.le_refl _) (Nat.le_refl _)

set_option maxRecDepth 100000 in
set_option maxHeartbeats 4000000 in
theorem c_castle {im : IM} {pl it : Nat} (hI : isC it) (hC : isC pl) (hL0 : HL im) : MT YX8_castle 6 0 0 [.ref 0] 137 im (RR pl it) (if (csU im it).1 = 0 then (some (.int (bnX (st (csU im it).2 0 0 (-1)) it it 0)), 137, bnX (st (csU im it).2 0 0 (-1)) it, RR it pl) else (some (.int (-10 - (csU im it).1)), 137, st (csU im it).2 0 0 ((csU im it).2 1 9), RR pl it)) := by
  obtain ⟨L, hL, hL240⟩ := id hL0
  have hCA : CA (st (csU im it).2 0 0 (-1)) it := (txF_RC hI hL hL240).2.keepR (by rw [st_row (by rcases hI with rfl | rfl <;> decide)]; rfl)
  refine mt_of (by decide +kernel) (Nat.le_of_ble_eq_true rfl) ?_
  show WW _ _ _ _ _ _ _ 0 [(0, .ref 0)] [] _ _ _
  refine r_aload_n dX8_castle_0 rfl ?_
  refine r_getr fl_X8_16 dX8_castle_1 kd_0 ln_0 rfl rfl ?_
  refine r_V0s cv_X8_82 dX8_castle_4 (c_readText hI hL hL240) ⟨by decide, by decide⟩ kd_1 ln_1 cl_7 (Nat.le_of_ble_eq_true rfl) ⟨Nat.le_refl _, Nat.le_refl _⟩ ?_
  refine r_istore_n dX8_castle_7 (by decide) ?_
  refine r_iload_n dX8_castle_8 rfl ?_
  refine r_if_eq (tgt := 28) dX8_castle_9 (by decide) (fun h9 => ?_) (fun h9 => ?_)
  · refine r_aload_n dX8_castle_28 rfl ?_
    refine r_iconst (v := (-1)) dX8_castle_29 (by decide) ?_
    refine r_pi fl_X8_9 dX8_castle_30 kd_0 ln_0 rfl ?_
    refine r_aload_n dX8_castle_33 rfl ?_
    refine r_aload_n dX8_castle_34 rfl ?_
    refine r_getr fl_X8_16 dX8_castle_35 kd_0 ln_0 rfl rfl ?_
    refine r_aload_n dX8_castle_38 rfl ?_
    refine r_getr fl_X8_23 dX8_castle_39 kd_0 ln_0 rfl rfl ?_
    refine r_V1s cv_X8_89 dX8_castle_42 (c_exchange hI) ⟨by decide, by decide⟩ kd_1 ln_1 cl_7 (Nat.le_of_ble_eq_true rfl) ⟨Nat.le_refl _, Nat.le_refl _⟩ ?_
    refine r_putr fl_X8_23 dX8_castle_45 kd_0 ln_0 rfl ?_
    refine r_rm upQ_pl ?_
    refine r_aload_n dX8_castle_48 rfl ?_
    refine r_V0n cv_X8_93 dX8_castle_49 (c_beginAnew (pl := it) (it := pl) hCA) ⟨by decide, by decide⟩ kd_0 ln_0 cl_8 (Nat.le_of_ble_eq_true rfl) ⟨Nat.le_refl _, Nat.le_refl _⟩ ?_
    refine r_aload_n dX8_castle_52 rfl ?_
    refine r_getr fl_X8_23 dX8_castle_53 kd_0 ln_0 rfl rfl ?_
    refine r_geti fl_X8_96 dX8_castle_56 (kC0 hI) (lC0 hI) rfl ?_
    exact r_iret dX8_castle_59 rfl (if_pos h9) (Nat.le_refl _) (Nat.le_refl _)
  · refine r_aload_n dX8_castle_12 rfl ?_
    refine r_aload_n dX8_castle_13 rfl ?_
    refine r_getr fl_X8_16 dX8_castle_14 kd_0 ln_0 rfl rfl ?_
    refine r_geti fl_X8_86 dX8_castle_17 kd_1 ln_1 rfl ?_
    refine r_pi fl_X8_9 dX8_castle_20 kd_0 ln_0 rfl ?_
    refine r_bipush (v := (-10)) dX8_castle_23 (by decide) ?_
    refine r_iload_n dX8_castle_25 rfl ?_
    refine r_isub dX8_castle_26 ?_
    exact r_iret dX8_castle_27 rfl (if_neg h9) (Nat.le_refl _) (Nat.le_refl _)

