theorem cl_go {it n : Nat} {q : Bool × IM} (h : q.1 = true) (h1 : ¬ q.2 2 1 ≤ q.2 2 2) : clF it (n + 1) q = clF it n (rcF q.2 it) := by
  rw [clF, if_neg (by rw [h]; decide), if_neg h1]
set_option maxRecDepth 100000 in
set_option maxHeartbeats 4000000 in
theorem c_readText {im : IM} {pl it C : Nat} {c : Int32} (hI : isC it) (hcC : c = nI C) (hC : C ≤ 240) : MT YX7_readText 5 0 0 [.ref 2, .int c] 137 im (RR pl it) (some (.int (txF im it c).1), 137, (txF im it c).2, RR pl it) := by
  refine mt_of (by decide +kernel) (Nat.le_of_ble_eq_true rfl) ?_
  show WW _ _ _ _ _ _ _ 0 [(0, .ref 2), (1, .int c)] [] _ _ _
  have key : ∀ (m i : Nat) (q : Bool × IM), i + m = 240 → RC q.2 it → WW YX7_readText 5 0 0 (some (.int (clF it m q 2 7)), 137, clF it m q, RR pl it) 0 0 80 [(0, .ref 2), (1, .int c), (2, .int (bI q.1)), (3, .int (nI i))] [] 137 q.2 (RR pl it) := by
    intro m
    induction m with
    | zero =>
      intro i q hi hc
      refine r_iload_n dX7_readText_80 rfl ?_
      refine r_sipush (v := 240) dX7_readText_81 (by decide) ?_
      refine r_icmp_ge_t (tgt := 113) dX7_readText_84 (by decide) (ix_le (cI 240) rfl (by omega) (by omega)) ?_
      refine r_aload_n dX7_readText_113 rfl ?_
      refine r_geti fl_X7_35 dX7_readText_114 kd_2 ln_2 rfl ?_
      exact r_iret dX7_readText_117 rfl rfl (Nat.le_refl _) (Nat.le_refl _)
    | succ m ih =>
      intro i q hi hc
      refine r_iload_n dX7_readText_80 rfl ?_
      refine r_sipush (v := 240) dX7_readText_81 (by decide) ?_
      refine r_icmp_ge_f (tgt := 113) dX7_readText_84 (by decide) (ix_nle (cI 240) rfl (by omega) (by omega)) ?_
      refine r_iload_n dX7_readText_87 rfl ?_
      refine r_bz_eq (tgt := 113) dX7_readText_88 (by decide) (fun h88 => ?_) (fun h88 => ?_)
      · refine r_aload_n dX7_readText_113 rfl ?_
        refine r_geti fl_X7_35 dX7_readText_114 kd_2 ln_2 rfl ?_
        exact r_iret dX7_readText_117 rfl (by simp only [clF, eq_self, Bool.false_eq_true, Bool.true_eq_false, if_true, if_false, reduceIte, h88]) (Nat.le_refl _) (Nat.le_refl _)
      · refine r_aload_n dX7_readText_91 rfl ?_
        refine r_geti fl_X7_15 dX7_readText_92 kd_2 ln_2 rfl ?_
        refine r_aload_n dX7_readText_95 rfl ?_
        refine r_geti fl_X7_9 dX7_readText_96 kd_2 ln_2 rfl ?_
        refine r_icmp_ge (tgt := 113) dX7_readText_99 (by decide) (fun h99 => ?_) (fun h99 => ?_)
        · refine r_aload_n dX7_readText_113 rfl ?_
          refine r_geti fl_X7_35 dX7_readText_114 kd_2 ln_2 rfl ?_
          exact r_iret dX7_readText_117 rfl (by simp only [clF, eq_self, Bool.false_eq_true, Bool.true_eq_false, if_true, if_false, reduceIte, h88, h99]) (Nat.le_refl _) (Nat.le_refl _)
        · refine r_aload_n dX7_readText_102 rfl ?_
          refine r_V0s cv_X7_67 dX7_readText_103 (c_readClause hc) ⟨by decide, by decide⟩ kd_2 ln_2 cl_7 (Nat.le_of_ble_eq_true rfl) ⟨Nat.le_refl _, Nat.le_refl _⟩ ?_
          refine r_istore_n dX7_readText_106 (by decide) ?_
          refine r_iinc dX7_readText_107 rfl (by decide) (ix_inc rfl) ?_
          refine r_goto (tgt := 80) dX7_readText_110 (by decide) ?_
          rw [cl_go h88 h99]
          refine r_lv (lv' := [(0, .ref 2), (1, .int c), (2, .int (bI (rcF q.2 it).1)), (3, .int (nI (i + 1)))]) (al_cons rfl (al_cons rfl (al_cons rfl (al_cons rfl al_nil)))) ?_
          exact ih (i + 1) _ (by omega) hc.prc
  refine r_aload_n dX7_readText_0 rfl ?_
  refine r_iload_n dX7_readText_1 rfl ?_
  refine r_aload_n dX7_readText_2 rfl ?_
  refine r_getr fl_X7_41 dX7_readText_3 kd_2 ln_2 rfl rfl ?_
  refine r_alen dX7_readText_6 kd_1 ln_1 (cI 240).symm ?_
  refine r_min cv_X7_45 dX7_readText_7 (by decide) (Nat.le_of_ble_eq_true rfl) ⟨Nat.le_refl _, Nat.le_refl _⟩ ?_
  refine r_pi fl_X7_9 dX7_readText_10 kd_2 ln_2 rfl ?_
  refine r_aload_n dX7_readText_13 rfl ?_
  refine r_iconst (v := 0) dX7_readText_14 (by decide) ?_
  refine r_pi fl_X7_15 dX7_readText_15 kd_2 ln_2 rfl ?_
  refine r_aload_n dX7_readText_18 rfl ?_
  refine r_iconst (v := 0) dX7_readText_19 (by decide) ?_
  refine r_pz fl_X7_25 dX7_readText_20 kd_2 ln_2 rfl ⟨nar0, rfl⟩ ?_
  refine r_aload_n dX7_readText_23 rfl ?_
  refine r_iconst (v := 0) dX7_readText_24 (by decide) ?_
  refine r_pi fl_X7_35 dX7_readText_25 kd_2 ln_2 rfl ?_
  refine r_aload_n dX7_readText_28 rfl ?_
  refine r_iconst (v := (-1)) dX7_readText_29 (by decide) ?_
  refine r_pi fl_X7_38 dX7_readText_30 kd_2 ln_2 rfl ?_
  refine r_aload_n dX7_readText_33 rfl ?_
  refine r_getr fl_X7_21 dX7_readText_34 kd_2 ln_2 rfl rfl ?_
  refine r_V0n cv_X7_51 dX7_readText_37 (c_clear hI (lC0 hI)) ⟨by decide, by decide⟩ (kC0 hI) (lC0 hI) cl_2 (Nat.le_of_ble_eq_true rfl) ⟨Nat.le_refl _, Nat.le_refl _⟩ ?_
  refine r_aload_n dX7_readText_40 rfl ?_
  refine r_V0n cv_X7_54 dX7_readText_41 (c_skip (txA_RC hI hcC hC).1) ⟨by decide, by decide⟩ kd_2 ln_2 cl_7 (Nat.le_of_ble_eq_true rfl) ⟨Nat.le_refl _, Nat.le_refl _⟩ ?_
  refine r_aload_n dX7_readText_44 rfl ?_
  refine r_geti fl_X7_15 dX7_readText_45 kd_2 ln_2 rfl ?_
  refine r_aload_n dX7_readText_48 rfl ?_
  refine r_geti fl_X7_9 dX7_readText_49 kd_2 ln_2 rfl ?_
  refine r_icmp_lt (tgt := 57) dX7_readText_52 (by decide) (fun h52 => ?_) (fun h52 => ?_)
  · refine r_aload_n dX7_readText_57 rfl ?_
    refine r_getr fl_X7_21 dX7_readText_58 kd_2 ln_2 rfl rfl ?_
    refine r_iconst (v := 1) dX7_readText_61 (by decide) ?_
    refine r_pi fl_X7_57 dX7_readText_62 (kC0 hI) (lC0 hI) rfl ?_
    refine r_aload_n dX7_readText_65 rfl ?_
    refine r_getr fl_X7_21 dX7_readText_66 kd_2 ln_2 rfl rfl ?_
    refine r_iconst (v := 1) dX7_readText_69 (by decide) ?_
    refine r_pi fl_X7_60 dX7_readText_70 (kC0 hI) (lC0 hI) rfl ?_
    refine r_aload_n dX7_readText_73 rfl ?_
    refine r_V0s cv_X7_63 dX7_readText_74 (c_readWays (txC0_RC hI hcC hC)) ⟨by decide, by decide⟩ kd_2 ln_2 cl_7 (Nat.le_of_ble_eq_true rfl) ⟨Nat.le_refl _, Nat.le_refl _⟩ ?_
    refine r_istore_n dX7_readText_77 (by decide) ?_
    refine r_iconst (v := 0) dX7_readText_78 (by decide) ?_
    refine r_istore_n dX7_readText_79 (by decide) ?_
    refine r_lv (lv' := [(0, .ref 2), (1, .int c), (2, .int (bI (waF (st (st (txB im it c) it 9 1) it 10 1) it).1)), (3, .int (nI 0))]) (al_cons rfl (al_cons rfl (al_cons rfl (al_cons rfl al_nil)))) ?_
    rw [txF, if_pos (show txB im it c 2 2 < txB im it c 2 1 from h52)]
    exact key 240 0 (waF (st (st (txB im it c) it 9 1) it 10 1) it) (by omega) (txC0_RC hI hcC hC).pwa
  · refine r_iconst (v := 0) dX7_readText_55 (by decide) ?_
    exact r_iret dX7_readText_56 rfl (by rw [txF, if_neg (show ¬ txB im it c 2 2 < txB im it c 2 1 from h52)]; rfl) (Nat.le_refl _) (Nat.le_refl _)

set_option maxRecDepth 100000 in
set_option maxHeartbeats 4000000 in
theorem c_castle {im : IM} {pl it : Nat} (hI : isC it) (hC : isC pl) (hL0 : HL im) : MT YX8_castle 6 0 0 [.ref 0] 137 im (RR pl it) (if (csU im it).1 = 0 then (some (.int (bnX (st (st (csU im it).2 0 1 0) 0 2 (-1)) it it 0)), 137, bnX (st (st (csU im it).2 0 1 0) 0 2 (-1)) it, RR it pl) else (some (.int (-10 - (csU im it).1)), 137, st (st (csU im it).2 0 1 0) 0 2 ((csU im it).2 2 8), RR pl it)) := by
  obtain ⟨L, hL, hL240⟩ := id hL0
  have hCA : CA (st (st (csU im it).2 0 1 0) 0 2 (-1)) it := (txF_RC hI hL hL240).2.keepR (by rw [st_row (by rcases hI with rfl | rfl <;> decide), st_row (by rcases hI with rfl | rfl <;> decide)]; rfl)
  refine mt_of (by decide +kernel) (Nat.le_of_ble_eq_true rfl) ?_
  show WW _ _ _ _ _ _ _ 0 [(0, .ref 0)] [] _ _ _
  refine r_aload_n dX8_castle_0 rfl ?_
  refine r_getr fl_X8_25 dX8_castle_1 kd_0 ln_0 rfl rfl ?_
  refine r_aload_n dX8_castle_4 rfl ?_
  refine r_geti fl_X8_13 dX8_castle_5 kd_0 ln_0 rfl ?_
  refine r_V1s cv_X8_84 dX8_castle_8 (c_readText hI hL hL240) ⟨by decide, by decide⟩ kd_2 ln_2 cl_7 (Nat.le_of_ble_eq_true rfl) ⟨Nat.le_refl _, Nat.le_refl _⟩ ?_
  refine r_istore_n dX8_castle_11 (by decide) ?_
  refine r_aload_n dX8_castle_12 rfl ?_
  refine r_iconst (v := 0) dX8_castle_13 (by decide) ?_
  refine r_pi fl_X8_13 dX8_castle_14 kd_0 ln_0 rfl ?_
  refine r_iload_n dX8_castle_17 rfl ?_
  refine r_if_eq (tgt := 37) dX8_castle_18 (by decide) (fun h18 => ?_) (fun h18 => ?_)
  · refine r_aload_n dX8_castle_37 rfl ?_
    refine r_iconst (v := (-1)) dX8_castle_38 (by decide) ?_
    refine r_pi fl_X8_17 dX8_castle_39 kd_0 ln_0 rfl ?_
    refine r_aload_n dX8_castle_42 rfl ?_
    refine r_aload_n dX8_castle_43 rfl ?_
    refine r_getr fl_X8_25 dX8_castle_44 kd_0 ln_0 rfl rfl ?_
    refine r_aload_n dX8_castle_47 rfl ?_
    refine r_getr fl_X8_32 dX8_castle_48 kd_0 ln_0 rfl rfl ?_
    refine r_V1s cv_X8_91 dX8_castle_51 (c_exchange hI) ⟨by decide, by decide⟩ kd_2 ln_2 cl_7 (Nat.le_of_ble_eq_true rfl) ⟨Nat.le_refl _, Nat.le_refl _⟩ ?_
    refine r_putr fl_X8_32 dX8_castle_54 kd_0 ln_0 rfl ?_
    refine r_rm upQ_pl ?_
    refine r_aload_n dX8_castle_57 rfl ?_
    refine r_V0n cv_X8_95 dX8_castle_58 (c_beginAnew (pl := it) (it := pl) hCA) ⟨by decide, by decide⟩ kd_0 ln_0 cl_8 (Nat.le_of_ble_eq_true rfl) ⟨Nat.le_refl _, Nat.le_refl _⟩ ?_
    refine r_aload_n dX8_castle_61 rfl ?_
    refine r_getr fl_X8_32 dX8_castle_62 kd_0 ln_0 rfl rfl ?_
    refine r_geti fl_X8_98 dX8_castle_65 (kC0 hI) (lC0 hI) rfl ?_
    exact r_iret dX8_castle_68 rfl (if_pos h18) (Nat.le_refl _) (Nat.le_refl _)
  · refine r_aload_n dX8_castle_21 rfl ?_
    refine r_aload_n dX8_castle_22 rfl ?_
    refine r_getr fl_X8_25 dX8_castle_23 kd_0 ln_0 rfl rfl ?_
    refine r_getx (x := (csU im it).2 2 8) fl_X8_88 dX8_castle_26 kd_2 ln_2 rfl (by rw [st_row (by decide)]; rfl) ?_
    refine r_pi fl_X8_17 dX8_castle_29 kd_0 ln_0 rfl ?_
    refine r_bipush (v := (-10)) dX8_castle_32 (by decide) ?_
    refine r_iload_n dX8_castle_34 rfl ?_
    refine r_isub dX8_castle_35 ?_
    exact r_iret dX8_castle_36 rfl (if_neg h18) (Nat.le_refl _) (Nat.le_refl _)

