set_option maxRecDepth 100000 in
set_option maxHeartbeats 4000000 in
theorem c_readWaySet {im : IM} {pl it : Nat} (hc : RC im it) (x : Int32) : MT YX7_readWaySet 2 0 0 [.ref 1, .int x] 137 im (RR pl it) (some (.int (bI (wsF im it x).1)), 137, (wsF im it x).2, RR pl it) := by
  have hr := hc.1
  obtain ⟨hI, W, T, S, hW, hW8, hT, hT6, hS, hS5⟩ := id hc.2
  have hi2 : it ≠ 1 := isC_ne2 hI
  refine mt_of (by decide +kernel) (Nat.le_of_ble_eq_true rfl) ?_
  show WW _ _ _ _ _ _ _ 0 [(0, .ref 1), (1, .int x)] [] _ _ _
  refine r_aload_n dX7_readWaySet_0 rfl ?_
  refine r_iload_n dX7_readWaySet_1 rfl ?_
  refine r_sipush (v := 255) dX7_readWaySet_2 (by decide) ?_
  refine r_V2s cv_X7_85 dX7_readWaySet_5 (c_readNumber hc.1 x 255) ⟨by decide, by decide⟩ kd_1 ln_1 cl_7 (Nat.le_of_ble_eq_true rfl) ⟨Nat.le_refl _, Nat.le_refl _⟩ ?_
  refine r_bz_ne (tgt := 13) dX7_readWaySet_8 (by decide) (fun h8 => ?_) (fun h8 => ?_)
  · refine r_aload_n dX7_readWaySet_13 rfl ?_
    refine r_getr fl_X7_28 dX7_readWaySet_14 kd_1 ln_1 rfl rfl ?_
    refine r_aload_n dX7_readWaySet_17 rfl ?_
    refine r_geti fl_X7_36 dX7_readWaySet_18 kd_1 ln_1 rfl ?_
    refine r_V1s cv_X7_127 dX7_readWaySet_21 (by have q := c_hasWays (pl := pl) (it := it) (im := (rnF im x 255).2) (hc.rn.2) (((rnF im x 255).2) 1 6); rw [show ((rnF im x 255).2) it 0 = im it 0 by rw [rnF_row hi2]] at q; exact q) ⟨by decide, by decide⟩ (kC0 hI) (lC0 hI) cl_2 (Nat.le_of_ble_eq_true rfl) ⟨Nat.le_refl _, Nat.le_refl _⟩ ?_
    refine r_bz_ne (tgt := 39) dX7_readWaySet_24 (by decide) (fun h24 => ?_) (fun h24 => ?_)
    · refine r_iconst (v := 1) dX7_readWaySet_39 (by decide) ?_
      refine r_goto (tgt := 44) dX7_readWaySet_40 (by decide) ?_
      exact r_zret dX7_readWaySet_44 rfl nar1 (by simp only [wsF, bI, eq_self, Bool.false_eq_true, Bool.true_eq_false, if_true, if_false, reduceIte, h8, h24]) (Nat.le_refl _) (Nat.le_refl _)
    · refine r_aload_n dX7_readWaySet_27 rfl ?_
      refine r_iconst (v := 2) dX7_readWaySet_28 (by decide) ?_
      refine r_aload_n dX7_readWaySet_29 rfl ?_
      refine r_geti fl_X7_39 dX7_readWaySet_30 kd_1 ln_1 rfl ?_
      refine r_V2s cv_X7_81 dX7_readWaySet_33 (c_refuse 2 (((rnF im x 255).2) 1 7)) ⟨by decide, by decide⟩ kd_1 ln_1 cl_7 (Nat.le_of_ble_eq_true rfl) ⟨Nat.le_refl _, Nat.le_refl _⟩ ?_
      refine r_if_eq_t (tgt := 43) dX7_readWaySet_36 (by decide) (by decide) ?_
      refine r_iconst (v := 0) dX7_readWaySet_43 (by decide) ?_
      exact r_zret dX7_readWaySet_44 rfl nar0 (by simp only [wsF, bI, eq_self, Bool.false_eq_true, Bool.true_eq_false, if_true, if_false, reduceIte, h8, h24]) (Nat.le_refl _) (Nat.le_refl _)
  · refine r_iconst (v := 0) dX7_readWaySet_11 (by decide) ?_
    exact r_zret dX7_readWaySet_12 rfl nar0 (by simp only [wsF, bI, eq_self, Bool.false_eq_true, Bool.true_eq_false, if_true, if_false, reduceIte, h8]) (Nat.le_refl _) (Nat.le_refl _)

set_option maxRecDepth 100000 in
set_option maxHeartbeats 4000000 in
theorem c_readWay {im : IM} {pl it : Nat} (hc : RC im it) : MT YX7_readWay 2 0 0 [.ref 1] 137 im (RR pl it) (some (.int (bI (rwF im it).1)), 137, (rwF im it).2, RR pl it) := by
  have hr := hc.1
  obtain ⟨hI, W, T, S, hW, hW8, hT, hT6, hS, hS5⟩ := id hc.2
  have hi2 : it ≠ 1 := isC_ne2 hI
  have htW : tn (im it 0) = W := by rw [hW, tn_nI (by omega)]
  refine mt_of (by decide +kernel) (Nat.le_of_ble_eq_true rfl) ?_
  show WW _ _ _ _ _ _ _ 0 [(0, .ref 1)] [] _ _ _
  refine r_aload_n dX7_readWay_0 rfl ?_
  refine r_getr fl_X7_28 dX7_readWay_1 kd_1 ln_1 rfl rfl ?_
  refine r_geti fl_X7_78 dX7_readWay_4 (kC0 hI) (lC0 hI) rfl ?_
  refine r_bipush (v := 8) dX7_readWay_7 (by decide) ?_
  refine r_icmp_lt (tgt := 22) dX7_readWay_9 (by decide) (fun h9 => ?_) (fun h9 => ?_)
  · have hWl : W < 8 := lt_of_nI hW (cI 8) h9 (by omega) (by omega)
    refine r_aload_n dX7_readWay_22 rfl ?_
    refine r_iconst (v := 1) dX7_readWay_23 (by decide) ?_
    refine r_sipush (v := 999) dX7_readWay_24 (by decide) ?_
    refine r_V2s cv_X7_85 dX7_readWay_27 (c_readNumber hc.1 1 999) ⟨by decide, by decide⟩ kd_1 ln_1 cl_7 (Nat.le_of_ble_eq_true rfl) ⟨Nat.le_refl _, Nat.le_refl _⟩ ?_
    refine r_bz_ne (tgt := 35) dX7_readWay_30 (by decide) (fun h30 => ?_) (fun h30 => ?_)
    · refine r_aload_n dX7_readWay_35 rfl ?_
      refine r_getr fl_X7_28 dX7_readWay_36 kd_1 ln_1 rfl rfl ?_
      refine r_getr fl_X7_88 dX7_readWay_39 (kC0 hI) (lC0 hI) rfl (rrC1 hI) ?_
      refine r_aload_n dX7_readWay_42 rfl ?_
      refine r_getr fl_X7_28 dX7_readWay_43 kd_1 ln_1 rfl rfl ?_
      refine r_getx (x := im it 0) fl_X7_78 dX7_readWay_46 (kC0 hI) (lC0 hI) rfl (by rw [rnF_row hi2]) ?_
      refine r_aload_n dX7_readWay_49 rfl ?_
      refine r_geti fl_X7_36 dX7_readWay_50 kd_1 ln_1 rfl ?_
      refine r_as (j := W) dX7_readWay_53 (kC1 hI) (lC1 hI) hW (by omega) (by decide) ?_
      refine r_aload_n dX7_readWay_54 rfl ?_
      refine r_getr fl_X7_28 dX7_readWay_55 kd_1 ln_1 rfl rfl ?_
      refine r_dup dX7_readWay_58 rfl ?_
      refine r_getx (x := im it 0) fl_X7_78 dX7_readWay_59 (kC0 hI) (lC0 hI) rfl (by rw [st_row (by omega), rnF_row hi2]) ?_
      refine r_iconst (v := 1) dX7_readWay_62 (by decide) ?_
      refine r_iadd dX7_readWay_63 ?_
      refine r_pi fl_X7_78 dX7_readWay_64 (kC0 hI) (lC0 hI) rfl ?_
      refine r_iconst (v := 1) dX7_readWay_67 (by decide) ?_
      exact r_zret dX7_readWay_68 rfl nar1 (by simp only [rwF, bI, eq_self, Bool.false_eq_true, Bool.true_eq_false, if_true, if_false, reduceIte, h9, h30, htW]) (Nat.le_refl _) (Nat.le_refl _)
    · refine r_iconst (v := 0) dX7_readWay_33 (by decide) ?_
      exact r_zret dX7_readWay_34 rfl nar0 (by simp only [rwF, bI, eq_self, Bool.false_eq_true, Bool.true_eq_false, if_true, if_false, reduceIte, h9, h30, htW]) (Nat.le_refl _) (Nat.le_refl _)
  · refine r_aload_n dX7_readWay_12 rfl ?_
    refine r_iconst (v := 1) dX7_readWay_13 (by decide) ?_
    refine r_aload_n dX7_readWay_14 rfl ?_
    refine r_geti fl_X7_22 dX7_readWay_15 kd_1 ln_1 rfl ?_
    refine r_V2s cv_X7_81 dX7_readWay_18 (c_refuse 1 (im 1 3)) ⟨by decide, by decide⟩ kd_1 ln_1 cl_7 (Nat.le_of_ble_eq_true rfl) ⟨Nat.le_refl _, Nat.le_refl _⟩ ?_
    exact r_zret dX7_readWay_21 rfl nar0 (by simp only [rwF, bI, eq_self, Bool.false_eq_true, Bool.true_eq_false, if_true, if_false, reduceIte, h9]) (Nat.le_refl _) (Nat.le_refl _)

set_option maxRecDepth 100000 in
set_option maxHeartbeats 4000000 in
theorem c_readPay {im : IM} {pl it : Nat} (hc : RC im it) : MT YX7_readPay 2 0 0 [.ref 1] 137 im (RR pl it) (some (.int (bI (ryF im it).1)), 137, (ryF im it).2, RR pl it) := by
  have hr := hc.1
  obtain ⟨hI, W, T, S, hW, hW8, hT, hT6, hS, hS5⟩ := id hc.2
  have hi2 : it ≠ 1 := isC_ne2 hI
  refine mt_of (by decide +kernel) (Nat.le_of_ble_eq_true rfl) ?_
  show WW _ _ _ _ _ _ _ 0 [(0, .ref 1)] [] _ _ _
  refine r_aload_n dX7_readPay_0 rfl ?_
  refine r_geti fl_X7_32 dX7_readPay_1 kd_1 ln_1 rfl ?_
  refine r_if_eq (tgt := 17) dX7_readPay_4 (by decide) (fun h4 => ?_) (fun h4 => ?_)
  · refine r_aload_n dX7_readPay_17 rfl ?_
    refine r_iconst (v := 1) dX7_readPay_18 (by decide) ?_
    refine r_pz fl_X7_32 dX7_readPay_19 kd_1 ln_1 rfl ⟨nar1, rfl⟩ ?_
    refine r_aload_n dX7_readPay_22 rfl ?_
    refine r_bipush (v := 112) dX7_readPay_23 (by decide) ?_
    refine r_V1s cv_X7_67 dX7_readPay_25 (c_take (show RC (st im 1 5 1) it from hc.row2 (hr.sto (by omega)) (fun _ q => st_row q)).1 112 (by decide)) ⟨by decide, by decide⟩ kd_1 ln_1 cl_7 (Nat.le_of_ble_eq_true rfl) ⟨Nat.le_refl _, Nat.le_refl _⟩ ?_
    refine r_bz_eq (tgt := 41) dX7_readPay_28 (by decide) (fun h28 => ?_) (fun h28 => ?_)
    · refine r_iconst (v := 0) dX7_readPay_41 (by decide) ?_
      exact r_zret dX7_readPay_42 rfl nar0 (by simp only [ryF, ryH, ryI, bI, eq_self, Bool.false_eq_true, Bool.true_eq_false, if_true, if_false, reduceIte, eq_true h4, h28]) (Nat.le_refl _) (Nat.le_refl _)
    · have hcJ : RC ((tkF (st im 1 5 1) 112).2) it := RC.tk (show RC (st im 1 5 1) it from hc.row2 (hr.sto (by omega)) (fun _ q => st_row q)) (by decide)
      obtain ⟨J, hJ⟩ : ∃ z : IM, (tkF (st im 1 5 1) 112).2 = z := ⟨_, rfl⟩
      rw [hJ] at hcJ
      refine r_im hJ ?_
      refine r_aload_n dX7_readPay_31 rfl ?_
      refine r_iconst (v := 1) dX7_readPay_32 (by decide) ?_
      refine r_bipush (v := 99) dX7_readPay_33 (by decide) ?_
      refine r_V2s cv_X7_85 dX7_readPay_35 (c_readNumber hcJ.1 1 99) ⟨by decide, by decide⟩ kd_1 ln_1 cl_7 (Nat.le_of_ble_eq_true rfl) ⟨Nat.le_refl _, Nat.le_refl _⟩ ?_
      refine r_bz_ne (tgt := 43) dX7_readPay_38 (by decide) (fun h38 => ?_) (fun h38 => ?_)
      · have hcK : RC ((rnF J 1 99).2) it := RC.rn hcJ
        obtain ⟨K, hK⟩ : ∃ z : IM, (rnF J 1 99).2 = z := ⟨_, rfl⟩
        rw [hK] at hcK
        refine r_im hK ?_
        refine r_aload_n dX7_readPay_43 rfl ?_
        refine r_getr fl_X7_28 dX7_readPay_44 kd_1 ln_1 rfl rfl ?_
        refine r_aload_n dX7_readPay_47 rfl ?_
        refine r_geti fl_X7_36 dX7_readPay_48 kd_1 ln_1 rfl ?_
        refine r_pi fl_X7_54 dX7_readPay_51 (kC0 hI) (lC0 hI) rfl ?_
        refine r_aload_n dX7_readPay_54 rfl ?_
        refine r_iconst (v := 1) dX7_readPay_55 (by decide) ?_
        refine r_bipush (v := 30) dX7_readPay_56 (by decide) ?_
        refine r_V2s cv_X7_85 dX7_readPay_58 (c_readNumber (show RC (st K it 9 (K 1 6)) it from hcK.fld (by omega)).1 1 30) ⟨by decide, by decide⟩ kd_1 ln_1 cl_7 (Nat.le_of_ble_eq_true rfl) ⟨Nat.le_refl _, Nat.le_refl _⟩ ?_
        refine r_bz_ne (tgt := 66) dX7_readPay_61 (by decide) (fun h61 => ?_) (fun h61 => ?_)
        · have hcM : RC ((rnF (st K it 9 (K 1 6)) 1 30).2) it := RC.rn (show RC (st K it 9 (K 1 6)) it from hcK.fld (by omega))
          obtain ⟨M, hM⟩ : ∃ z : IM, (rnF (st K it 9 (K 1 6)) 1 30).2 = z := ⟨_, rfl⟩
          rw [hM] at hcM
          refine r_im hM ?_
          refine r_aload_n dX7_readPay_66 rfl ?_
          refine r_getr fl_X7_28 dX7_readPay_67 kd_1 ln_1 rfl rfl ?_
          refine r_aload_n dX7_readPay_70 rfl ?_
          refine r_geti fl_X7_36 dX7_readPay_71 kd_1 ln_1 rfl ?_
          refine r_pi fl_X7_57 dX7_readPay_74 (kC0 hI) (lC0 hI) rfl ?_
          refine r_aload_n dX7_readPay_77 rfl ?_
          refine r_bipush (v := 59) dX7_readPay_78 (by decide) ?_
          refine r_V1s cv_X7_67 dX7_readPay_80 (c_take (show RC (st M it 10 (M 1 6)) it from hcM.fld (by omega)).1 59 (by decide)) ⟨by decide, by decide⟩ kd_1 ln_1 cl_7 (Nat.le_of_ble_eq_true rfl) ⟨Nat.le_refl _, Nat.le_refl _⟩ ?_
          exact r_zret dX7_readPay_83 rfl (bI_nar _) (by simp only [ryF, ryH, ryI, bI, eq_self, Bool.false_eq_true, Bool.true_eq_false, if_true, if_false, reduceIte, eq_true h4, h28, hJ, h38, hK, h61, hM]) (Nat.le_refl _) (Nat.le_refl _)
        · refine r_iconst (v := 0) dX7_readPay_64 (by decide) ?_
          exact r_zret dX7_readPay_65 rfl nar0 (by simp only [ryF, ryH, ryI, bI, eq_self, Bool.false_eq_true, Bool.true_eq_false, if_true, if_false, reduceIte, eq_true h4, h28, hJ, h38, hK, h61]) (Nat.le_refl _) (Nat.le_refl _)
      · refine r_iconst (v := 0) dX7_readPay_41 (by decide) ?_
        exact r_zret dX7_readPay_42 rfl nar0 (by simp only [ryF, ryH, ryI, bI, eq_self, Bool.false_eq_true, Bool.true_eq_false, if_true, if_false, reduceIte, eq_true h4, h28, hJ, h38]) (Nat.le_refl _) (Nat.le_refl _)
  · refine r_aload_n dX7_readPay_7 rfl ?_
    refine r_iconst (v := 3) dX7_readPay_8 (by decide) ?_
    refine r_aload_n dX7_readPay_9 rfl ?_
    refine r_geti fl_X7_22 dX7_readPay_10 kd_1 ln_1 rfl ?_
    refine r_V2s cv_X7_81 dX7_readPay_13 (c_refuse 3 (im 1 3)) ⟨by decide, by decide⟩ kd_1 ln_1 cl_7 (Nat.le_of_ble_eq_true rfl) ⟨Nat.le_refl _, Nat.le_refl _⟩ ?_
    exact r_zret dX7_readPay_16 rfl nar0 (by simp only [ryF, ryH, ryI, bI, eq_self, Bool.false_eq_true, Bool.true_eq_false, if_true, if_false, reduceIte, h4]) (Nat.le_refl _) (Nat.le_refl _)

set_option maxRecDepth 100000 in
set_option maxHeartbeats 4000000 in
theorem c_readServant {im : IM} {pl it : Nat} (hc : RC im it) : MT YX7_readServant 3 0 0 [.ref 1] 137 im (RR pl it) (some (.int (bI (rsF im it).1)), 137, (rsF im it).2, RR pl it) := by
  have hr := hc.1
  obtain ⟨hI, W, T, S, hW, hW8, hT, hT6, hS, hS5⟩ := id hc.2
  have hi2 : it ≠ 1 := isC_ne2 hI
  have htS : tn (im it 6) = S := by rw [hS, tn_nI (by omega)]
  refine mt_of (by decide +kernel) (Nat.le_of_ble_eq_true rfl) ?_
  show WW _ _ _ _ _ _ _ 0 [(0, .ref 1)] [] _ _ _
  refine r_aload_n dX7_readServant_0 rfl ?_
  refine r_getr fl_X7_28 dX7_readServant_1 kd_1 ln_1 rfl rfl ?_
  refine r_geti fl_X7_118 dX7_readServant_4 (kC0 hI) (lC0 hI) rfl ?_
  refine r_istore_n dX7_readServant_7 (by decide) ?_
  refine r_iload_n dX7_readServant_8 rfl ?_
  refine r_iconst (v := 5) dX7_readServant_9 (by decide) ?_
  refine r_icmp_lt (tgt := 23) dX7_readServant_10 (by decide) (fun h10 => ?_) (fun h10 => ?_)
  · have hSl : S < 5 := lt_of_nI hS (cI 5) h10 (by omega) (by omega)
    refine r_aload_n dX7_readServant_23 rfl ?_
    refine r_bipush (v := 115) dX7_readServant_24 (by decide) ?_
    refine r_V1s cv_X7_67 dX7_readServant_26 (c_take hc.1 115 (by decide)) ⟨by decide, by decide⟩ kd_1 ln_1 cl_7 (Nat.le_of_ble_eq_true rfl) ⟨Nat.le_refl _, Nat.le_refl _⟩ ?_
    refine r_bz_eq (tgt := 40) dX7_readServant_29 (by decide) (fun h29 => ?_) (fun h29 => ?_)
    · refine r_iconst (v := 0) dX7_readServant_40 (by decide) ?_
      exact r_zret dX7_readServant_41 rfl nar0 (by simp only [rsF, rsI, bI, eq_self, Bool.false_eq_true, Bool.true_eq_false, if_true, if_false, reduceIte, h10, h29, htS]) (Nat.le_refl _) (Nat.le_refl _)
    · have hcJ : RC ((tkF im 115).2) it := RC.tk hc (by decide)
      obtain ⟨J, hJ⟩ : ∃ z : IM, (tkF im 115).2 = z := ⟨_, rfl⟩
      rw [hJ] at hcJ
      refine r_im hJ ?_
      refine r_aload_n dX7_readServant_32 rfl ?_
      refine r_iconst (v := 1) dX7_readServant_33 (by decide) ?_
      refine r_V1s cv_X7_103 dX7_readServant_34 (c_readWaySet hcJ 1) ⟨by decide, by decide⟩ kd_1 ln_1 cl_7 (Nat.le_of_ble_eq_true rfl) ⟨Nat.le_refl _, Nat.le_refl _⟩ ?_
      refine r_bz_ne (tgt := 42) dX7_readServant_37 (by decide) (fun h37 => ?_) (fun h37 => ?_)
      · have hcK : RC ((wsF J it 1).2) it := RC.ws hcJ
        obtain ⟨K, hK⟩ : ∃ z : IM, (wsF J it 1).2 = z := ⟨_, rfl⟩
        rw [hK] at hcK
        refine r_im hK ?_
        refine r_aload_n dX7_readServant_42 rfl ?_
        refine r_getr fl_X7_28 dX7_readServant_43 kd_1 ln_1 rfl rfl ?_
        refine r_getr fl_X7_121 dX7_readServant_46 (kC0 hI) (lC0 hI) rfl (rrC7 hI) ?_
        refine r_iload_n dX7_readServant_49 rfl ?_
        refine r_aload_n dX7_readServant_50 rfl ?_
        refine r_geti fl_X7_36 dX7_readServant_51 kd_1 ln_1 rfl ?_
        refine r_as (j := S) dX7_readServant_54 (kC5 hI) (lC5 hI) hS (by omega) (by decide) ?_
        refine r_aload_n dX7_readServant_55 rfl ?_
        refine r_iconst (v := 0) dX7_readServant_56 (by decide) ?_
        refine r_sipush (v := 999) dX7_readServant_57 (by decide) ?_
        refine r_V2s cv_X7_85 dX7_readServant_60 (c_readNumber (show RC (st K (it + 5) S (K 1 6)) it from hcK.arr (by omega)).1 0 999) ⟨by decide, by decide⟩ kd_1 ln_1 cl_7 (Nat.le_of_ble_eq_true rfl) ⟨Nat.le_refl _, Nat.le_refl _⟩ ?_
        refine r_bz_ne (tgt := 68) dX7_readServant_63 (by decide) (fun h63 => ?_) (fun h63 => ?_)
        · have hcM : RC ((rnF (st K (it + 5) S (K 1 6)) 0 999).2) it := RC.rn (show RC (st K (it + 5) S (K 1 6)) it from hcK.arr (by omega))
          obtain ⟨M, hM⟩ : ∃ z : IM, (rnF (st K (it + 5) S (K 1 6)) 0 999).2 = z := ⟨_, rfl⟩
          rw [hM] at hcM
          refine r_im hM ?_
          refine r_aload_n dX7_readServant_68 rfl ?_
          refine r_getr fl_X7_28 dX7_readServant_69 kd_1 ln_1 rfl rfl ?_
          refine r_getr fl_X7_124 dX7_readServant_72 (kC0 hI) (lC0 hI) rfl (rrC8 hI) ?_
          refine r_iload_n dX7_readServant_75 rfl ?_
          refine r_aload_n dX7_readServant_76 rfl ?_
          refine r_geti fl_X7_36 dX7_readServant_77 kd_1 ln_1 rfl ?_
          refine r_as (j := S) dX7_readServant_80 (kC6 hI) (lC6 hI) hS (by omega) (by decide) ?_
          refine r_aload_n dX7_readServant_81 rfl ?_
          refine r_getr fl_X7_28 dX7_readServant_82 kd_1 ln_1 rfl rfl ?_
          refine r_iload_n dX7_readServant_85 rfl ?_
          refine r_iconst (v := 1) dX7_readServant_86 (by decide) ?_
          refine r_iadd dX7_readServant_87 ?_
          refine r_pi fl_X7_118 dX7_readServant_88 (kC0 hI) (lC0 hI) rfl ?_
          refine r_aload_n dX7_readServant_91 rfl ?_
          refine r_bipush (v := 59) dX7_readServant_92 (by decide) ?_
          refine r_V1s cv_X7_67 dX7_readServant_94 (c_take (show RC (st (st M (it + 6) S (M 1 6)) it 6 (im it 6 + 1)) it from (hcM.arr (by omega)).cnt (Or.inr (Or.inr ⟨rfl, rfl⟩)) (n := S + 1) (by rw [hS]; exact nI_1 S) (by omega)).1 59 (by decide)) ⟨by decide, by decide⟩ kd_1 ln_1 cl_7 (Nat.le_of_ble_eq_true rfl) ⟨Nat.le_refl _, Nat.le_refl _⟩ ?_
          exact r_zret dX7_readServant_97 rfl (bI_nar _) (by simp only [rsF, rsI, bI, eq_self, Bool.false_eq_true, Bool.true_eq_false, if_true, if_false, reduceIte, h10, h29, hJ, h37, hK, h63, hM, htS]) (Nat.le_refl _) (Nat.le_refl _)
        · refine r_iconst (v := 0) dX7_readServant_66 (by decide) ?_
          exact r_zret dX7_readServant_67 rfl nar0 (by simp only [rsF, rsI, bI, eq_self, Bool.false_eq_true, Bool.true_eq_false, if_true, if_false, reduceIte, h10, h29, hJ, h37, hK, h63, htS]) (Nat.le_refl _) (Nat.le_refl _)
      · refine r_iconst (v := 0) dX7_readServant_40 (by decide) ?_
        exact r_zret dX7_readServant_41 rfl nar0 (by simp only [rsF, rsI, bI, eq_self, Bool.false_eq_true, Bool.true_eq_false, if_true, if_false, reduceIte, h10, h29, hJ, h37, htS]) (Nat.le_refl _) (Nat.le_refl _)
  · refine r_aload_n dX7_readServant_13 rfl ?_
    refine r_iconst (v := 3) dX7_readServant_14 (by decide) ?_
    refine r_aload_n dX7_readServant_15 rfl ?_
    refine r_geti fl_X7_22 dX7_readServant_16 kd_1 ln_1 rfl ?_
    refine r_V2s cv_X7_81 dX7_readServant_19 (c_refuse 3 (im 1 3)) ⟨by decide, by decide⟩ kd_1 ln_1 cl_7 (Nat.le_of_ble_eq_true rfl) ⟨Nat.le_refl _, Nat.le_refl _⟩ ?_
    exact r_zret dX7_readServant_22 rfl nar0 (by simp only [rsF, rsI, bI, eq_self, Bool.false_eq_true, Bool.true_eq_false, if_true, if_false, reduceIte, h10]) (Nat.le_refl _) (Nat.le_refl _)

set_option maxRecDepth 100000 in
set_option maxHeartbeats 4000000 in
theorem c_readTest {im : IM} {pl it : Nat} (hc : RC im it) : MT YX7_readTest 3 0 0 [.ref 1] 137 im (RR pl it) (some (.int (bI (rtF im it).1)), 137, (rtF im it).2, RR pl it) := by
  have hr := hc.1
  obtain ⟨hI, W, T, S, hW, hW8, hT, hT6, hS, hS5⟩ := id hc.2
  have hi2 : it ≠ 1 := isC_ne2 hI
  have htT : tn (im it 2) = T := by rw [hT, tn_nI (by omega)]
  refine mt_of (by decide +kernel) (Nat.le_of_ble_eq_true rfl) ?_
  show WW _ _ _ _ _ _ _ 0 [(0, .ref 1)] [] _ _ _
  refine r_aload_n dX7_readTest_0 rfl ?_
  refine r_getr fl_X7_28 dX7_readTest_1 kd_1 ln_1 rfl rfl ?_
  refine r_geti fl_X7_100 dX7_readTest_4 (kC0 hI) (lC0 hI) rfl ?_
  refine r_istore_n dX7_readTest_7 (by decide) ?_
  refine r_iload_n dX7_readTest_8 rfl ?_
  refine r_bipush (v := 6) dX7_readTest_9 (by decide) ?_
  refine r_icmp_lt (tgt := 24) dX7_readTest_11 (by decide) (fun h11 => ?_) (fun h11 => ?_)
  · have hTl : T < 6 := lt_of_nI hT (cI 6) h11 (by omega) (by omega)
    refine r_aload_n dX7_readTest_24 rfl ?_
    refine r_bipush (v := 116) dX7_readTest_25 (by decide) ?_
    refine r_V1s cv_X7_67 dX7_readTest_27 (c_take hc.1 116 (by decide)) ⟨by decide, by decide⟩ kd_1 ln_1 cl_7 (Nat.le_of_ble_eq_true rfl) ⟨Nat.le_refl _, Nat.le_refl _⟩ ?_
    refine r_bz_eq (tgt := 41) dX7_readTest_30 (by decide) (fun h30 => ?_) (fun h30 => ?_)
    · refine r_iconst (v := 0) dX7_readTest_41 (by decide) ?_
      exact r_zret dX7_readTest_42 rfl nar0 (by simp only [rtF, rtG, rtH, rtI, bI, eq_self, Bool.false_eq_true, Bool.true_eq_false, if_true, if_false, reduceIte, h11, h30, htT]) (Nat.le_refl _) (Nat.le_refl _)
    · have hcJ : RC ((tkF im 116).2) it := RC.tk hc (by decide)
      obtain ⟨J, hJ⟩ : ∃ z : IM, (tkF im 116).2 = z := ⟨_, rfl⟩
      rw [hJ] at hcJ
      refine r_im hJ ?_
      refine r_aload_n dX7_readTest_33 rfl ?_
      refine r_iconst (v := 0) dX7_readTest_34 (by decide) ?_
      refine r_V1s cv_X7_103 dX7_readTest_35 (c_readWaySet hcJ 0) ⟨by decide, by decide⟩ kd_1 ln_1 cl_7 (Nat.le_of_ble_eq_true rfl) ⟨Nat.le_refl _, Nat.le_refl _⟩ ?_
      refine r_bz_ne (tgt := 43) dX7_readTest_38 (by decide) (fun h38 => ?_) (fun h38 => ?_)
      · have hcK : RC ((wsF J it 0).2) it := RC.ws hcJ
        obtain ⟨K, hK⟩ : ∃ z : IM, (wsF J it 0).2 = z := ⟨_, rfl⟩
        rw [hK] at hcK
        refine r_im hK ?_
        refine r_aload_n dX7_readTest_43 rfl ?_
        refine r_geti fl_X7_36 dX7_readTest_44 kd_1 ln_1 rfl ?_
        refine r_iconst (v := 0) dX7_readTest_47 (by decide) ?_
        refine r_N2s cv_X7_106 dX7_readTest_48 (c_has (K 1 6) 0) ⟨by decide, by decide⟩ (Nat.le_of_ble_eq_true rfl) ⟨Nat.le_refl _, Nat.le_refl _⟩ ?_
        refine r_bz_eq (tgt := 64) dX7_readTest_51 (by decide) (fun h51 => ?_) (fun h51 => ?_)
        · refine r_aload_n dX7_readTest_64 rfl ?_
          refine r_getr fl_X7_28 dX7_readTest_65 kd_1 ln_1 rfl rfl ?_
          refine r_getr fl_X7_109 dX7_readTest_68 (kC0 hI) (lC0 hI) rfl (rrC3 hI) ?_
          refine r_iload_n dX7_readTest_71 rfl ?_
          refine r_aload_n dX7_readTest_72 rfl ?_
          refine r_geti fl_X7_36 dX7_readTest_73 kd_1 ln_1 rfl ?_
          refine r_as (j := T) dX7_readTest_76 (kC2 hI) (lC2 hI) hT (by omega) (by decide) ?_
          refine r_aload_n dX7_readTest_77 rfl ?_
          refine r_iconst (v := 0) dX7_readTest_78 (by decide) ?_
          refine r_bipush (v := 63) dX7_readTest_79 (by decide) ?_
          refine r_V2s cv_X7_85 dX7_readTest_81 (c_readNumber (show RC (st K (it + 2) T (K 1 6)) it from hcK.arr (by omega)).1 0 63) ⟨by decide, by decide⟩ kd_1 ln_1 cl_7 (Nat.le_of_ble_eq_true rfl) ⟨Nat.le_refl _, Nat.le_refl _⟩ ?_
          refine r_bz_ne (tgt := 89) dX7_readTest_84 (by decide) (fun h84 => ?_) (fun h84 => ?_)
          · have hcM : RC ((rnF (st K (it + 2) T (K 1 6)) 0 63).2) it := RC.rn (show RC (st K (it + 2) T (K 1 6)) it from hcK.arr (by omega))
            obtain ⟨M, hM⟩ : ∃ z : IM, (rnF (st K (it + 2) T (K 1 6)) 0 63).2 = z := ⟨_, rfl⟩
            rw [hM] at hcM
            refine r_im hM ?_
            refine r_aload_n dX7_readTest_89 rfl ?_
            refine r_getr fl_X7_28 dX7_readTest_90 kd_1 ln_1 rfl rfl ?_
            refine r_getr fl_X7_112 dX7_readTest_93 (kC0 hI) (lC0 hI) rfl (rrC4 hI) ?_
            refine r_iload_n dX7_readTest_96 rfl ?_
            refine r_aload_n dX7_readTest_97 rfl ?_
            refine r_geti fl_X7_36 dX7_readTest_98 kd_1 ln_1 rfl ?_
            refine r_as (j := T) dX7_readTest_101 (kC3 hI) (lC3 hI) hT (by omega) (by decide) ?_
            refine r_aload_n dX7_readTest_102 rfl ?_
            refine r_iconst (v := 0) dX7_readTest_103 (by decide) ?_
            refine r_sipush (v := 999) dX7_readTest_104 (by decide) ?_
            refine r_V2s cv_X7_85 dX7_readTest_107 (c_readNumber (show RC (st M (it + 3) T (M 1 6)) it from hcM.arr (by omega)).1 0 999) ⟨by decide, by decide⟩ kd_1 ln_1 cl_7 (Nat.le_of_ble_eq_true rfl) ⟨Nat.le_refl _, Nat.le_refl _⟩ ?_
            refine r_bz_ne (tgt := 115) dX7_readTest_110 (by decide) (fun h110 => ?_) (fun h110 => ?_)
            · have hcQ : RC ((rnF (st M (it + 3) T (M 1 6)) 0 999).2) it := RC.rn (show RC (st M (it + 3) T (M 1 6)) it from hcM.arr (by omega))
              obtain ⟨Q, hQ⟩ : ∃ z : IM, (rnF (st M (it + 3) T (M 1 6)) 0 999).2 = z := ⟨_, rfl⟩
              rw [hQ] at hcQ
              refine r_im hQ ?_
              refine r_aload_n dX7_readTest_115 rfl ?_
              refine r_getr fl_X7_28 dX7_readTest_116 kd_1 ln_1 rfl rfl ?_
              refine r_getr fl_X7_115 dX7_readTest_119 (kC0 hI) (lC0 hI) rfl (rrC5 hI) ?_
              refine r_iload_n dX7_readTest_122 rfl ?_
              refine r_aload_n dX7_readTest_123 rfl ?_
              refine r_geti fl_X7_36 dX7_readTest_124 kd_1 ln_1 rfl ?_
              refine r_as (j := T) dX7_readTest_127 (kC4 hI) (lC4 hI) hT (by omega) (by decide) ?_
              refine r_aload_n dX7_readTest_128 rfl ?_
              refine r_getr fl_X7_28 dX7_readTest_129 kd_1 ln_1 rfl rfl ?_
              refine r_iload_n dX7_readTest_132 rfl ?_
              refine r_iconst (v := 1) dX7_readTest_133 (by decide) ?_
              refine r_iadd dX7_readTest_134 ?_
              refine r_pi fl_X7_100 dX7_readTest_135 (kC0 hI) (lC0 hI) rfl ?_
              refine r_aload_n dX7_readTest_138 rfl ?_
              refine r_bipush (v := 59) dX7_readTest_139 (by decide) ?_
              refine r_V1s cv_X7_67 dX7_readTest_141 (c_take (show RC (st (st Q (it + 4) T (Q 1 6)) it 2 (im it 2 + 1)) it from (hcQ.arr (by omega)).cnt (Or.inr (Or.inl ⟨rfl, rfl⟩)) (n := T + 1) (by rw [hT]; exact nI_1 T) (by omega)).1 59 (by decide)) ⟨by decide, by decide⟩ kd_1 ln_1 cl_7 (Nat.le_of_ble_eq_true rfl) ⟨Nat.le_refl _, Nat.le_refl _⟩ ?_
              exact r_zret dX7_readTest_144 rfl (bI_nar _) (by simp only [rtF, rtG, rtH, rtI, bI, eq_self, Bool.false_eq_true, Bool.true_eq_false, if_true, if_false, reduceIte, h11, h30, hJ, h38, hK, h51, h84, hM, h110, hQ, htT]) (Nat.le_refl _) (Nat.le_refl _)
            · refine r_iconst (v := 0) dX7_readTest_113 (by decide) ?_
              exact r_zret dX7_readTest_114 rfl nar0 (by simp only [rtF, rtG, rtH, rtI, bI, eq_self, Bool.false_eq_true, Bool.true_eq_false, if_true, if_false, reduceIte, h11, h30, hJ, h38, hK, h51, h84, hM, h110, htT]) (Nat.le_refl _) (Nat.le_refl _)
          · refine r_iconst (v := 0) dX7_readTest_87 (by decide) ?_
            exact r_zret dX7_readTest_88 rfl nar0 (by simp only [rtF, rtG, rtH, rtI, bI, eq_self, Bool.false_eq_true, Bool.true_eq_false, if_true, if_false, reduceIte, h11, h30, hJ, h38, hK, h51, h84, htT]) (Nat.le_refl _) (Nat.le_refl _)
        · refine r_aload_n dX7_readTest_54 rfl ?_
          refine r_iconst (v := 2) dX7_readTest_55 (by decide) ?_
          refine r_aload_n dX7_readTest_56 rfl ?_
          refine r_geti fl_X7_39 dX7_readTest_57 kd_1 ln_1 rfl ?_
          refine r_V2s cv_X7_81 dX7_readTest_60 (c_refuse 2 (K 1 7)) ⟨by decide, by decide⟩ kd_1 ln_1 cl_7 (Nat.le_of_ble_eq_true rfl) ⟨Nat.le_refl _, Nat.le_refl _⟩ ?_
          exact r_zret dX7_readTest_63 rfl nar0 (by simp only [rtF, rtG, rtH, rtI, bI, eq_self, Bool.false_eq_true, Bool.true_eq_false, if_true, if_false, reduceIte, h11, h30, hJ, h38, hK, h51, htT]) (Nat.le_refl _) (Nat.le_refl _)
      · refine r_iconst (v := 0) dX7_readTest_41 (by decide) ?_
        exact r_zret dX7_readTest_42 rfl nar0 (by simp only [rtF, rtG, rtH, rtI, bI, eq_self, Bool.false_eq_true, Bool.true_eq_false, if_true, if_false, reduceIte, h11, h30, hJ, h38, htT]) (Nat.le_refl _) (Nat.le_refl _)
  · refine r_aload_n dX7_readTest_14 rfl ?_
    refine r_iconst (v := 3) dX7_readTest_15 (by decide) ?_
    refine r_aload_n dX7_readTest_16 rfl ?_
    refine r_geti fl_X7_22 dX7_readTest_17 kd_1 ln_1 rfl ?_
    refine r_V2s cv_X7_81 dX7_readTest_20 (c_refuse 3 (im 1 3)) ⟨by decide, by decide⟩ kd_1 ln_1 cl_7 (Nat.le_of_ble_eq_true rfl) ⟨Nat.le_refl _, Nat.le_refl _⟩ ?_
    exact r_zret dX7_readTest_23 rfl nar0 (by simp only [rtF, rtG, rtH, rtI, bI, eq_self, Bool.false_eq_true, Bool.true_eq_false, if_true, if_false, reduceIte, h11]) (Nat.le_refl _) (Nat.le_refl _)

