set_option maxRecDepth 100000 in
set_option maxHeartbeats 4000000 in
theorem m_waysOf {im : IM} {pl it L a : Nat} (hr : MR im L a) (x y : Int32) : MT YX9_waysOf 3 0 0 [.ref 120, .int x, .int y] 137 im (RR pl it) (some (.int (zwy im x y).1), 137, (zwy im x y).2, RR pl it) := by
  refine mt_of (by decide +kernel) (Nat.le_of_ble_eq_true rfl) ?_
  show WW _ _ _ _ _ _ _ 0 [(0, .ref 120), (1, .int x), (2, .int y)] [] _ _ _
  refine r_aload_n dX9_waysOf_0 rfl ?_
  refine r_V0n cv_X9_82 dX9_waysOf_1 (m_skips (im := im) hr) ⟨by decide, by decide⟩ kd_120 ln_120 cl_9 (Nat.le_of_ble_eq_true rfl) ⟨Nat.le_refl _, Nat.le_refl _⟩ ?_
  refine r_aload_n dX9_waysOf_4 rfl ?_
  refine r_geti fl_X9_72 dX9_waysOf_5 kd_120 ln_120 rfl ?_
  refine r_istore_n dX9_waysOf_8 (by decide) ?_
  refine r_aload_n dX9_waysOf_9 rfl ?_
  refine r_iload_n dX9_waysOf_10 rfl ?_
  refine r_sipush (v := 255) dX9_waysOf_11 (by decide) ?_
  obtain ⟨q1, hq1⟩ : ∃ z : Int32 × IM, znm (zsk im) y 255 = z := ⟨_, rfl⟩
  have cq1 := m_number (im := (zsk im)) (pl := pl) (it := it) (hr.skz) y 255
  have mq1 := (hr.skz).nm (lo := (y : Int32)) (hi := 255)
  have rq1 : ∀ r, r ≠ 120 → (znm (zsk im) y 255).2 r = (zsk im) r := fun r h => znm_row h
  rw [hq1] at cq1 mq1 rq1
  refine r_V2s cv_X9_93 dX9_waysOf_14 cq1 ⟨by decide, by decide⟩ kd_120 ln_120 cl_9 (Nat.le_of_ble_eq_true rfl) ⟨Nat.le_refl _, Nat.le_refl _⟩ ?_
  refine r_istore dX9_waysOf_17 (by decide) ?_
  refine r_aload_n dX9_waysOf_19 rfl ?_
  refine r_geti fl_X9_75 dX9_waysOf_20 kd_120 ln_120 rfl ?_
  refine r_if_ne (tgt := 45) dX9_waysOf_23 (by decide) (fun h23 => ?_) (fun h23 => ?_)
  · refine r_iload dX9_waysOf_45 rfl ?_
    exact r_iret dX9_waysOf_47 rfl (by rw [zwy, hq1]; simp only [zwq, ne_eq, not_true, not_false_iff, and_true, and_false, true_and, false_and, eq_self, Bool.false_eq_true, Bool.true_eq_false, if_true, if_false, reduceIte, h23]; try rfl) (Nat.le_refl _) (Nat.le_refl _)
  · refine r_iload dX9_waysOf_26 rfl ?_
    refine r_iload_n dX9_waysOf_28 rfl ?_
    refine r_iconst (v := (-1)) dX9_waysOf_29 (by decide) ?_
    refine r_ixor dX9_waysOf_30 ?_
    refine r_iand dX9_waysOf_31 ?_
    refine r_if_eq (tgt := 45) dX9_waysOf_32 (by decide) (fun h32 => ?_) (fun h32 => ?_)
    · refine r_iload dX9_waysOf_45 rfl ?_
      exact r_iret dX9_waysOf_47 rfl (by rw [zwy, hq1]; simp only [zwq, ne_eq, not_true, not_false_iff, and_true, and_false, true_and, false_and, eq_self, Bool.false_eq_true, Bool.true_eq_false, if_true, if_false, reduceIte, eq_true h23, eq_true h32]; try rfl) (Nat.le_refl _) (Nat.le_refl _)
    · refine r_aload_n dX9_waysOf_35 rfl ?_
      refine r_iload_n dX9_waysOf_36 rfl ?_
      refine r_pi fl_X9_72 dX9_waysOf_37 kd_120 ln_120 rfl ?_
      refine r_aload_n dX9_waysOf_40 rfl ?_
      refine r_iconst (v := 2) dX9_waysOf_41 (by decide) ?_
      refine r_V1n cv_X9_85 dX9_waysOf_42 (m_fails (im := st q1.2 120 22 ((zsk im) 120 22)) 2) ⟨by decide, by decide⟩ kd_120 ln_120 cl_9 (Nat.le_of_ble_eq_true rfl) ⟨Nat.le_refl _, Nat.le_refl _⟩ ?_
      refine r_iload dX9_waysOf_45 rfl ?_
      exact r_iret dX9_waysOf_47 rfl (by rw [zwy, hq1]; simp only [zwq, ne_eq, not_true, not_false_iff, and_true, and_false, true_and, false_and, eq_self, Bool.false_eq_true, Bool.true_eq_false, if_true, if_false, reduceIte, eq_true h23, h32]; try rfl) (Nat.le_refl _) (Nat.le_refl _)

set_option maxRecDepth 100000 in
set_option maxHeartbeats 4000000 in
theorem m_readsPay {im : IM} {pl it L a : Nat} (hq : MZ im L a) (hl : ¬ zlk im = -1) : MT YX9_readsPay 3 0 0 [.ref 120] 137 im (RR pl it) (none, 137, zpy im, RR pl it) := by
  refine mt_of (by decide +kernel) (Nat.le_of_ble_eq_true rfl) ?_
  show WW _ _ _ _ _ _ _ 0 [(0, .ref 120)] [] _ _ _
  refine r_aload_n dX9_readsPay_0 rfl ?_
  refine r_aload_n dX9_readsPay_1 rfl ?_
  refine r_getr fl_X9_29 dX9_readsPay_2 kd_120 ln_120 rfl rfl ?_
  refine r_iconst (v := 3) dX9_readsPay_5 (by decide) ?_
  refine r_iald (j := 3) dX9_readsPay_6 kd_126 ln_126 (cI 3) (by omega) (by decide) ?_
  refine r_if_le (tgt := 14) dX9_readsPay_7 (by decide) (fun h7 => ?_) (fun h7 => ?_)
  · refine r_iconst (v := 0) dX9_readsPay_14 (by decide) ?_
    refine r_V1s cv_X9_89 dX9_readsPay_15 (m_opens (im := im) false) ⟨by decide, by decide⟩ kd_120 ln_120 cl_9 (Nat.le_of_ble_eq_true rfl) ⟨Nat.le_refl _, Nat.le_refl _⟩ ?_
    refine r_if_eq_f (tgt := 53) dX9_readsPay_18 (by decide) (by decide) ?_
    refine r_aload_n dX9_readsPay_21 rfl ?_
    refine r_getr fl_X9_29 dX9_readsPay_22 kd_120 ln_120 rfl rfl ?_
    refine r_iconst (v := 3) dX9_readsPay_25 (by decide) ?_
    refine r_aload_n dX9_readsPay_26 rfl ?_
    refine r_iconst (v := 1) dX9_readsPay_27 (by decide) ?_
    refine r_bipush (v := 99) dX9_readsPay_28 (by decide) ?_
    obtain ⟨q1, hq1⟩ : ∃ z : Int32 × IM, znm (zop im false) 1 99 = z := ⟨_, rfl⟩
    have cq1 := m_number (im := (zop im false)) (pl := pl) (it := it) (hq.1.opf hl) 1 99
    have mq1 := (hq.1.opf hl).nm (lo := (1 : Int32)) (hi := 99)
    have rq1 : ∀ r, r ≠ 120 → (znm (zop im false) 1 99).2 r = (zop im false) r := fun r h => znm_row h
    rw [hq1] at cq1 mq1 rq1
    refine r_V2s cv_X9_93 dX9_readsPay_30 cq1 ⟨by decide, by decide⟩ kd_120 ln_120 cl_9 (Nat.le_of_ble_eq_true rfl) ⟨Nat.le_refl _, Nat.le_refl _⟩ ?_
    refine r_as (j := 3) dX9_readsPay_33 kd_126 ln_126 (cI 3) (by omega) (by decide) ?_
    refine r_aload_n dX9_readsPay_34 rfl ?_
    refine r_getr fl_X9_29 dX9_readsPay_35 kd_120 ln_120 rfl rfl ?_
    refine r_iconst (v := 4) dX9_readsPay_38 (by decide) ?_
    refine r_aload_n dX9_readsPay_39 rfl ?_
    refine r_iconst (v := 1) dX9_readsPay_40 (by decide) ?_
    refine r_bipush (v := 30) dX9_readsPay_41 (by decide) ?_
    obtain ⟨q2, hq2⟩ : ∃ z : Int32 × IM, znm (st q1.2 126 3 q1.1) 1 30 = z := ⟨_, rfl⟩
    have cq2 := m_number (im := (st q1.2 126 3 q1.1)) (pl := pl) (it := it) ((mq1).arr (k := 126) (j := 3) (x := q1.1) (by decide)) 1 30
    have mq2 := ((mq1).arr (k := 126) (j := 3) (x := q1.1) (by decide)).nm (lo := (1 : Int32)) (hi := 30)
    have rq2 : ∀ r, r ≠ 120 → (znm (st q1.2 126 3 q1.1) 1 30).2 r = (st q1.2 126 3 q1.1) r := fun r h => znm_row h
    rw [hq2] at cq2 mq2 rq2
    refine r_V2s cv_X9_93 dX9_readsPay_43 cq2 ⟨by decide, by decide⟩ kd_120 ln_120 cl_9 (Nat.le_of_ble_eq_true rfl) ⟨Nat.le_refl _, Nat.le_refl _⟩ ?_
    refine r_as (j := 4) dX9_readsPay_46 kd_126 ln_126 (cI 4) (by omega) (by decide) ?_
    refine r_aload_n dX9_readsPay_47 rfl ?_
    refine r_bipush (v := 59) dX9_readsPay_48 (by decide) ?_
    refine r_V1n cv_X9_97 dX9_readsPay_50 (m_word (im := st q2.2 126 4 q2.1) ((mq2).arr (k := 126) (j := 4) (x := q2.1) (by decide)) 59) ⟨by decide, by decide⟩ kd_120 ln_120 cl_9 (Nat.le_of_ble_eq_true rfl) ⟨Nat.le_refl _, Nat.le_refl _⟩ ?_
    exact r_vret dX9_readsPay_53 rfl (by simp only [zpy, zpy2, zpy3, eq_self, Bool.false_eq_true, Bool.true_eq_false, if_true, if_false, reduceIte, h7, hq1, hq2]) (Nat.le_refl _) (Nat.le_refl _)
  · refine r_iconst (v := 1) dX9_readsPay_10 (by decide) ?_
    refine r_goto (tgt := 15) dX9_readsPay_11 (by decide) ?_
    refine r_V1s cv_X9_89 dX9_readsPay_15 (m_opens (im := im) true) ⟨by decide, by decide⟩ kd_120 ln_120 cl_9 (Nat.le_of_ble_eq_true rfl) ⟨Nat.le_refl _, Nat.le_refl _⟩ ?_
    refine r_if_eq_t (tgt := 53) dX9_readsPay_18 (by decide) (by decide) ?_
    exact r_vret dX9_readsPay_53 rfl (by simp only [zpy, zpy2, zpy3, eq_self, Bool.false_eq_true, Bool.true_eq_false, if_true, if_false, reduceIte, h7]) (Nat.le_refl _) (Nat.le_refl _)

set_option maxRecDepth 100000 in
set_option maxHeartbeats 4000000 in
theorem m_readsServant {im : IM} {pl it L a : Nat} (hq : MZ im L a) (hl : ¬ zlk im = -1) : MT YX9_readsServant 4 0 0 [.ref 120] 137 im (RR pl it) (none, 137, zsv im, RR pl it) := by
  obtain ⟨W, T, S, hW, hW8, hT, hT6, hS, hS5⟩ := id hq.2
  have htS : tn (im 126 2) = S := by rw [hS, tn_nI (by omega)]
  refine mt_of (by decide +kernel) (Nat.le_of_ble_eq_true rfl) ?_
  show WW _ _ _ _ _ _ _ 0 [(0, .ref 120)] [] _ _ _
  refine r_aload_n dX9_readsServant_0 rfl ?_
  refine r_aload_n dX9_readsServant_1 rfl ?_
  refine r_getr fl_X9_29 dX9_readsServant_2 kd_120 ln_120 rfl rfl ?_
  refine r_iconst (v := 2) dX9_readsServant_5 (by decide) ?_
  refine r_iald (j := 2) dX9_readsServant_6 kd_126 ln_126 (cI 2) (by omega) (by decide) ?_
  refine r_iconst (v := 5) dX9_readsServant_7 (by decide) ?_
  refine r_icmp_ne (tgt := 15) dX9_readsServant_8 (by decide) (fun h8 => ?_) (fun h8 => ?_)
  · refine r_iconst (v := 0) dX9_readsServant_15 (by decide) ?_
    refine r_V1s cv_X9_89 dX9_readsServant_16 (m_opens (im := im) false) ⟨by decide, by decide⟩ kd_120 ln_120 cl_9 (Nat.le_of_ble_eq_true rfl) ⟨Nat.le_refl _, Nat.le_refl _⟩ ?_
    refine r_if_eq_f (tgt := 83) dX9_readsServant_19 (by decide) (by decide) ?_
    have hSl : S < 5 := Nat.lt_of_le_of_ne hS5 (fun q => h8 (by rw [hS, q]; rfl))
    refine r_iconst (v := 2) dX9_readsServant_22 (by decide) ?_
    refine r_aload_n dX9_readsServant_23 rfl ?_
    refine r_getr fl_X9_29 dX9_readsServant_24 kd_120 ln_120 rfl rfl ?_
    refine r_iconst (v := 2) dX9_readsServant_27 (by decide) ?_
    refine r_ialx (j := 2) (x := im 126 2) dX9_readsServant_28 kd_126 ln_126 (cI 2) (by omega) (by decide) (by rw [zop_row (by decide)]) ?_
    refine r_imul dX9_readsServant_29 ?_
    refine r_istore_n dX9_readsServant_30 (by decide) ?_
    refine r_aload_n dX9_readsServant_31 rfl ?_
    refine r_getr fl_X9_38 dX9_readsServant_32 kd_120 ln_120 rfl rfl ?_
    refine r_iload_n dX9_readsServant_35 rfl ?_
    refine r_aload_n dX9_readsServant_36 rfl ?_
    refine r_aload_n dX9_readsServant_37 rfl ?_
    refine r_getr fl_X9_29 dX9_readsServant_38 kd_120 ln_120 rfl rfl ?_
    refine r_iconst (v := 0) dX9_readsServant_41 (by decide) ?_
    refine r_ialx (j := 0) (x := im 126 0) dX9_readsServant_42 kd_126 ln_126 (cI 0) (by omega) (by decide) (by rw [zop_row (by decide)]) ?_
    refine r_S1s cv_X9_100 dX9_readsServant_43 (m_allOf (im 126 0)) ⟨by decide, by decide⟩ (Nat.le_of_ble_eq_true rfl) ⟨Nat.le_refl _, Nat.le_refl _⟩ ?_
    refine r_iconst (v := 1) dX9_readsServant_46 (by decide) ?_
    obtain ⟨q1, hq1⟩ : ∃ z : Int32 × IM, zwy (zop im false) (alS (im 126 0)) 1 = z := ⟨_, rfl⟩
    have cq1 := m_waysOf (im := (zop im false)) (pl := pl) (it := it) (hq.1.opf hl) (alS (im 126 0)) 1
    have mq1 := (hq.1.opf hl).wy (lo := (1 : Int32)) (x := alS (im 126 0))
    have rq1 : ∀ r, r ≠ 120 → (zwy (zop im false) (alS (im 126 0)) 1).2 r = (zop im false) r := fun r h => zwy_row h
    rw [hq1] at cq1 mq1 rq1
    refine r_V2s cv_X9_104 dX9_readsServant_47 cq1 ⟨by decide, by decide⟩ kd_120 ln_120 cl_9 (Nat.le_of_ble_eq_true rfl) ⟨Nat.le_refl _, Nat.le_refl _⟩ ?_
    refine r_as (j := 2 * S) dX9_readsServant_50 kd_129 ln_129 (ix_mul (cI 2) hS) (by omega) (by decide) ?_
    refine r_aload_n dX9_readsServant_51 rfl ?_
    refine r_getr fl_X9_38 dX9_readsServant_52 kd_120 ln_120 rfl rfl ?_
    refine r_iload_n dX9_readsServant_55 rfl ?_
    refine r_iconst (v := 1) dX9_readsServant_56 (by decide) ?_
    refine r_iadd dX9_readsServant_57 ?_
    refine r_aload_n dX9_readsServant_58 rfl ?_
    refine r_iconst (v := 0) dX9_readsServant_59 (by decide) ?_
    refine r_sipush (v := 999) dX9_readsServant_60 (by decide) ?_
    obtain ⟨q2, hq2⟩ : ∃ z : Int32 × IM, znm (st q1.2 129 (2 * S) q1.1) 0 999 = z := ⟨_, rfl⟩
    have cq2 := m_number (im := (st q1.2 129 (2 * S) q1.1)) (pl := pl) (it := it) ((mq1).arr (k := 129) (j := (2 * S)) (x := q1.1) (by decide)) 0 999
    have mq2 := ((mq1).arr (k := 129) (j := (2 * S)) (x := q1.1) (by decide)).nm (lo := (0 : Int32)) (hi := 999)
    have rq2 : ∀ r, r ≠ 120 → (znm (st q1.2 129 (2 * S) q1.1) 0 999).2 r = (st q1.2 129 (2 * S) q1.1) r := fun r h => znm_row h
    rw [hq2] at cq2 mq2 rq2
    refine r_V2s cv_X9_93 dX9_readsServant_63 cq2 ⟨by decide, by decide⟩ kd_120 ln_120 cl_9 (Nat.le_of_ble_eq_true rfl) ⟨Nat.le_refl _, Nat.le_refl _⟩ ?_
    refine r_as (j := (2 * S) + 1) dX9_readsServant_66 kd_129 ln_129 (ix_add (ix_mul (cI 2) hS) (cI 1)) (by omega) (by decide) ?_
    refine r_aload_n dX9_readsServant_67 rfl ?_
    refine r_bipush (v := 59) dX9_readsServant_68 (by decide) ?_
    refine r_V1n cv_X9_97 dX9_readsServant_70 (m_word (im := st q2.2 129 ((2 * S) + 1) q2.1) ((mq2).arr (k := 129) (j := ((2 * S) + 1)) (x := q2.1) (by decide)) 59) ⟨by decide, by decide⟩ kd_120 ln_120 cl_9 (Nat.le_of_ble_eq_true rfl) ⟨Nat.le_refl _, Nat.le_refl _⟩ ?_
    refine r_aload_n dX9_readsServant_73 rfl ?_
    refine r_getr fl_X9_29 dX9_readsServant_74 kd_120 ln_120 rfl rfl ?_
    refine r_iconst (v := 2) dX9_readsServant_77 (by decide) ?_
    refine r_dup2 dX9_readsServant_78 rfl rfl ?_
    refine r_iald (j := 2) dX9_readsServant_79 kd_126 ln_126 (cI 2) (by omega) (by decide) ?_
    refine r_iconst (v := 1) dX9_readsServant_80 (by decide) ?_
    refine r_iadd dX9_readsServant_81 ?_
    refine r_as (j := 2) dX9_readsServant_82 kd_126 ln_126 (cI 2) (by omega) (by decide) ?_
    exact r_vret dX9_readsServant_83 rfl (by simp only [zsv, zsv2, zsv3, zsv4, eq_self, Bool.false_eq_true, Bool.true_eq_false, if_true, if_false, reduceIte, h8, htS, hq1, hq2]) (Nat.le_refl _) (Nat.le_refl _)
  · refine r_iconst (v := 1) dX9_readsServant_11 (by decide) ?_
    refine r_goto (tgt := 16) dX9_readsServant_12 (by decide) ?_
    refine r_V1s cv_X9_89 dX9_readsServant_16 (m_opens (im := im) true) ⟨by decide, by decide⟩ kd_120 ln_120 cl_9 (Nat.le_of_ble_eq_true rfl) ⟨Nat.le_refl _, Nat.le_refl _⟩ ?_
    refine r_if_eq_t (tgt := 83) dX9_readsServant_19 (by decide) (by decide) ?_
    exact r_vret dX9_readsServant_83 rfl (by simp only [zsv, zsv2, zsv3, zsv4, eq_self, Bool.false_eq_true, Bool.true_eq_false, if_true, if_false, reduceIte, eq_true h8]) (Nat.le_refl _) (Nat.le_refl _)

set_option maxRecDepth 100000 in
set_option maxHeartbeats 4000000 in
theorem m_readsTest {im : IM} {pl it L a : Nat} (hq : MZ im L a) (hl : ¬ zlk im = -1) : MT YX9_readsTest 4 0 0 [.ref 120] 137 im (RR pl it) (none, 137, zts im, RR pl it) := by
  obtain ⟨W, T, S, hW, hW8, hT, hT6, hS, hS5⟩ := id hq.2
  have htT : tn (im 126 1) = T := by rw [hT, tn_nI (by omega)]
  refine mt_of (by decide +kernel) (Nat.le_of_ble_eq_true rfl) ?_
  show WW _ _ _ _ _ _ _ 0 [(0, .ref 120)] [] _ _ _
  refine r_aload_n dX9_readsTest_0 rfl ?_
  refine r_aload_n dX9_readsTest_1 rfl ?_
  refine r_getr fl_X9_29 dX9_readsTest_2 kd_120 ln_120 rfl rfl ?_
  refine r_iconst (v := 1) dX9_readsTest_5 (by decide) ?_
  refine r_iald (j := 1) dX9_readsTest_6 kd_126 ln_126 (cI 1) (by omega) (by decide) ?_
  refine r_bipush (v := 6) dX9_readsTest_7 (by decide) ?_
  refine r_icmp_ne (tgt := 16) dX9_readsTest_9 (by decide) (fun h9 => ?_) (fun h9 => ?_)
  · refine r_iconst (v := 0) dX9_readsTest_16 (by decide) ?_
    refine r_V1s cv_X9_89 dX9_readsTest_17 (m_opens (im := im) false) ⟨by decide, by decide⟩ kd_120 ln_120 cl_9 (Nat.le_of_ble_eq_true rfl) ⟨Nat.le_refl _, Nat.le_refl _⟩ ?_
    refine r_if_eq_f (tgt := 102) dX9_readsTest_20 (by decide) (by decide) ?_
    have hTl : T < 6 := Nat.lt_of_le_of_ne hT6 (fun q => h9 (by rw [hT, q]; rfl))
    refine r_iconst (v := 3) dX9_readsTest_23 (by decide) ?_
    refine r_aload_n dX9_readsTest_24 rfl ?_
    refine r_getr fl_X9_29 dX9_readsTest_25 kd_120 ln_120 rfl rfl ?_
    refine r_iconst (v := 1) dX9_readsTest_28 (by decide) ?_
    refine r_ialx (j := 1) (x := im 126 1) dX9_readsTest_29 kd_126 ln_126 (cI 1) (by omega) (by decide) (by rw [zop_row (by decide)]) ?_
    refine r_imul dX9_readsTest_30 ?_
    refine r_istore_n dX9_readsTest_31 (by decide) ?_
    refine r_aload_n dX9_readsTest_32 rfl ?_
    refine r_getr fl_X9_35 dX9_readsTest_33 kd_120 ln_120 rfl rfl ?_
    refine r_iload_n dX9_readsTest_36 rfl ?_
    refine r_aload_n dX9_readsTest_37 rfl ?_
    refine r_aload_n dX9_readsTest_38 rfl ?_
    refine r_getr fl_X9_29 dX9_readsTest_39 kd_120 ln_120 rfl rfl ?_
    refine r_iconst (v := 0) dX9_readsTest_42 (by decide) ?_
    refine r_ialx (j := 0) (x := im 126 0) dX9_readsTest_43 kd_126 ln_126 (cI 0) (by omega) (by decide) (by rw [zop_row (by decide)]) ?_
    refine r_S1s cv_X9_100 dX9_readsTest_44 (m_allOf (im 126 0)) ⟨by decide, by decide⟩ (Nat.le_of_ble_eq_true rfl) ⟨Nat.le_refl _, Nat.le_refl _⟩ ?_
    refine r_bipush (v := (-2)) dX9_readsTest_47 (by decide) ?_
    refine r_iand dX9_readsTest_49 ?_
    refine r_iconst (v := 0) dX9_readsTest_50 (by decide) ?_
    obtain ⟨q1, hq1⟩ : ∃ z : Int32 × IM, zwy (zop im false) ((alS (im 126 0)) &&& (-2)) 0 = z := ⟨_, rfl⟩
    have cq1 := m_waysOf (im := (zop im false)) (pl := pl) (it := it) (hq.1.opf hl) ((alS (im 126 0)) &&& (-2)) 0
    have mq1 := (hq.1.opf hl).wy (lo := (0 : Int32)) (x := (alS (im 126 0)) &&& (-2))
    have rq1 : ∀ r, r ≠ 120 → (zwy (zop im false) ((alS (im 126 0)) &&& (-2)) 0).2 r = (zop im false) r := fun r h => zwy_row h
    rw [hq1] at cq1 mq1 rq1
    refine r_V2s cv_X9_104 dX9_readsTest_51 cq1 ⟨by decide, by decide⟩ kd_120 ln_120 cl_9 (Nat.le_of_ble_eq_true rfl) ⟨Nat.le_refl _, Nat.le_refl _⟩ ?_
    refine r_as (j := 3 * T) dX9_readsTest_54 kd_128 ln_128 (ix_mul (cI 3) hT) (by omega) (by decide) ?_
    refine r_aload_n dX9_readsTest_55 rfl ?_
    refine r_getr fl_X9_35 dX9_readsTest_56 kd_120 ln_120 rfl rfl ?_
    refine r_iload_n dX9_readsTest_59 rfl ?_
    refine r_iconst (v := 1) dX9_readsTest_60 (by decide) ?_
    refine r_iadd dX9_readsTest_61 ?_
    refine r_aload_n dX9_readsTest_62 rfl ?_
    refine r_iconst (v := 0) dX9_readsTest_63 (by decide) ?_
    refine r_bipush (v := 63) dX9_readsTest_64 (by decide) ?_
    obtain ⟨q2, hq2⟩ : ∃ z : Int32 × IM, znm (st q1.2 128 (3 * T) q1.1) 0 63 = z := ⟨_, rfl⟩
    have cq2 := m_number (im := (st q1.2 128 (3 * T) q1.1)) (pl := pl) (it := it) ((mq1).arr (k := 128) (j := (3 * T)) (x := q1.1) (by decide)) 0 63
    have mq2 := ((mq1).arr (k := 128) (j := (3 * T)) (x := q1.1) (by decide)).nm (lo := (0 : Int32)) (hi := 63)
    have rq2 : ∀ r, r ≠ 120 → (znm (st q1.2 128 (3 * T) q1.1) 0 63).2 r = (st q1.2 128 (3 * T) q1.1) r := fun r h => znm_row h
    rw [hq2] at cq2 mq2 rq2
    refine r_V2s cv_X9_93 dX9_readsTest_66 cq2 ⟨by decide, by decide⟩ kd_120 ln_120 cl_9 (Nat.le_of_ble_eq_true rfl) ⟨Nat.le_refl _, Nat.le_refl _⟩ ?_
    refine r_as (j := (3 * T) + 1) dX9_readsTest_69 kd_128 ln_128 (ix_add (ix_mul (cI 3) hT) (cI 1)) (by omega) (by decide) ?_
    refine r_aload_n dX9_readsTest_70 rfl ?_
    refine r_getr fl_X9_35 dX9_readsTest_71 kd_120 ln_120 rfl rfl ?_
    refine r_iload_n dX9_readsTest_74 rfl ?_
    refine r_iconst (v := 2) dX9_readsTest_75 (by decide) ?_
    refine r_iadd dX9_readsTest_76 ?_
    refine r_aload_n dX9_readsTest_77 rfl ?_
    refine r_iconst (v := 0) dX9_readsTest_78 (by decide) ?_
    refine r_sipush (v := 999) dX9_readsTest_79 (by decide) ?_
    obtain ⟨q3, hq3⟩ : ∃ z : Int32 × IM, znm (st q2.2 128 ((3 * T) + 1) q2.1) 0 999 = z := ⟨_, rfl⟩
    have cq3 := m_number (im := (st q2.2 128 ((3 * T) + 1) q2.1)) (pl := pl) (it := it) ((mq2).arr (k := 128) (j := ((3 * T) + 1)) (x := q2.1) (by decide)) 0 999
    have mq3 := ((mq2).arr (k := 128) (j := ((3 * T) + 1)) (x := q2.1) (by decide)).nm (lo := (0 : Int32)) (hi := 999)
    have rq3 : ∀ r, r ≠ 120 → (znm (st q2.2 128 ((3 * T) + 1) q2.1) 0 999).2 r = (st q2.2 128 ((3 * T) + 1) q2.1) r := fun r h => znm_row h
    rw [hq3] at cq3 mq3 rq3
    refine r_V2s cv_X9_93 dX9_readsTest_82 cq3 ⟨by decide, by decide⟩ kd_120 ln_120 cl_9 (Nat.le_of_ble_eq_true rfl) ⟨Nat.le_refl _, Nat.le_refl _⟩ ?_
    refine r_as (j := (3 * T) + 2) dX9_readsTest_85 kd_128 ln_128 (ix_add (ix_mul (cI 3) hT) (cI 2)) (by omega) (by decide) ?_
    refine r_aload_n dX9_readsTest_86 rfl ?_
    refine r_bipush (v := 59) dX9_readsTest_87 (by decide) ?_
    refine r_V1n cv_X9_97 dX9_readsTest_89 (m_word (im := st q3.2 128 ((3 * T) + 2) q3.1) ((mq3).arr (k := 128) (j := ((3 * T) + 2)) (x := q3.1) (by decide)) 59) ⟨by decide, by decide⟩ kd_120 ln_120 cl_9 (Nat.le_of_ble_eq_true rfl) ⟨Nat.le_refl _, Nat.le_refl _⟩ ?_
    refine r_aload_n dX9_readsTest_92 rfl ?_
    refine r_getr fl_X9_29 dX9_readsTest_93 kd_120 ln_120 rfl rfl ?_
    refine r_iconst (v := 1) dX9_readsTest_96 (by decide) ?_
    refine r_dup2 dX9_readsTest_97 rfl rfl ?_
    refine r_iald (j := 1) dX9_readsTest_98 kd_126 ln_126 (cI 1) (by omega) (by decide) ?_
    refine r_iconst (v := 1) dX9_readsTest_99 (by decide) ?_
    refine r_iadd dX9_readsTest_100 ?_
    refine r_as (j := 1) dX9_readsTest_101 kd_126 ln_126 (cI 1) (by omega) (by decide) ?_
    exact r_vret dX9_readsTest_102 rfl (by simp only [zts, zts2, zts3, zts4, zts5, eq_self, Bool.false_eq_true, Bool.true_eq_false, if_true, if_false, reduceIte, h9, htT, hq1, hq2, hq3]) (Nat.le_refl _) (Nat.le_refl _)
  · refine r_iconst (v := 1) dX9_readsTest_12 (by decide) ?_
    refine r_goto (tgt := 17) dX9_readsTest_13 (by decide) ?_
    refine r_V1s cv_X9_89 dX9_readsTest_17 (m_opens (im := im) true) ⟨by decide, by decide⟩ kd_120 ln_120 cl_9 (Nat.le_of_ble_eq_true rfl) ⟨Nat.le_refl _, Nat.le_refl _⟩ ?_
    refine r_if_eq_t (tgt := 102) dX9_readsTest_20 (by decide) (by decide) ?_
    exact r_vret dX9_readsTest_102 rfl (by simp only [zts, zts2, zts3, zts4, zts5, eq_self, Bool.false_eq_true, Bool.true_eq_false, if_true, if_false, reduceIte, eq_true h9]) (Nat.le_refl _) (Nat.le_refl _)

set_option maxRecDepth 100000 in
set_option maxHeartbeats 4000000 in
theorem m_readsWays {im : IM} {pl it L a : Nat} (hq : MZ im L a) (hl : ¬ zlk im = -1) : MT YX9_readsWays 3 0 0 [.ref 120] 137 im (RR pl it) (none, 137, zws im, RR pl it) := by
  refine mt_of (by decide +kernel) (Nat.le_of_ble_eq_true rfl) ?_
  show WW _ _ _ _ _ _ _ 0 [(0, .ref 120)] [] _ _ _
  have key : ∀ n im, (¬ im 120 23 = 0 ∨ 9 ≤ tn (im 126 0) + n) → MZ im L (a + 1) → WW YX9_readsWays 3 0 0 (none, 137, zwd (zwv n im) 59, RR pl it) 0 0 46 [(0, .ref 120)] [] 137 im (RR pl it) := by
    clear hl hq im
    generalize a + 1 = a
    intro n
    induction n with
    | zero =>
      intro im hm hq
      obtain ⟨W, T, S, hW, hW8, -⟩ := id hq.2
      have hw0 : ¬ im 120 23 = 0 := by
        rcases hm with hm | hm
        · exact hm
        · rw [hW, tn_nI (by omega)] at hm
          omega
      refine r_aload_n dX9_readsWays_46 rfl ?_
      refine r_geti fl_X9_75 dX9_readsWays_47 kd_120 ln_120 rfl ?_
      refine r_if_ne_t (tgt := 146) dX9_readsWays_50 (by decide) hw0 ?_
      refine r_aload_n dX9_readsWays_146 rfl ?_
      refine r_bipush (v := 59) dX9_readsWays_147 (by decide) ?_
      refine r_V1n cv_X9_97 dX9_readsWays_149 (m_word (im := im) hq.1 59) ⟨by decide, by decide⟩ kd_120 ln_120 cl_9 (Nat.le_of_ble_eq_true rfl) ⟨Nat.le_refl _, Nat.le_refl _⟩ ?_
      exact r_vret dX9_readsWays_152 rfl rfl (Nat.le_refl _) (Nat.le_refl _)
    | succ n ih =>
      intro im hm hq
      obtain ⟨W, T, S, hW, hW8, -⟩ := id hq.2
      have htW : tn (im 126 0) = W := by rw [hW, tn_nI (by omega)]
      refine r_aload_n dX9_readsWays_46 rfl ?_
      refine r_geti fl_X9_75 dX9_readsWays_47 kd_120 ln_120 rfl ?_
      refine r_if_ne (tgt := 146) dX9_readsWays_50 (by decide) (fun h50 => ?_) (fun h50 => ?_)
      · refine r_aload_n dX9_readsWays_146 rfl ?_
        refine r_bipush (v := 59) dX9_readsWays_147 (by decide) ?_
        refine r_V1n cv_X9_97 dX9_readsWays_149 (m_word (im := im) hq.1 59) ⟨by decide, by decide⟩ kd_120 ln_120 cl_9 (Nat.le_of_ble_eq_true rfl) ⟨Nat.le_refl _, Nat.le_refl _⟩ ?_
        exact r_vret dX9_readsWays_152 rfl (by rw [zwv_st (fun z => h50 z.1)]) (Nat.le_refl _) (Nat.le_refl _)
      · refine r_aload_n dX9_readsWays_53 rfl ?_
        refine r_V0s cv_X9_78 dX9_readsWays_54 (m_look (im := im) hq.1) ⟨by decide, by decide⟩ kd_120 ln_120 cl_9 (Nat.le_of_ble_eq_true rfl) ⟨Nat.le_refl _, Nat.le_refl _⟩ ?_
        refine r_bipush (v := 44) dX9_readsWays_57 (by decide) ?_
        refine r_icmp_eq (tgt := 72) dX9_readsWays_59 (by decide) (fun h59 => ?_) (fun h59 => ?_)
        · refine r_aload_n dX9_readsWays_72 rfl ?_
          refine r_V0s cv_X9_78 dX9_readsWays_73 (m_look (im := im) hq.1) ⟨by decide, by decide⟩ kd_120 ln_120 cl_9 (Nat.le_of_ble_eq_true rfl) ⟨Nat.le_refl _, Nat.le_refl _⟩ ?_
          refine r_bipush (v := 44) dX9_readsWays_76 (by decide) ?_
          refine r_icmp_ne (tgt := 92) dX9_readsWays_78 (by decide) (fun h78 => ?_) (fun h78 => ?_)
          · refine r_aload_n dX9_readsWays_92 rfl ?_
            refine r_iconst (v := 1) dX9_readsWays_93 (by decide) ?_
            refine r_V1n cv_X9_85 dX9_readsWays_94 (m_fails (im := im) 1) ⟨by decide, by decide⟩ kd_120 ln_120 cl_9 (Nat.le_of_ble_eq_true rfl) ⟨Nat.le_refl _, Nat.le_refl _⟩ ?_
            refine r_goto (tgt := 139) dX9_readsWays_97 (by decide) ?_
            refine r_im (im' := zww im) (zww_f (fun z => h78 z.1)).symm ?_
            refine r_aload_n dX9_readsWays_139 rfl ?_
            refine r_V0n cv_X9_82 dX9_readsWays_140 (m_skips (im := zww im) hq.ww.1) ⟨by decide, by decide⟩ kd_120 ln_120 cl_9 (Nat.le_of_ble_eq_true rfl) ⟨Nat.le_refl _, Nat.le_refl _⟩ ?_
            refine r_goto (tgt := 46) dX9_readsWays_143 (by decide) ?_
            rw [zwv_go h50 (Or.inl h59)]
            exact ih _ (zww_ms hq (hm.resolve_left (fun z => z h50))) hq.ww.skz
          · refine r_aload_n dX9_readsWays_81 rfl ?_
            refine r_getr fl_X9_29 dX9_readsWays_82 kd_120 ln_120 rfl rfl ?_
            refine r_iconst (v := 0) dX9_readsWays_85 (by decide) ?_
            refine r_iald (j := 0) dX9_readsWays_86 kd_126 ln_126 (cI 0) (by omega) (by decide) ?_
            refine r_bipush (v := 8) dX9_readsWays_87 (by decide) ?_
            refine r_icmp_ne (tgt := 100) dX9_readsWays_89 (by decide) (fun h89 => ?_) (fun h89 => ?_)
            · have hWl : W < 8 := Nat.lt_of_le_of_ne hW8 (fun q => h89 (by rw [hW, q]; rfl))
              have hq1 : MR (st im 120 22 (im 120 22 + 1)) L (a + 1) := hq.1.inc (by rw [h78]; decide)
              refine r_aload_n dX9_readsWays_100 rfl ?_
              refine r_dup dX9_readsWays_101 rfl ?_
              refine r_geti fl_X9_72 dX9_readsWays_102 kd_120 ln_120 rfl ?_
              refine r_iconst (v := 1) dX9_readsWays_105 (by decide) ?_
              refine r_iadd dX9_readsWays_106 ?_
              refine r_pi fl_X9_72 dX9_readsWays_107 kd_120 ln_120 rfl ?_
              refine r_aload_n dX9_readsWays_110 rfl ?_
              refine r_getr fl_X9_32 dX9_readsWays_111 kd_120 ln_120 rfl rfl ?_
              refine r_aload_n dX9_readsWays_114 rfl ?_
              refine r_getr fl_X9_29 dX9_readsWays_115 kd_120 ln_120 rfl rfl ?_
              refine r_iconst (v := 0) dX9_readsWays_118 (by decide) ?_
              refine r_ialx (j := 0) (x := im 126 0) dX9_readsWays_119 kd_126 ln_126 (cI 0) (by omega) (by decide) (by rw [st_row (by decide)]) ?_
              refine r_aload_n dX9_readsWays_120 rfl ?_
              refine r_iconst (v := 1) dX9_readsWays_121 (by decide) ?_
              refine r_sipush (v := 999) dX9_readsWays_122 (by decide) ?_
              refine r_V2s cv_X9_93 dX9_readsWays_125 (m_number (im := st im 120 22 (im 120 22 + 1)) hq1 1 999) ⟨by decide, by decide⟩ kd_120 ln_120 cl_9 (Nat.le_of_ble_eq_true rfl) ⟨Nat.le_refl _, Nat.le_refl _⟩ ?_
              refine r_as (j := W) dX9_readsWays_128 kd_127 ln_127 hW (by omega) (by decide) ?_
              refine r_aload_n dX9_readsWays_129 rfl ?_
              refine r_getr fl_X9_29 dX9_readsWays_130 kd_120 ln_120 rfl rfl ?_
              refine r_iconst (v := 0) dX9_readsWays_133 (by decide) ?_
              refine r_dup2 dX9_readsWays_134 rfl rfl ?_
              refine r_ialx (j := 0) (x := (znm (st im 120 22 (im 120 22 + 1)) 1 999).2 126 0) dX9_readsWays_135 kd_126 ln_126 (cI 0) (by omega) (by decide) (by rw [st_row (by decide)]) ?_
              refine r_iconst (v := 1) dX9_readsWays_136 (by decide) ?_
              refine r_iadd dX9_readsWays_137 ?_
              refine r_as (j := 0) dX9_readsWays_138 kd_126 ln_126 (cI 0) (by omega) (by decide) ?_
              refine r_im (im' := zww im) (by rw [zww, if_pos ⟨h78, h89⟩, zww2, htW]) ?_
              refine r_aload_n dX9_readsWays_139 rfl ?_
              refine r_V0n cv_X9_82 dX9_readsWays_140 (m_skips (im := zww im) hq.ww.1) ⟨by decide, by decide⟩ kd_120 ln_120 cl_9 (Nat.le_of_ble_eq_true rfl) ⟨Nat.le_refl _, Nat.le_refl _⟩ ?_
              refine r_goto (tgt := 46) dX9_readsWays_143 (by decide) ?_
              rw [zwv_go h50 (Or.inl h59)]
              exact ih _ (zww_ms hq (hm.resolve_left (fun z => z h50))) hq.ww.skz
            · refine r_aload_n dX9_readsWays_92 rfl ?_
              refine r_iconst (v := 1) dX9_readsWays_93 (by decide) ?_
              refine r_V1n cv_X9_85 dX9_readsWays_94 (m_fails (im := im) 1) ⟨by decide, by decide⟩ kd_120 ln_120 cl_9 (Nat.le_of_ble_eq_true rfl) ⟨Nat.le_refl _, Nat.le_refl _⟩ ?_
              refine r_goto (tgt := 139) dX9_readsWays_97 (by decide) ?_
              refine r_im (im' := zww im) (zww_f (fun z => z.2 h89)).symm ?_
              refine r_aload_n dX9_readsWays_139 rfl ?_
              refine r_V0n cv_X9_82 dX9_readsWays_140 (m_skips (im := zww im) hq.ww.1) ⟨by decide, by decide⟩ kd_120 ln_120 cl_9 (Nat.le_of_ble_eq_true rfl) ⟨Nat.le_refl _, Nat.le_refl _⟩ ?_
              refine r_goto (tgt := 46) dX9_readsWays_143 (by decide) ?_
              rw [zwv_go h50 (Or.inl h59)]
              exact ih _ (zww_ms hq (hm.resolve_left (fun z => z h50))) hq.ww.skz
        · refine r_aload_n dX9_readsWays_62 rfl ?_
          refine r_getr fl_X9_29 dX9_readsWays_63 kd_120 ln_120 rfl rfl ?_
          refine r_iconst (v := 0) dX9_readsWays_66 (by decide) ?_
          refine r_iald (j := 0) dX9_readsWays_67 kd_126 ln_126 (cI 0) (by omega) (by decide) ?_
          refine r_iconst (v := 1) dX9_readsWays_68 (by decide) ?_
          refine r_icmp_ne (tgt := 146) dX9_readsWays_69 (by decide) (fun h69 => ?_) (fun h69 => ?_)
          · refine r_aload_n dX9_readsWays_146 rfl ?_
            refine r_bipush (v := 59) dX9_readsWays_147 (by decide) ?_
            refine r_V1n cv_X9_97 dX9_readsWays_149 (m_word (im := im) hq.1 59) ⟨by decide, by decide⟩ kd_120 ln_120 cl_9 (Nat.le_of_ble_eq_true rfl) ⟨Nat.le_refl _, Nat.le_refl _⟩ ?_
            exact r_vret dX9_readsWays_152 rfl (by rw [zwv_st (fun z => z.2.elim h59 h69)]) (Nat.le_refl _) (Nat.le_refl _)
          · refine r_aload_n dX9_readsWays_72 rfl ?_
            refine r_V0s cv_X9_78 dX9_readsWays_73 (m_look (im := im) hq.1) ⟨by decide, by decide⟩ kd_120 ln_120 cl_9 (Nat.le_of_ble_eq_true rfl) ⟨Nat.le_refl _, Nat.le_refl _⟩ ?_
            refine r_bipush (v := 44) dX9_readsWays_76 (by decide) ?_
            refine r_icmp_ne (tgt := 92) dX9_readsWays_78 (by decide) (fun h78 => ?_) (fun h78 => ?_)
            · refine r_aload_n dX9_readsWays_92 rfl ?_
              refine r_iconst (v := 1) dX9_readsWays_93 (by decide) ?_
              refine r_V1n cv_X9_85 dX9_readsWays_94 (m_fails (im := im) 1) ⟨by decide, by decide⟩ kd_120 ln_120 cl_9 (Nat.le_of_ble_eq_true rfl) ⟨Nat.le_refl _, Nat.le_refl _⟩ ?_
              refine r_goto (tgt := 139) dX9_readsWays_97 (by decide) ?_
              refine r_im (im' := zww im) (zww_f (fun z => h78 z.1)).symm ?_
              refine r_aload_n dX9_readsWays_139 rfl ?_
              refine r_V0n cv_X9_82 dX9_readsWays_140 (m_skips (im := zww im) hq.ww.1) ⟨by decide, by decide⟩ kd_120 ln_120 cl_9 (Nat.le_of_ble_eq_true rfl) ⟨Nat.le_refl _, Nat.le_refl _⟩ ?_
              refine r_goto (tgt := 46) dX9_readsWays_143 (by decide) ?_
              rw [zwv_go h50 (Or.inr h69)]
              exact ih _ (zww_ms hq (hm.resolve_left (fun z => z h50))) hq.ww.skz
            · refine r_aload_n dX9_readsWays_81 rfl ?_
              refine r_getr fl_X9_29 dX9_readsWays_82 kd_120 ln_120 rfl rfl ?_
              refine r_iconst (v := 0) dX9_readsWays_85 (by decide) ?_
              refine r_iald (j := 0) dX9_readsWays_86 kd_126 ln_126 (cI 0) (by omega) (by decide) ?_
              refine r_bipush (v := 8) dX9_readsWays_87 (by decide) ?_
              refine r_icmp_ne (tgt := 100) dX9_readsWays_89 (by decide) (fun h89 => ?_) (fun h89 => ?_)
              · have hWl : W < 8 := Nat.lt_of_le_of_ne hW8 (fun q => h89 (by rw [hW, q]; rfl))
                have hq1 : MR (st im 120 22 (im 120 22 + 1)) L (a + 1) := hq.1.inc (by rw [h78]; decide)
                refine r_aload_n dX9_readsWays_100 rfl ?_
                refine r_dup dX9_readsWays_101 rfl ?_
                refine r_geti fl_X9_72 dX9_readsWays_102 kd_120 ln_120 rfl ?_
                refine r_iconst (v := 1) dX9_readsWays_105 (by decide) ?_
                refine r_iadd dX9_readsWays_106 ?_
                refine r_pi fl_X9_72 dX9_readsWays_107 kd_120 ln_120 rfl ?_
                refine r_aload_n dX9_readsWays_110 rfl ?_
                refine r_getr fl_X9_32 dX9_readsWays_111 kd_120 ln_120 rfl rfl ?_
                refine r_aload_n dX9_readsWays_114 rfl ?_
                refine r_getr fl_X9_29 dX9_readsWays_115 kd_120 ln_120 rfl rfl ?_
                refine r_iconst (v := 0) dX9_readsWays_118 (by decide) ?_
                refine r_ialx (j := 0) (x := im 126 0) dX9_readsWays_119 kd_126 ln_126 (cI 0) (by omega) (by decide) (by rw [st_row (by decide)]) ?_
                refine r_aload_n dX9_readsWays_120 rfl ?_
                refine r_iconst (v := 1) dX9_readsWays_121 (by decide) ?_
                refine r_sipush (v := 999) dX9_readsWays_122 (by decide) ?_
                refine r_V2s cv_X9_93 dX9_readsWays_125 (m_number (im := st im 120 22 (im 120 22 + 1)) hq1 1 999) ⟨by decide, by decide⟩ kd_120 ln_120 cl_9 (Nat.le_of_ble_eq_true rfl) ⟨Nat.le_refl _, Nat.le_refl _⟩ ?_
                refine r_as (j := W) dX9_readsWays_128 kd_127 ln_127 hW (by omega) (by decide) ?_
                refine r_aload_n dX9_readsWays_129 rfl ?_
                refine r_getr fl_X9_29 dX9_readsWays_130 kd_120 ln_120 rfl rfl ?_
                refine r_iconst (v := 0) dX9_readsWays_133 (by decide) ?_
                refine r_dup2 dX9_readsWays_134 rfl rfl ?_
                refine r_ialx (j := 0) (x := (znm (st im 120 22 (im 120 22 + 1)) 1 999).2 126 0) dX9_readsWays_135 kd_126 ln_126 (cI 0) (by omega) (by decide) (by rw [st_row (by decide)]) ?_
                refine r_iconst (v := 1) dX9_readsWays_136 (by decide) ?_
                refine r_iadd dX9_readsWays_137 ?_
                refine r_as (j := 0) dX9_readsWays_138 kd_126 ln_126 (cI 0) (by omega) (by decide) ?_
                refine r_im (im' := zww im) (by rw [zww, if_pos ⟨h78, h89⟩, zww2, htW]) ?_
                refine r_aload_n dX9_readsWays_139 rfl ?_
                refine r_V0n cv_X9_82 dX9_readsWays_140 (m_skips (im := zww im) hq.ww.1) ⟨by decide, by decide⟩ kd_120 ln_120 cl_9 (Nat.le_of_ble_eq_true rfl) ⟨Nat.le_refl _, Nat.le_refl _⟩ ?_
                refine r_goto (tgt := 46) dX9_readsWays_143 (by decide) ?_
                rw [zwv_go h50 (Or.inr h69)]
                exact ih _ (zww_ms hq (hm.resolve_left (fun z => z h50))) hq.ww.skz
              · refine r_aload_n dX9_readsWays_92 rfl ?_
                refine r_iconst (v := 1) dX9_readsWays_93 (by decide) ?_
                refine r_V1n cv_X9_85 dX9_readsWays_94 (m_fails (im := im) 1) ⟨by decide, by decide⟩ kd_120 ln_120 cl_9 (Nat.le_of_ble_eq_true rfl) ⟨Nat.le_refl _, Nat.le_refl _⟩ ?_
                refine r_goto (tgt := 139) dX9_readsWays_97 (by decide) ?_
                refine r_im (im' := zww im) (zww_f (fun z => z.2 h89)).symm ?_
                refine r_aload_n dX9_readsWays_139 rfl ?_
                refine r_V0n cv_X9_82 dX9_readsWays_140 (m_skips (im := zww im) hq.ww.1) ⟨by decide, by decide⟩ kd_120 ln_120 cl_9 (Nat.le_of_ble_eq_true rfl) ⟨Nat.le_refl _, Nat.le_refl _⟩ ?_
                refine r_goto (tgt := 46) dX9_readsWays_143 (by decide) ?_
                rw [zwv_go h50 (Or.inr h69)]
                exact ih _ (zww_ms hq (hm.resolve_left (fun z => z h50))) hq.ww.skz
  refine r_aload_n dX9_readsWays_0 rfl ?_
  refine r_aload_n dX9_readsWays_1 rfl ?_
  refine r_getr fl_X9_29 dX9_readsWays_2 kd_120 ln_120 rfl rfl ?_
  refine r_iconst (v := 0) dX9_readsWays_5 (by decide) ?_
  refine r_iald (j := 0) dX9_readsWays_6 kd_126 ln_126 (cI 0) (by omega) (by decide) ?_
  refine r_if_le (tgt := 14) dX9_readsWays_7 (by decide) (fun h7 => ?_) (fun h7 => ?_)
  · refine r_iconst (v := 0) dX9_readsWays_14 (by decide) ?_
    refine r_V1s cv_X9_89 dX9_readsWays_15 (m_opens (im := im) false) ⟨by decide, by decide⟩ kd_120 ln_120 cl_9 (Nat.le_of_ble_eq_true rfl) ⟨Nat.le_refl _, Nat.le_refl _⟩ ?_
    refine r_if_eq_f (tgt := 152) dX9_readsWays_18 (by decide) (by decide) ?_
    refine r_aload_n dX9_readsWays_21 rfl ?_
    refine r_getr fl_X9_32 dX9_readsWays_22 kd_120 ln_120 rfl rfl ?_
    refine r_iconst (v := 0) dX9_readsWays_25 (by decide) ?_
    refine r_aload_n dX9_readsWays_26 rfl ?_
    refine r_iconst (v := 1) dX9_readsWays_27 (by decide) ?_
    refine r_sipush (v := 999) dX9_readsWays_28 (by decide) ?_
    obtain ⟨q1, hq1⟩ : ∃ z : Int32 × IM, znm (zop im false) 1 999 = z := ⟨_, rfl⟩
    have cq1 := m_number (im := (zop im false)) (pl := pl) (it := it) (hq.1.opf hl) 1 999
    have mq1 := (hq.1.opf hl).nm (lo := (1 : Int32)) (hi := 999)
    have rq1 : ∀ r, r ≠ 120 → (znm (zop im false) 1 999).2 r = (zop im false) r := fun r h => znm_row h
    rw [hq1] at cq1 mq1 rq1
    refine r_V2s cv_X9_93 dX9_readsWays_31 cq1 ⟨by decide, by decide⟩ kd_120 ln_120 cl_9 (Nat.le_of_ble_eq_true rfl) ⟨Nat.le_refl _, Nat.le_refl _⟩ ?_
    refine r_as (j := 0) dX9_readsWays_34 kd_127 ln_127 (cI 0) (by omega) (by decide) ?_
    refine r_aload_n dX9_readsWays_35 rfl ?_
    refine r_getr fl_X9_29 dX9_readsWays_36 kd_120 ln_120 rfl rfl ?_
    refine r_iconst (v := 0) dX9_readsWays_39 (by decide) ?_
    refine r_iconst (v := 1) dX9_readsWays_40 (by decide) ?_
    refine r_as (j := 0) dX9_readsWays_41 kd_126 ln_126 (cI 0) (by omega) (by decide) ?_
    refine r_aload_n dX9_readsWays_42 rfl ?_
    refine r_V0n cv_X9_82 dX9_readsWays_43 (m_skips (im := st (st q1.2 127 0 q1.1) 126 0 1) (((mq1).arr (k := 127) (j := 0) (x := q1.1) (by decide)).arr (k := 126) (j := 0) (x := 1) (by decide))) ⟨by decide, by decide⟩ kd_120 ln_120 cl_9 (Nat.le_of_ble_eq_true rfl) ⟨Nat.le_refl _, Nat.le_refl _⟩ ?_
    rw [zws, if_pos h7, zws2, hq1]
    exact key 9 _ (Or.inr (by omega)) ((((show MZ q1.2 L (a + 1) from hq.row mq1 (by rw [rq1 126 (by decide), zop_row (by decide)]))).arr (k := 127) (j := 0) (x := q1.1) (by decide) (by omega)).cnt (Or.inl ⟨rfl, rfl⟩) (n := 1) rfl (by omega)).skz
  · refine r_iconst (v := 1) dX9_readsWays_10 (by decide) ?_
    refine r_goto (tgt := 15) dX9_readsWays_11 (by decide) ?_
    refine r_V1s cv_X9_89 dX9_readsWays_15 (m_opens (im := im) true) ⟨by decide, by decide⟩ kd_120 ln_120 cl_9 (Nat.le_of_ble_eq_true rfl) ⟨Nat.le_refl _, Nat.le_refl _⟩ ?_
    refine r_if_eq_t (tgt := 152) dX9_readsWays_18 (by decide) (by decide) ?_
    exact r_vret dX9_readsWays_152 rfl (by rw [zws, if_neg h7]) (Nat.le_refl _) (Nat.le_refl _)

set_option maxRecDepth 100000 in
set_option maxHeartbeats 4000000 in
theorem m_reads {im : IM} {pl it L a n : Nat} (hq : MZ im L a) (hn : L ≤ a + n) : MT YX9_reads 5 0 0 [.ref 120] 137 im (RR pl it) (none, 137, zrd n im, RR pl it) := by
  refine mt_of (by decide +kernel) (Nat.le_of_ble_eq_true rfl) ?_
  show WW _ _ _ _ _ _ _ 0 [(0, .ref 120)] [] _ _ _
  have key : ∀ n a im, L ≤ a + n → MZ im L a → WW YX9_reads 5 0 0 (none, 137, zrd n im, RR pl it) 0 0 0 [(0, .ref 120)] [] 137 im (RR pl it) := by
    clear hn hq im n a
    intro n
    induction n with
    | zero =>
      intro a im hn hq
      refine r_aload_n dX9_reads_0 rfl ?_
      refine r_geti fl_X9_75 dX9_reads_1 kd_120 ln_120 rfl ?_
      refine r_if_ne (tgt := 108) dX9_reads_4 (by decide) (fun h4 => ?_) (fun h4 => ?_)
      · exact r_vret dX9_reads_108 rfl rfl (Nat.le_refl _) (Nat.le_refl _)
      · refine r_aload_n dX9_reads_7 rfl ?_
        refine r_V0s cv_X9_78 dX9_reads_8 (m_look (im := im) hq.1) ⟨by decide, by decide⟩ kd_120 ln_120 cl_9 (Nat.le_of_ble_eq_true rfl) ⟨Nat.le_refl _, Nat.le_refl _⟩ ?_
        refine r_iconst (v := (-1)) dX9_reads_11 (by decide) ?_
        refine r_icmp_eq_t (tgt := 108) dX9_reads_12 (by decide) (hq.end (by omega) h4) ?_
        exact r_vret dX9_reads_108 rfl rfl (Nat.le_refl _) (Nat.le_refl _)
    | succ n ih =>
      intro a im hn hq
      refine r_aload_n dX9_reads_0 rfl ?_
      refine r_geti fl_X9_75 dX9_reads_1 kd_120 ln_120 rfl ?_
      refine r_if_ne (tgt := 108) dX9_reads_4 (by decide) (fun h4 => ?_) (fun h4 => ?_)
      · exact r_vret dX9_reads_108 rfl (by rw [zrd_st (fun z => h4 z.1)]) (Nat.le_refl _) (Nat.le_refl _)
      · refine r_aload_n dX9_reads_7 rfl ?_
        refine r_V0s cv_X9_78 dX9_reads_8 (m_look (im := im) hq.1) ⟨by decide, by decide⟩ kd_120 ln_120 cl_9 (Nat.le_of_ble_eq_true rfl) ⟨Nat.le_refl _, Nat.le_refl _⟩ ?_
        refine r_iconst (v := (-1)) dX9_reads_11 (by decide) ?_
        refine r_icmp_eq (tgt := 108) dX9_reads_12 (by decide) (fun h12 => ?_) (fun h12 => ?_)
        · exact r_vret dX9_reads_108 rfl (by rw [zrd_st (fun z => z.2 h12)]) (Nat.le_refl _) (Nat.le_refl _)
        · refine r_aload_n dX9_reads_15 rfl ?_
          refine r_V0s cv_X9_78 dX9_reads_16 (m_look (im := im) hq.1) ⟨by decide, by decide⟩ kd_120 ln_120 cl_9 (Nat.le_of_ble_eq_true rfl) ⟨Nat.le_refl _, Nat.le_refl _⟩ ?_
          refine r_bipush (v := 119) dX9_reads_19 (by decide) ?_
          refine r_icmp_ne (tgt := 31) dX9_reads_21 (by decide) (fun h21 => ?_) (fun h21 => ?_)
          · refine r_aload_n dX9_reads_31 rfl ?_
            refine r_getr fl_X9_29 dX9_reads_32 kd_120 ln_120 rfl rfl ?_
            refine r_iconst (v := 0) dX9_reads_35 (by decide) ?_
            refine r_iald (j := 0) dX9_reads_36 kd_126 ln_126 (cI 0) (by omega) (by decide) ?_
            refine r_if_ne (tgt := 48) dX9_reads_37 (by decide) (fun h37 => ?_) (fun h37 => ?_)
            · refine r_aload_n dX9_reads_48 rfl ?_
              refine r_V0s cv_X9_78 dX9_reads_49 (m_look (im := im) hq.1) ⟨by decide, by decide⟩ kd_120 ln_120 cl_9 (Nat.le_of_ble_eq_true rfl) ⟨Nat.le_refl _, Nat.le_refl _⟩ ?_
              refine r_bipush (v := 116) dX9_reads_52 (by decide) ?_
              refine r_icmp_ne (tgt := 64) dX9_reads_54 (by decide) (fun h54 => ?_) (fun h54 => ?_)
              · refine r_aload_n dX9_reads_64 rfl ?_
                refine r_V0s cv_X9_78 dX9_reads_65 (m_look (im := im) hq.1) ⟨by decide, by decide⟩ kd_120 ln_120 cl_9 (Nat.le_of_ble_eq_true rfl) ⟨Nat.le_refl _, Nat.le_refl _⟩ ?_
                refine r_bipush (v := 115) dX9_reads_68 (by decide) ?_
                refine r_icmp_ne (tgt := 80) dX9_reads_70 (by decide) (fun h70 => ?_) (fun h70 => ?_)
                · refine r_aload_n dX9_reads_80 rfl ?_
                  refine r_V0s cv_X9_78 dX9_reads_81 (m_look (im := im) hq.1) ⟨by decide, by decide⟩ kd_120 ln_120 cl_9 (Nat.le_of_ble_eq_true rfl) ⟨Nat.le_refl _, Nat.le_refl _⟩ ?_
                  refine r_bipush (v := 112) dX9_reads_84 (by decide) ?_
                  refine r_icmp_ne (tgt := 96) dX9_reads_86 (by decide) (fun h86 => ?_) (fun h86 => ?_)
                  · refine r_aload_n dX9_reads_96 rfl ?_
                    refine r_iconst (v := 1) dX9_reads_97 (by decide) ?_
                    refine r_V1n cv_X9_85 dX9_reads_98 (m_fails (im := im) 1) ⟨by decide, by decide⟩ kd_120 ln_120 cl_9 (Nat.le_of_ble_eq_true rfl) ⟨Nat.le_refl _, Nat.le_refl _⟩ ?_
                    refine r_im (im' := zcl im) (by simp only [zcl, eq_self, Bool.false_eq_true, Bool.true_eq_false, if_true, if_false, reduceIte, h21, h37, h54, h70, h86]) ?_
                    refine r_aload_n dX9_reads_101 rfl ?_
                    refine r_V0n cv_X9_82 dX9_reads_102 (m_skips (im := zcl im) (hq.cl h12).1) ⟨by decide, by decide⟩ kd_120 ln_120 cl_9 (Nat.le_of_ble_eq_true rfl) ⟨Nat.le_refl _, Nat.le_refl _⟩ ?_
                    refine r_goto (tgt := 0) dX9_reads_105 (by decide) ?_
                    rw [zrd_go h4 h12]
                    exact ih (a + 1) _ (by omega) (hq.cl h12).skz
                  · refine r_aload_n dX9_reads_89 rfl ?_
                    refine r_V0n cv_X9_116 dX9_reads_90 (m_readsPay (im := im) hq h12) ⟨by decide, by decide⟩ kd_120 ln_120 cl_9 (Nat.le_of_ble_eq_true rfl) ⟨Nat.le_refl _, Nat.le_refl _⟩ ?_
                    refine r_goto (tgt := 101) dX9_reads_93 (by decide) ?_
                    refine r_im (im' := zcl im) (by simp only [zcl, eq_self, Bool.false_eq_true, Bool.true_eq_false, if_true, if_false, reduceIte, h21, h37, h54, h70, eq_true h86]) ?_
                    refine r_aload_n dX9_reads_101 rfl ?_
                    refine r_V0n cv_X9_82 dX9_reads_102 (m_skips (im := zcl im) (hq.cl h12).1) ⟨by decide, by decide⟩ kd_120 ln_120 cl_9 (Nat.le_of_ble_eq_true rfl) ⟨Nat.le_refl _, Nat.le_refl _⟩ ?_
                    refine r_goto (tgt := 0) dX9_reads_105 (by decide) ?_
                    rw [zrd_go h4 h12]
                    exact ih (a + 1) _ (by omega) (hq.cl h12).skz
                · refine r_aload_n dX9_reads_73 rfl ?_
                  refine r_V0n cv_X9_113 dX9_reads_74 (m_readsServant (im := im) hq h12) ⟨by decide, by decide⟩ kd_120 ln_120 cl_9 (Nat.le_of_ble_eq_true rfl) ⟨Nat.le_refl _, Nat.le_refl _⟩ ?_
                  refine r_goto (tgt := 101) dX9_reads_77 (by decide) ?_
                  refine r_im (im' := zcl im) (by simp only [zcl, eq_self, Bool.false_eq_true, Bool.true_eq_false, if_true, if_false, reduceIte, h21, h37, h54, eq_true h70]) ?_
                  refine r_aload_n dX9_reads_101 rfl ?_
                  refine r_V0n cv_X9_82 dX9_reads_102 (m_skips (im := zcl im) (hq.cl h12).1) ⟨by decide, by decide⟩ kd_120 ln_120 cl_9 (Nat.le_of_ble_eq_true rfl) ⟨Nat.le_refl _, Nat.le_refl _⟩ ?_
                  refine r_goto (tgt := 0) dX9_reads_105 (by decide) ?_
                  rw [zrd_go h4 h12]
                  exact ih (a + 1) _ (by omega) (hq.cl h12).skz
              · refine r_aload_n dX9_reads_57 rfl ?_
                refine r_V0n cv_X9_110 dX9_reads_58 (m_readsTest (im := im) hq h12) ⟨by decide, by decide⟩ kd_120 ln_120 cl_9 (Nat.le_of_ble_eq_true rfl) ⟨Nat.le_refl _, Nat.le_refl _⟩ ?_
                refine r_goto (tgt := 101) dX9_reads_61 (by decide) ?_
                refine r_im (im' := zcl im) (by simp only [zcl, eq_self, Bool.false_eq_true, Bool.true_eq_false, if_true, if_false, reduceIte, h21, h37, eq_true h54]) ?_
                refine r_aload_n dX9_reads_101 rfl ?_
                refine r_V0n cv_X9_82 dX9_reads_102 (m_skips (im := zcl im) (hq.cl h12).1) ⟨by decide, by decide⟩ kd_120 ln_120 cl_9 (Nat.le_of_ble_eq_true rfl) ⟨Nat.le_refl _, Nat.le_refl _⟩ ?_
                refine r_goto (tgt := 0) dX9_reads_105 (by decide) ?_
                rw [zrd_go h4 h12]
                exact ih (a + 1) _ (by omega) (hq.cl h12).skz
            · refine r_aload_n dX9_reads_40 rfl ?_
              refine r_iconst (v := 1) dX9_reads_41 (by decide) ?_
              refine r_V1n cv_X9_85 dX9_reads_42 (m_fails (im := im) 1) ⟨by decide, by decide⟩ kd_120 ln_120 cl_9 (Nat.le_of_ble_eq_true rfl) ⟨Nat.le_refl _, Nat.le_refl _⟩ ?_
              refine r_goto (tgt := 101) dX9_reads_45 (by decide) ?_
              refine r_im (im' := zcl im) (by simp only [zcl, eq_self, Bool.false_eq_true, Bool.true_eq_false, if_true, if_false, reduceIte, h21, eq_true h37]) ?_
              refine r_aload_n dX9_reads_101 rfl ?_
              refine r_V0n cv_X9_82 dX9_reads_102 (m_skips (im := zcl im) (hq.cl h12).1) ⟨by decide, by decide⟩ kd_120 ln_120 cl_9 (Nat.le_of_ble_eq_true rfl) ⟨Nat.le_refl _, Nat.le_refl _⟩ ?_
              refine r_goto (tgt := 0) dX9_reads_105 (by decide) ?_
              rw [zrd_go h4 h12]
              exact ih (a + 1) _ (by omega) (hq.cl h12).skz
          · refine r_aload_n dX9_reads_24 rfl ?_
            refine r_V0n cv_X9_107 dX9_reads_25 (m_readsWays (im := im) hq h12) ⟨by decide, by decide⟩ kd_120 ln_120 cl_9 (Nat.le_of_ble_eq_true rfl) ⟨Nat.le_refl _, Nat.le_refl _⟩ ?_
            refine r_goto (tgt := 101) dX9_reads_28 (by decide) ?_
            refine r_im (im' := zcl im) (by simp only [zcl, eq_self, Bool.false_eq_true, Bool.true_eq_false, if_true, if_false, reduceIte, eq_true h21]) ?_
            refine r_aload_n dX9_reads_101 rfl ?_
            refine r_V0n cv_X9_82 dX9_reads_102 (m_skips (im := zcl im) (hq.cl h12).1) ⟨by decide, by decide⟩ kd_120 ln_120 cl_9 (Nat.le_of_ble_eq_true rfl) ⟨Nat.le_refl _, Nat.le_refl _⟩ ?_
            refine r_goto (tgt := 0) dX9_reads_105 (by decide) ?_
            rw [zrd_go h4 h12]
            exact ih (a + 1) _ (by omega) (hq.cl h12).skz
  exact key n a im hn hq

