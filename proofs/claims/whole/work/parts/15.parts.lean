set_option maxRecDepth 100000 in
set_option maxHeartbeats 4000000 in
theorem c_copyFrom {im : IM} {pl it : Nat} {a b : Nat} (ha : isA a) (hb : isA b) (hab : a ≠ b) (h2 : b01 (im b 2)) (h3 : b01 (im b 3)) : MT YX0_copyFrom 0 0 0 [.ref a, .ref b] 137 im (RR pl it) (none, 137, cpA im a b, RR pl it) := by
  have hap := isA_apart ha hb hab
  refine mt_of (by decide +kernel) (Nat.le_of_ble_eq_true rfl) ?_
  show WW _ _ _ _ _ _ _ 0 [(0, .ref a), (1, .ref b)] [] _ _ _
  refine r_aload_n dX0_copyFrom_0 rfl ?_
  refine r_aload_n dX0_copyFrom_1 rfl ?_
  refine r_geti fl_X0_9 dX0_copyFrom_2 (kA0 hb) (lA0 hb) rfl ?_
  refine r_pi fl_X0_9 dX0_copyFrom_5 (kA0 ha) (lA0 ha) rfl ?_
  refine r_aload_n dX0_copyFrom_8 rfl ?_
  refine r_aload_n dX0_copyFrom_9 rfl ?_
  refine r_getx (x := im b 1) fl_X0_15 dX0_copyFrom_10 (kA0 hb) (lA0 hb) rfl (by simp only [st_at]; grind) ?_
  refine r_pi fl_X0_15 dX0_copyFrom_13 (kA0 ha) (lA0 ha) rfl ?_
  refine r_aload_n dX0_copyFrom_16 rfl ?_
  refine r_aload_n dX0_copyFrom_17 rfl ?_
  refine r_getx (x := im b 2) fl_X0_18 dX0_copyFrom_18 (kA0 hb) (lA0 hb) rfl (by simp only [st_at]; grind) ?_
  refine r_pz fl_X0_18 dX0_copyFrom_21 (kA0 ha) (lA0 ha) rfl (b01_nar h2) ?_
  refine r_aload_n dX0_copyFrom_24 rfl ?_
  refine r_aload_n dX0_copyFrom_25 rfl ?_
  refine r_getx (x := im b 3) fl_X0_22 dX0_copyFrom_26 (kA0 hb) (lA0 hb) rfl (by simp only [st_at]; grind) ?_
  refine r_pz fl_X0_22 dX0_copyFrom_29 (kA0 ha) (lA0 ha) rfl (b01_nar h3) ?_
  refine r_aload_n dX0_copyFrom_32 rfl ?_
  refine r_aload_n dX0_copyFrom_33 rfl ?_
  refine r_getx (x := im b 4) fl_X0_25 dX0_copyFrom_34 (kA0 hb) (lA0 hb) rfl (by simp only [st_at]; grind) ?_
  refine r_pi fl_X0_25 dX0_copyFrom_37 (kA0 ha) (lA0 ha) rfl ?_
  refine r_aload_n dX0_copyFrom_40 rfl ?_
  refine r_aload_n dX0_copyFrom_41 rfl ?_
  refine r_getx (x := im b 5) fl_X0_28 dX0_copyFrom_42 (kA0 hb) (lA0 hb) rfl (by simp only [st_at]; grind) ?_
  refine r_pi fl_X0_28 dX0_copyFrom_45 (kA0 ha) (lA0 ha) rfl ?_
  refine r_iconst (v := 0) dX0_copyFrom_48 (by decide) ?_
  refine r_istore_n dX0_copyFrom_49 (by decide) ?_
  refine r_lv (lv' := [(0, .ref a), (1, .ref b), (2, .int (nI 0))]) (al_cons rfl (al_cons rfl (al_int rfl (by exact (cI 0)) al_nil))) ?_
  refine r_im (im' := cpT im a b 0) cpT_in ?_
  refine WW.loop (fun t => [(0, .ref a), (1, .ref b), (2, .int (nI t))]) (fun t => cpT im a b t) (N := 5) ?_ ?_ 0 (Nat.zero_le _)
  · show WW _ _ _ _ _ _ _ 50 [(0, .ref a), (1, .ref b), (2, .int (nI 5))] _ _ (cpT im a b 5) _
    refine r_iload_n dX0_copyFrom_50 rfl ?_
    refine r_iconst (v := 5) dX0_copyFrom_51 (by decide) ?_
    refine r_icmp_ge_t (tgt := 97) dX0_copyFrom_52 (by decide) (ix_le (cI 5) rfl (by omega) (by omega)) ?_
    exact r_vret dX0_copyFrom_97 rfl rfl (Nat.le_refl _) (Nat.le_refl _)
  · intro t ht iht
    show WW _ _ _ _ _ _ _ 50 [(0, .ref a), (1, .ref b), (2, .int (nI t))] _ _ (cpT im a b t) _
    refine r_iload_n dX0_copyFrom_50 rfl ?_
    refine r_iconst (v := 5) dX0_copyFrom_51 (by decide) ?_
    refine r_icmp_ge_f (tgt := 97) dX0_copyFrom_52 (by decide) (ix_nle (cI 5) rfl (by omega) (by omega)) ?_
    refine r_aload_n dX0_copyFrom_55 rfl ?_
    refine r_getr fl_X0_31 dX0_copyFrom_56 (kA0 ha) (lA0 ha) rfl (rrA6 ha) ?_
    refine r_iload_n dX0_copyFrom_59 rfl ?_
    refine r_aload_n dX0_copyFrom_60 rfl ?_
    refine r_getr fl_X0_31 dX0_copyFrom_61 (kA0 hb) (lA0 hb) rfl (rrA6 hb) ?_
    refine r_iload_n dX0_copyFrom_64 rfl ?_
    refine r_ialx (j := t) (x := im (b + 1) t) dX0_copyFrom_65 (kA1 hb) (lA1 hb) rfl (by omega) (by decide) (by simp only [st_at, cpT]; grind) ?_
    refine r_as (j := t) dX0_copyFrom_66 (kA1 ha) (lA1 ha) rfl (by omega) (by decide) ?_
    refine r_aload_n dX0_copyFrom_67 rfl ?_
    refine r_getr fl_X0_35 dX0_copyFrom_68 (kA0 ha) (lA0 ha) rfl (rrA7 ha) ?_
    refine r_iload_n dX0_copyFrom_71 rfl ?_
    refine r_aload_n dX0_copyFrom_72 rfl ?_
    refine r_getr fl_X0_35 dX0_copyFrom_73 (kA0 hb) (lA0 hb) rfl (rrA7 hb) ?_
    refine r_iload_n dX0_copyFrom_76 rfl ?_
    refine r_ialx (j := t) (x := im (b + 2) t) dX0_copyFrom_77 (kA2 hb) (lA2 hb) rfl (by omega) (by decide) (by simp only [st_at, cpT]; grind) ?_
    refine r_as (j := t) dX0_copyFrom_78 (kA2 ha) (lA2 ha) rfl (by omega) (by decide) ?_
    refine r_aload_n dX0_copyFrom_79 rfl ?_
    refine r_getr fl_X0_38 dX0_copyFrom_80 (kA0 ha) (lA0 ha) rfl (rrA8 ha) ?_
    refine r_iload_n dX0_copyFrom_83 rfl ?_
    refine r_aload_n dX0_copyFrom_84 rfl ?_
    refine r_getr fl_X0_38 dX0_copyFrom_85 (kA0 hb) (lA0 hb) rfl (rrA8 hb) ?_
    refine r_iload_n dX0_copyFrom_88 rfl ?_
    refine r_ialx (j := t) (x := im (b + 3) t) dX0_copyFrom_89 (kA3 hb) (lA3 hb) rfl (by omega) (by decide) (by simp only [st_at, cpT]; grind) ?_
    refine r_as (j := t) dX0_copyFrom_90 (kA3 ha) (lA3 ha) rfl (by omega) (by decide) ?_
    refine r_iinc dX0_copyFrom_91 rfl (by decide) (ix_inc rfl) ?_
    refine r_goto (tgt := 50) dX0_copyFrom_94 (by decide) ?_
    refine r_lv (lv' := [(0, .ref a), (1, .ref b), (2, .int (nI (t + 1)))]) (al_cons rfl (al_cons rfl (al_cons rfl al_nil))) ?_
    refine r_im (im' := cpT im a b (t + 1)) cpT_go ?_
    exact iht

theorem CA.keep {im im' : IM} {c : Nat} (h : CA im c) (h0 : im' c 0 = im c 0) (h2 : im' c 2 = im c 2) (h6 : im' c 6 = im c 6) : CA im' c := by
  obtain ⟨hC, W, T, S, hW, hW8, hT, hT6, hS, hS5⟩ := h
  exact ⟨hC, W, T, S, h0.trans hW, hW8, h2.trans hT, hT6, h6.trans hS, hS5⟩
theorem CA.keepR {im im' : IM} {c : Nat} (h : CA im c) (h0 : im' c = im c) : CA im' c := h.keep (by rw [h0]) (by rw [h0]) (by rw [h0])
theorem bgT_in {im : IM} {c : Nat} : st (st (st (st (st (st im 17 0 0) 17 1 0) 17 2 (bI (decide (0 < im c 0)))) 17 3 (bI (decide (0 < im c 0)))) 17 4 0) 17 5 0 = bgT im c 0 := by
  funext k j
  simp only [st_at, bgT]
  grind
theorem bgT_go {im : IM} {c t : Nat} : st (st (st (bgT im c t) 18 t (im (c + 5) t)) 19 t 0) 20 t 0 = bgT im c (t + 1) := by
  funext k j
  simp only [st_at, bgT]
  grind

set_option maxRecDepth 100000 in
set_option maxHeartbeats 4000000 in
theorem c_begin {im : IM} {pl it c : Nat} (hc : CA im c) : MT YX0_begin 1 0 0 [.ref 17, .ref c] 137 im (RR pl it) (none, 137, bgT im c 5, RR pl it) := by
  obtain ⟨hC, W, T, S, hW, hW8, hT, hT6, hS, hS5⟩ := id hc
  have hcc : c = 3 ∨ c = 10 := hC
  refine mt_of (by decide +kernel) (Nat.le_of_ble_eq_true rfl) ?_
  show WW _ _ _ _ _ _ _ 0 [(0, .ref 17), (1, .ref c)] [] _ _ _
  refine r_aload_n dX0_begin_0 rfl ?_
  refine r_iconst (v := 0) dX0_begin_1 (by decide) ?_
  refine r_pi fl_X0_9 dX0_begin_2 kd_17 ln_17 rfl ?_
  refine r_aload_n dX0_begin_5 rfl ?_
  refine r_iconst (v := 0) dX0_begin_6 (by decide) ?_
  refine r_pi fl_X0_15 dX0_begin_7 kd_17 ln_17 rfl ?_
  refine r_aload_n dX0_begin_10 rfl ?_
  refine r_aload_n dX0_begin_11 rfl ?_
  refine r_V0s cv_X0_41 dX0_begin_12 (by have q := c_stands (pl := pl) (it := it) (im := st (st im 17 0 0) 17 1 0) (hc.keepR (by funext j; simp only [st_at]; grind)); rw [show (st (st im 17 0 0) 17 1 0) c 0 = im c 0 by simp only [st_at]; grind] at q; exact q) ⟨by decide, by decide⟩ (kC0 hC) (lC0 hC) cl_2 (Nat.le_of_ble_eq_true rfl) ⟨Nat.le_refl _, Nat.le_refl _⟩ ?_
  refine r_pz fl_X0_18 dX0_begin_15 kd_17 ln_17 rfl ⟨bI_nar _, fit_bI _⟩ ?_
  refine r_aload_n dX0_begin_18 rfl ?_
  refine r_aload_n dX0_begin_19 rfl ?_
  refine r_V0s cv_X0_41 dX0_begin_20 (by have q := c_stands (pl := pl) (it := it) (im := st (st (st im 17 0 0) 17 1 0) 17 2 (bI (decide (0 < im c 0)))) (hc.keepR (by funext j; simp only [st_at]; grind)); rw [show (st (st (st im 17 0 0) 17 1 0) 17 2 (bI (decide (0 < im c 0)))) c 0 = im c 0 by simp only [st_at]; grind] at q; exact q) ⟨by decide, by decide⟩ (kC0 hC) (lC0 hC) cl_2 (Nat.le_of_ble_eq_true rfl) ⟨Nat.le_refl _, Nat.le_refl _⟩ ?_
  refine r_pz fl_X0_22 dX0_begin_23 kd_17 ln_17 rfl ⟨bI_nar _, fit_bI _⟩ ?_
  refine r_aload_n dX0_begin_26 rfl ?_
  refine r_iconst (v := 0) dX0_begin_27 (by decide) ?_
  refine r_pi fl_X0_25 dX0_begin_28 kd_17 ln_17 rfl ?_
  refine r_aload_n dX0_begin_31 rfl ?_
  refine r_iconst (v := 0) dX0_begin_32 (by decide) ?_
  refine r_pi fl_X0_28 dX0_begin_33 kd_17 ln_17 rfl ?_
  refine r_iconst (v := 0) dX0_begin_36 (by decide) ?_
  refine r_istore_n dX0_begin_37 (by decide) ?_
  refine r_lv (lv' := [(0, .ref 17), (1, .ref c), (2, .int (nI 0))]) (al_cons rfl (al_cons rfl (al_int rfl (by exact (cI 0)) al_nil))) ?_
  refine r_im (im' := bgT im c 0) bgT_in ?_
  refine WW.loop (fun t => [(0, .ref 17), (1, .ref c), (2, .int (nI t))]) (fun t => bgT im c t) (N := 5) ?_ ?_ 0 (Nat.zero_le _)
  · show WW _ _ _ _ _ _ _ 38 [(0, .ref 17), (1, .ref c), (2, .int (nI 5))] _ _ (bgT im c 5) _
    refine r_iload_n dX0_begin_38 rfl ?_
    refine r_iconst (v := 5) dX0_begin_39 (by decide) ?_
    refine r_icmp_ge_t (tgt := 75) dX0_begin_40 (by decide) (ix_le (cI 5) rfl (by omega) (by omega)) ?_
    exact r_vret dX0_begin_75 rfl rfl (Nat.le_refl _) (Nat.le_refl _)
  · intro t ht iht
    show WW _ _ _ _ _ _ _ 38 [(0, .ref 17), (1, .ref c), (2, .int (nI t))] _ _ (bgT im c t) _
    refine r_iload_n dX0_begin_38 rfl ?_
    refine r_iconst (v := 5) dX0_begin_39 (by decide) ?_
    refine r_icmp_ge_f (tgt := 75) dX0_begin_40 (by decide) (ix_nle (cI 5) rfl (by omega) (by omega)) ?_
    refine r_aload_n dX0_begin_43 rfl ?_
    refine r_getr fl_X0_31 dX0_begin_44 kd_17 ln_17 rfl rfl ?_
    refine r_iload_n dX0_begin_47 rfl ?_
    refine r_aload_n dX0_begin_48 rfl ?_
    refine r_getr fl_X0_47 dX0_begin_49 (kC0 hC) (lC0 hC) rfl (rrC7 hC) ?_
    refine r_iload_n dX0_begin_52 rfl ?_
    refine r_ialx (j := t) (x := im (c + 5) t) dX0_begin_53 (kC5 hC) (lC5 hC) rfl (by omega) (by decide) (by simp only [bgT]; grind) ?_
    refine r_as (j := t) dX0_begin_54 kd_18 ln_18 rfl (by omega) (by decide) ?_
    refine r_aload_n dX0_begin_55 rfl ?_
    refine r_getr fl_X0_35 dX0_begin_56 kd_17 ln_17 rfl rfl ?_
    refine r_iload_n dX0_begin_59 rfl ?_
    refine r_iconst (v := 0) dX0_begin_60 (by decide) ?_
    refine r_as (j := t) dX0_begin_61 kd_19 ln_19 rfl (by omega) (by decide) ?_
    refine r_aload_n dX0_begin_62 rfl ?_
    refine r_getr fl_X0_38 dX0_begin_63 kd_17 ln_17 rfl rfl ?_
    refine r_iload_n dX0_begin_66 rfl ?_
    refine r_iconst (v := 0) dX0_begin_67 (by decide) ?_
    refine r_as (j := t) dX0_begin_68 kd_20 ln_20 rfl (by omega) (by decide) ?_
    refine r_iinc dX0_begin_69 rfl (by decide) (ix_inc rfl) ?_
    refine r_goto (tgt := 38) dX0_begin_72 (by decide) ?_
    refine r_lv (lv' := [(0, .ref 17), (1, .ref c), (2, .int (nI (t + 1)))]) (al_cons rfl (al_cons rfl (al_cons rfl al_nil))) ?_
    refine r_im (im' := bgT im c (t + 1)) bgT_go ?_
    exact iht

set_option maxRecDepth 100000 in
set_option maxHeartbeats 4000000 in
theorem c_canMake {im : IM} {pl it c : Nat} (hc : CA im c) (t : Int32) : MT YX0_canMake 2 0 0 [.ref 17, .ref c, .int t] 137 im (RR pl it) (some (.int (bI (cmB im c t))), 137, im, RR pl it) := by
  obtain ⟨hC, W, T, S, hW, hW8, hT, hT6, hS, hS5⟩ := id hc
  have hcc : c = 3 ∨ c = 10 := hC
  refine mt_of (by decide +kernel) (Nat.le_of_ble_eq_true rfl) ?_
  show WW _ _ _ _ _ _ _ 0 [(0, .ref 17), (1, .ref c), (2, .int t)] [] _ _ _
  refine r_aload_n dX0_canMake_0 rfl ?_
  refine r_geti fl_X0_18 dX0_canMake_1 kd_17 ln_17 rfl ?_
  refine r_if_eq (tgt := 46) dX0_canMake_4 (by decide) (fun h4 => ?_) (fun h4 => ?_)
  · refine r_iconst (v := 0) dX0_canMake_46 (by decide) ?_
    exact r_zret dX0_canMake_47 rfl nar0 (by simp only [cmB, bI, Bool.not_true, Bool.not_false, Bool.true_and, Bool.false_and, Bool.and_true, Bool.and_false, Bool.or_false, Bool.or_true, Bool.false_or, Bool.true_or, decide_true, decide_false, eq_self, Bool.false_eq_true, Bool.true_eq_false, if_true, if_false, reduceIte, eq_true h4]) (Nat.le_refl _) (Nat.le_refl _)
  · refine r_aload_n dX0_canMake_7 rfl ?_
    refine r_iload_n dX0_canMake_8 rfl ?_
    refine r_V1s cv_X0_65 dX0_canMake_9 (c_hasTest hc t) ⟨by decide, by decide⟩ (kC0 hC) (lC0 hC) cl_2 (Nat.le_of_ble_eq_true rfl) ⟨Nat.le_refl _, Nat.le_refl _⟩ ?_
    refine r_bz_eq (tgt := 46) dX0_canMake_12 (by decide) (fun h12 => ?_) (fun h12 => ?_)
    · refine r_iconst (v := 0) dX0_canMake_46 (by decide) ?_
      exact r_zret dX0_canMake_47 rfl nar0 (by simp only [cmB, bI, Bool.not_true, Bool.not_false, Bool.true_and, Bool.false_and, Bool.and_true, Bool.and_false, Bool.or_false, Bool.or_true, Bool.false_or, Bool.true_or, decide_true, decide_false, eq_self, Bool.false_eq_true, Bool.true_eq_false, if_true, if_false, reduceIte, h4, h12]) (Nat.le_refl _) (Nat.le_refl _)
    · refine r_aload_n dX0_canMake_15 rfl ?_
      refine r_geti fl_X0_25 dX0_canMake_16 kd_17 ln_17 rfl ?_
      refine r_iload_n dX0_canMake_19 rfl ?_
      refine r_N2s cv_X0_51 dX0_canMake_20 (c_has (im 17 4) t) ⟨by decide, by decide⟩ (Nat.le_of_ble_eq_true rfl) ⟨Nat.le_refl _, Nat.le_refl _⟩ ?_
      refine r_bz_ne (tgt := 46) dX0_canMake_23 (by decide) (fun h23 => ?_) (fun h23 => ?_)
      · refine r_iconst (v := 0) dX0_canMake_46 (by decide) ?_
        exact r_zret dX0_canMake_47 rfl nar0 (by simp only [cmB, bI, Bool.not_true, Bool.not_false, Bool.true_and, Bool.false_and, Bool.and_true, Bool.and_false, Bool.or_false, Bool.or_true, Bool.false_or, Bool.true_or, decide_true, decide_false, eq_self, Bool.false_eq_true, Bool.true_eq_false, if_true, if_false, reduceIte, h4, h12, h23]) (Nat.le_refl _) (Nat.le_refl _)
      · refine r_aload_n dX0_canMake_26 rfl ?_
        refine r_geti fl_X0_22 dX0_canMake_27 kd_17 ln_17 rfl ?_
        refine r_if_eq (tgt := 42) dX0_canMake_30 (by decide) (fun h30 => ?_) (fun h30 => ?_)
        · refine r_iconst (v := 1) dX0_canMake_42 (by decide) ?_
          refine r_goto (tgt := 47) dX0_canMake_43 (by decide) ?_
          exact r_zret dX0_canMake_47 rfl nar1 (by simp only [cmB, bI, Bool.not_true, Bool.not_false, Bool.true_and, Bool.false_and, Bool.and_true, Bool.and_false, Bool.or_false, Bool.or_true, Bool.false_or, Bool.true_or, decide_true, decide_false, eq_self, Bool.false_eq_true, Bool.true_eq_false, if_true, if_false, reduceIte, h4, h12, h23, eq_true h30]) (Nat.le_refl _) (Nat.le_refl _)
        · obtain ⟨jw, hjw, hj⟩ := inB_nat (W := T) (by rw [← hT]; exact h12) (by omega)
          have htt : tn t = jw := by rw [hj, tn_nI (by omega)]
          refine r_aload_n dX0_canMake_33 rfl ?_
          refine r_getr fl_X0_69 dX0_canMake_34 (kC0 hC) (lC0 hC) rfl (rrC4 hC) ?_
          refine r_iload_n dX0_canMake_37 rfl ?_
          refine r_iald (j := jw) dX0_canMake_38 (kC3 hC) (lC3 hC) hj (by omega) (by decide) ?_
          refine r_if_ne (tgt := 46) dX0_canMake_39 (by decide) (fun h39 => ?_) (fun h39 => ?_)
          · refine r_iconst (v := 0) dX0_canMake_46 (by decide) ?_
            exact r_zret dX0_canMake_47 rfl nar0 (by simp only [cmB, htt, bI, Bool.not_true, Bool.not_false, Bool.true_and, Bool.false_and, Bool.and_true, Bool.and_false, Bool.or_false, Bool.or_true, Bool.false_or, Bool.true_or, decide_true, decide_false, eq_self, Bool.false_eq_true, Bool.true_eq_false, if_true, if_false, reduceIte, h4, h12, h23, h30, h39]) (Nat.le_refl _) (Nat.le_refl _)
          · refine r_iconst (v := 1) dX0_canMake_42 (by decide) ?_
            refine r_goto (tgt := 47) dX0_canMake_43 (by decide) ?_
            exact r_zret dX0_canMake_47 rfl nar1 (by simp only [cmB, htt, bI, Bool.not_true, Bool.not_false, Bool.true_and, Bool.false_and, Bool.and_true, Bool.and_false, Bool.or_false, Bool.or_true, Bool.false_or, Bool.true_or, decide_true, decide_false, eq_self, Bool.false_eq_true, Bool.true_eq_false, if_true, if_false, reduceIte, h4, h12, h23, h30, eq_true h39]) (Nat.le_refl _) (Nat.le_refl _)

set_option maxRecDepth 100000 in
set_option maxHeartbeats 4000000 in
theorem c_setHired {im : IM} {pl it : Nat} (s is : Int32) : MT YX0_setHired 1 0 0 [.ref 17, .int s, .int is] 137 im (RR pl it) (none, 137, shX im s is, RR pl it) := by
  refine mt_of (by decide +kernel) (Nat.le_of_ble_eq_true rfl) ?_
  show WW _ _ _ _ _ _ _ 0 [(0, .ref 17), (1, .int s), (2, .int is)] [] _ _ _
  refine r_iload_n dX0_setHired_0 rfl ?_
  refine r_iconst (v := 0) dX0_setHired_1 (by decide) ?_
  refine r_iconst (v := 4) dX0_setHired_2 (by decide) ?_
  refine r_N3s cv_X0_72 dX0_setHired_3 (c_within s 0 4) ⟨by decide, by decide⟩ (Nat.le_of_ble_eq_true rfl) ⟨Nat.le_refl _, Nat.le_refl _⟩ ?_
  refine r_bz_ne (tgt := 10) dX0_setHired_6 (by decide) (fun h6 => ?_) (fun h6 => ?_)
  · obtain ⟨jw, hjw, hj⟩ := inB_nat (W := 5) (w := s) h6 (by omega)
    have htt : tn s = jw := by rw [hj, tn_nI (by omega)]
    refine r_aload_n dX0_setHired_10 rfl ?_
    refine r_iload_n dX0_setHired_11 rfl ?_
    refine r_if_eq (tgt := 26) dX0_setHired_12 (by decide) (fun h12 => ?_) (fun h12 => ?_)
    · refine r_aload_n dX0_setHired_26 rfl ?_
      refine r_geti fl_X0_28 dX0_setHired_27 kd_17 ln_17 rfl ?_
      refine r_iconst (v := 1) dX0_setHired_30 (by decide) ?_
      refine r_iload_n dX0_setHired_31 rfl ?_
      refine r_ishl dX0_setHired_32 ?_
      refine r_iconst (v := (-1)) dX0_setHired_33 (by decide) ?_
      refine r_ixor dX0_setHired_34 ?_
      refine r_iand dX0_setHired_35 ?_
      refine r_pi fl_X0_28 dX0_setHired_36 kd_17 ln_17 rfl ?_
      refine r_aload_n dX0_setHired_39 rfl ?_
      refine r_getr fl_X0_38 dX0_setHired_40 kd_17 ln_17 rfl rfl ?_
      refine r_iload_n dX0_setHired_43 rfl ?_
      refine r_iconst (v := 0) dX0_setHired_44 (by decide) ?_
      refine r_as (j := jw) dX0_setHired_45 kd_20 ln_20 hj (by omega) (by decide) ?_
      exact r_vret dX0_setHired_46 rfl (by simp only [shX, hrV, eq_self, Bool.false_eq_true, Bool.true_eq_false, if_true, if_false, reduceIte, h6, eq_true h12, htt]) (Nat.le_refl _) (Nat.le_refl _)
    · refine r_aload_n dX0_setHired_15 rfl ?_
      refine r_geti fl_X0_28 dX0_setHired_16 kd_17 ln_17 rfl ?_
      refine r_iconst (v := 1) dX0_setHired_19 (by decide) ?_
      refine r_iload_n dX0_setHired_20 rfl ?_
      refine r_ishl dX0_setHired_21 ?_
      refine r_ior dX0_setHired_22 ?_
      refine r_goto (tgt := 36) dX0_setHired_23 (by decide) ?_
      refine r_pi fl_X0_28 dX0_setHired_36 kd_17 ln_17 rfl ?_
      refine r_aload_n dX0_setHired_39 rfl ?_
      refine r_getr fl_X0_38 dX0_setHired_40 kd_17 ln_17 rfl rfl ?_
      refine r_iload_n dX0_setHired_43 rfl ?_
      refine r_iconst (v := 0) dX0_setHired_44 (by decide) ?_
      refine r_as (j := jw) dX0_setHired_45 kd_20 ln_20 hj (by omega) (by decide) ?_
      exact r_vret dX0_setHired_46 rfl (by simp only [shX, hrV, eq_self, Bool.false_eq_true, Bool.true_eq_false, if_true, if_false, reduceIte, h6, h12, htt]) (Nat.le_refl _) (Nat.le_refl _)
  · exact r_vret dX0_setHired_9 rfl (by simp only [shX, hrV, eq_self, Bool.false_eq_true, Bool.true_eq_false, if_true, if_false, reduceIte, h6]) (Nat.le_refl _) (Nat.le_refl _)

set_option maxRecDepth 100000 in
set_option maxHeartbeats 4000000 in
theorem c_give {im : IM} {pl it : Nat} (s m : Int32) : MT YX0_give 1 0 0 [.ref 17, .int s, .int m] 137 im (RR pl it) (none, 137, giX im s m, RR pl it) := by
  refine mt_of (by decide +kernel) (Nat.le_of_ble_eq_true rfl) ?_
  show WW _ _ _ _ _ _ _ 0 [(0, .ref 17), (1, .int s), (2, .int m)] [] _ _ _
  refine r_iload_n dX0_give_0 rfl ?_
  refine r_iconst (v := 0) dX0_give_1 (by decide) ?_
  refine r_iconst (v := 4) dX0_give_2 (by decide) ?_
  refine r_N3s cv_X0_72 dX0_give_3 (c_within s 0 4) ⟨by decide, by decide⟩ (Nat.le_of_ble_eq_true rfl) ⟨Nat.le_refl _, Nat.le_refl _⟩ ?_
  refine r_bz_ne (tgt := 10) dX0_give_6 (by decide) (fun h6 => ?_) (fun h6 => ?_)
  · obtain ⟨jw, hjw, hj⟩ := inB_nat (W := 5) (w := s) h6 (by omega)
    have htt : tn s = jw := by rw [hj, tn_nI (by omega)]
    refine r_aload_n dX0_give_10 rfl ?_
    refine r_getr fl_X0_35 dX0_give_11 kd_17 ln_17 rfl rfl ?_
    refine r_iload_n dX0_give_14 rfl ?_
    refine r_aload_n dX0_give_15 rfl ?_
    refine r_getr fl_X0_35 dX0_give_16 kd_17 ln_17 rfl rfl ?_
    refine r_iload_n dX0_give_19 rfl ?_
    refine r_iald (j := jw) dX0_give_20 kd_19 ln_19 hj (by omega) (by decide) ?_
    refine r_iload_n dX0_give_21 rfl ?_
    refine r_iadd dX0_give_22 ?_
    refine r_ldc dX0_give_23 kn_X0_76 ?_
    refine r_min cv_X0_77 dX0_give_25 (by decide) (Nat.le_of_ble_eq_true rfl) ⟨Nat.le_refl _, Nat.le_refl _⟩ ?_
    refine r_as (j := jw) dX0_give_28 kd_19 ln_19 hj (by omega) (by decide) ?_
    exact r_vret dX0_give_29 rfl (by simp only [giX, eq_self, Bool.false_eq_true, Bool.true_eq_false, if_true, if_false, reduceIte, h6, htt]) (Nat.le_refl _) (Nat.le_refl _)
  · exact r_vret dX0_give_9 rfl (by simp only [giX, eq_self, Bool.false_eq_true, Bool.true_eq_false, if_true, if_false, reduceIte, h6]) (Nat.le_refl _) (Nat.le_refl _)

theorem giX_nat {im : IM} {j : Nat} {m : Int32} (h : j < 5) : giX im (nI j) m = st im 19 j (mnI (im 19 j + m) 999999) := by
  have h1 : inB (nI j) 0 4 = true := by
    unfold inB
    have a1 : ¬ nI j < 0 := nI_pos (by omega)
    have a2 : ¬ (4 : Int32) < nI j := nI_nlt (a := 4) (b := j) (by omega) (by omega)
    simp [a1, a2]
  unfold giX
  rw [if_pos h1, tn_nI (by omega)]
theorem pdT_a {im : IM} {c : Nat} (h : im 17 2 = 0) : st im 17 0 (im 17 0 + 1) = pdT im c 0 := by
  funext k j
  simp only [st_at, pdT, h, if_true]
  grind
theorem pdT_b {im : IM} {c : Nat} (h : ¬ im 17 2 = 0) : st (st im 17 0 (im 17 0 + 1)) 17 1 (im 17 1 + 1) = pdT im c 0 := by
  funext k j
  simp only [st_at, pdT, h, if_false]
  grind
theorem pdT_n {im : IM} {c t : Nat} (h : hasB (im 17 5) (nI t) = false) : pdT im c t = pdT im c (t + 1) := by
  funext k j
  simp only [pdT]
  by_cases hj : j = t
  · subst hj
    have h1 : pdG im c j = im 19 j := by simp only [pdG, h, Bool.false_eq_true, if_false]
    have h2 : pdS im c j = im 20 j := by simp only [pdS, h, Bool.false_eq_true, if_false]
    grind
  · grind
theorem pdT_l {im : IM} {c t : Nat} (h : hasB (im 17 5) (nI t) = true) (h2 : im 20 t + 1 < im c 10) : st (pdT im c t) 20 t (im 20 t + 1) = pdT im c (t + 1) := by
  funext k j
  simp only [st_at, pdT]
  by_cases hj : j = t
  · subst hj
    have h1 : pdG im c j = im 19 j := by simp only [pdG, h, h2, if_true]
    have h2 : pdS im c j = im 20 j + 1 := by simp only [pdS, h, h2, if_true]
    grind
  · grind
theorem pdT_p {im : IM} {c t : Nat} (h : hasB (im 17 5) (nI t) = true) (h2 : ¬ im 20 t + 1 < im c 10) : st (st (st (pdT im c t) 20 t (im 20 t + 1)) 19 t (mnI (im 19 t + im c 9) 999999)) 20 t 0 = pdT im c (t + 1) := by
  funext k j
  simp only [st_at, pdT]
  by_cases hj : j = t
  · subst hj
    have h1 : pdG im c j = mnI (im 19 j + im c 9) 999999 := by simp only [pdG, h, h2, if_true, if_false]
    have h2 : pdS im c j = 0 := by simp only [pdS, h, h2, if_true, if_false]
    grind
  · grind

set_option maxRecDepth 100000 in
set_option maxHeartbeats 4000000 in
theorem c_passDay {im : IM} {pl it c : Nat} (hc : CA im c) : MT YX0_passDay 2 0 0 [.ref 17, .ref c] 137 im (RR pl it) (none, 137, pdX im c, RR pl it) := by
  obtain ⟨hC, W, T, S, hW, hW8, hT, hT6, hS, hS5⟩ := id hc
  have hcc : c = 3 ∨ c = 10 := hC
  refine mt_of (by decide +kernel) (Nat.le_of_ble_eq_true rfl) ?_
  show WW _ _ _ _ _ _ _ 0 [(0, .ref 17), (1, .ref c)] [] _ _ _
  refine r_aload_n dX0_passDay_0 rfl ?_
  refine r_dup dX0_passDay_1 rfl ?_
  refine r_geti fl_X0_9 dX0_passDay_2 kd_17 ln_17 rfl ?_
  refine r_iconst (v := 1) dX0_passDay_5 (by decide) ?_
  refine r_iadd dX0_passDay_6 ?_
  refine r_pi fl_X0_9 dX0_passDay_7 kd_17 ln_17 rfl ?_
  refine r_aload_n dX0_passDay_10 rfl ?_
  refine r_getx (x := im 17 2) fl_X0_18 dX0_passDay_11 kd_17 ln_17 rfl (by simp only [st_at]; grind) ?_
  refine r_if_eq (tgt := 27) dX0_passDay_14 (by decide) (fun h14 => ?_) (fun h14 => ?_)
  · refine r_iconst (v := 0) dX0_passDay_27 (by decide) ?_
    refine r_istore_n dX0_passDay_28 (by decide) ?_
    refine r_lv (lv' := [(0, .ref 17), (1, .ref c), (2, .int (nI 0))]) (al_cons rfl (al_cons rfl (al_int rfl (by exact (cI 0)) al_nil))) ?_
    refine r_im (im' := pdT im c 0) (pdT_a h14) ?_
    refine WW.loop (fun t => [(0, .ref 17), (1, .ref c), (2, .int (nI t))]) (fun t => pdT im c t) (N := S) ?_ ?_ 0 (Nat.zero_le _)
    · show WW _ _ _ _ _ _ _ 29 [(0, .ref 17), (1, .ref c), (2, .int (nI S))] _ _ (pdT im c S) _
      refine r_iload_n dX0_passDay_29 rfl ?_
      refine r_aload_n dX0_passDay_30 rfl ?_
      refine r_getx (x := im c 6) fl_X0_48 dX0_passDay_31 (kC0 hC) (lC0 hC) rfl (by simp only [pdT]; grind) ?_
      refine r_icmp_ge_t (tgt := 96) dX0_passDay_34 (by decide) (ix_le hS rfl (by omega) (by omega)) ?_
      exact r_vret dX0_passDay_96 rfl (by rw [pdX, hS, tn_nI (by omega)]) (Nat.le_refl _) (Nat.le_refl _)
    · intro t ht iht
      show WW _ _ _ _ _ _ _ 29 [(0, .ref 17), (1, .ref c), (2, .int (nI t))] _ _ (pdT im c t) _
      refine r_iload_n dX0_passDay_29 rfl ?_
      refine r_aload_n dX0_passDay_30 rfl ?_
      refine r_getx (x := im c 6) fl_X0_48 dX0_passDay_31 (kC0 hC) (lC0 hC) rfl (by simp only [pdT]; grind) ?_
      refine r_icmp_ge_f (tgt := 96) dX0_passDay_34 (by decide) (ix_nle hS rfl (by omega) (by omega)) ?_
      refine r_aload_n dX0_passDay_37 rfl ?_
      refine r_getx (x := im 17 5) fl_X0_28 dX0_passDay_38 kd_17 ln_17 rfl (by simp only [pdT]; grind) ?_
      refine r_iload_n dX0_passDay_41 rfl ?_
      refine r_N2s cv_X0_51 dX0_passDay_42 (c_has (im 17 5) (nI t)) ⟨by decide, by decide⟩ (Nat.le_of_ble_eq_true rfl) ⟨Nat.le_refl _, Nat.le_refl _⟩ ?_
      refine r_bz_ne (tgt := 51) dX0_passDay_45 (by decide) (fun h45 => ?_) (fun h45 => ?_)
      · refine r_aload_n dX0_passDay_51 rfl ?_
        refine r_getr fl_X0_38 dX0_passDay_52 kd_17 ln_17 rfl rfl ?_
        refine r_iload_n dX0_passDay_55 rfl ?_
        refine r_dup2 dX0_passDay_56 rfl rfl ?_
        refine r_ialx (j := t) (x := im 20 t) dX0_passDay_57 kd_20 ln_20 rfl (by omega) (by decide) (by simp only [pdT]; grind) ?_
        refine r_iconst (v := 1) dX0_passDay_58 (by decide) ?_
        refine r_iadd dX0_passDay_59 ?_
        refine r_as (j := t) dX0_passDay_60 kd_20 ln_20 rfl (by omega) (by decide) ?_
        refine r_aload_n dX0_passDay_61 rfl ?_
        refine r_getr fl_X0_38 dX0_passDay_62 kd_17 ln_17 rfl rfl ?_
        refine r_iload_n dX0_passDay_65 rfl ?_
        refine r_ialx (j := t) (x := im 20 t + 1) dX0_passDay_66 kd_20 ln_20 rfl (by omega) (by decide) (by simp only [st_at]; grind) ?_
        refine r_aload_n dX0_passDay_67 rfl ?_
        refine r_getx (x := im c 10) fl_X0_55 dX0_passDay_68 (kC0 hC) (lC0 hC) rfl (by simp only [st_at, pdT]; grind) ?_
        refine r_icmp_lt (tgt := 90) dX0_passDay_71 (by decide) (fun h71 => ?_) (fun h71 => ?_)
        · refine r_iinc dX0_passDay_90 rfl (by decide) (ix_inc rfl) ?_
          refine r_goto (tgt := 29) dX0_passDay_93 (by decide) ?_
          refine r_lv (lv' := [(0, .ref 17), (1, .ref c), (2, .int (nI (t + 1)))]) (al_cons rfl (al_cons rfl (al_cons rfl al_nil))) ?_
          refine r_im (im' := pdT im c (t + 1)) (pdT_l h45 h71) ?_
          exact iht
        · refine r_aload_n dX0_passDay_74 rfl ?_
          refine r_iload_n dX0_passDay_75 rfl ?_
          refine r_aload_n dX0_passDay_76 rfl ?_
          refine r_getx (x := im c 9) fl_X0_58 dX0_passDay_77 (kC0 hC) (lC0 hC) rfl (by simp only [st_at, pdT]; grind) ?_
          refine r_V2n cv_X0_61 dX0_passDay_80 (by have q := c_give (pl := pl) (it := it) (im := st (pdT im c t) 20 t (im 20 t + 1)) (nI t) (im c 9); rw [giX_nat (by omega), show (st (pdT im c t) 20 t (im 20 t + 1)) 19 t = im 19 t by simp only [st_at, pdT]; grind] at q; exact q) ⟨by decide, by decide⟩ kd_17 ln_17 cl_0 (Nat.le_of_ble_eq_true rfl) ⟨Nat.le_refl _, Nat.le_refl _⟩ ?_
          refine r_aload_n dX0_passDay_83 rfl ?_
          refine r_getr fl_X0_38 dX0_passDay_84 kd_17 ln_17 rfl rfl ?_
          refine r_iload_n dX0_passDay_87 rfl ?_
          refine r_iconst (v := 0) dX0_passDay_88 (by decide) ?_
          refine r_as (j := t) dX0_passDay_89 kd_20 ln_20 rfl (by omega) (by decide) ?_
          refine r_iinc dX0_passDay_90 rfl (by decide) (ix_inc rfl) ?_
          refine r_goto (tgt := 29) dX0_passDay_93 (by decide) ?_
          refine r_lv (lv' := [(0, .ref 17), (1, .ref c), (2, .int (nI (t + 1)))]) (al_cons rfl (al_cons rfl (al_cons rfl al_nil))) ?_
          refine r_im (im' := pdT im c (t + 1)) (pdT_p h45 h71) ?_
          exact iht
      · refine r_goto (tgt := 90) dX0_passDay_48 (by decide) ?_
        refine r_iinc dX0_passDay_90 rfl (by decide) (ix_inc rfl) ?_
        refine r_goto (tgt := 29) dX0_passDay_93 (by decide) ?_
        refine r_lv (lv' := [(0, .ref 17), (1, .ref c), (2, .int (nI (t + 1)))]) (al_cons rfl (al_cons rfl (al_cons rfl al_nil))) ?_
        refine r_im (im' := pdT im c (t + 1)) (pdT_n h45) ?_
        exact iht
  · refine r_aload_n dX0_passDay_17 rfl ?_
    refine r_dup dX0_passDay_18 rfl ?_
    refine r_getx (x := im 17 1) fl_X0_15 dX0_passDay_19 kd_17 ln_17 rfl (by simp only [st_at]; grind) ?_
    refine r_iconst (v := 1) dX0_passDay_22 (by decide) ?_
    refine r_iadd dX0_passDay_23 ?_
    refine r_pi fl_X0_15 dX0_passDay_24 kd_17 ln_17 rfl ?_
    refine r_iconst (v := 0) dX0_passDay_27 (by decide) ?_
    refine r_istore_n dX0_passDay_28 (by decide) ?_
    refine r_lv (lv' := [(0, .ref 17), (1, .ref c), (2, .int (nI 0))]) (al_cons rfl (al_cons rfl (al_int rfl (by exact (cI 0)) al_nil))) ?_
    refine r_im (im' := pdT im c 0) (pdT_b h14) ?_
    refine WW.loop (fun t => [(0, .ref 17), (1, .ref c), (2, .int (nI t))]) (fun t => pdT im c t) (N := S) ?_ ?_ 0 (Nat.zero_le _)
    · show WW _ _ _ _ _ _ _ 29 [(0, .ref 17), (1, .ref c), (2, .int (nI S))] _ _ (pdT im c S) _
      refine r_iload_n dX0_passDay_29 rfl ?_
      refine r_aload_n dX0_passDay_30 rfl ?_
      refine r_getx (x := im c 6) fl_X0_48 dX0_passDay_31 (kC0 hC) (lC0 hC) rfl (by simp only [pdT]; grind) ?_
      refine r_icmp_ge_t (tgt := 96) dX0_passDay_34 (by decide) (ix_le hS rfl (by omega) (by omega)) ?_
      exact r_vret dX0_passDay_96 rfl (by rw [pdX, hS, tn_nI (by omega)]) (Nat.le_refl _) (Nat.le_refl _)
    · intro t ht iht
      show WW _ _ _ _ _ _ _ 29 [(0, .ref 17), (1, .ref c), (2, .int (nI t))] _ _ (pdT im c t) _
      refine r_iload_n dX0_passDay_29 rfl ?_
      refine r_aload_n dX0_passDay_30 rfl ?_
      refine r_getx (x := im c 6) fl_X0_48 dX0_passDay_31 (kC0 hC) (lC0 hC) rfl (by simp only [pdT]; grind) ?_
      refine r_icmp_ge_f (tgt := 96) dX0_passDay_34 (by decide) (ix_nle hS rfl (by omega) (by omega)) ?_
      refine r_aload_n dX0_passDay_37 rfl ?_
      refine r_getx (x := im 17 5) fl_X0_28 dX0_passDay_38 kd_17 ln_17 rfl (by simp only [pdT]; grind) ?_
      refine r_iload_n dX0_passDay_41 rfl ?_
      refine r_N2s cv_X0_51 dX0_passDay_42 (c_has (im 17 5) (nI t)) ⟨by decide, by decide⟩ (Nat.le_of_ble_eq_true rfl) ⟨Nat.le_refl _, Nat.le_refl _⟩ ?_
      refine r_bz_ne (tgt := 51) dX0_passDay_45 (by decide) (fun h45 => ?_) (fun h45 => ?_)
      · refine r_aload_n dX0_passDay_51 rfl ?_
        refine r_getr fl_X0_38 dX0_passDay_52 kd_17 ln_17 rfl rfl ?_
        refine r_iload_n dX0_passDay_55 rfl ?_
        refine r_dup2 dX0_passDay_56 rfl rfl ?_
        refine r_ialx (j := t) (x := im 20 t) dX0_passDay_57 kd_20 ln_20 rfl (by omega) (by decide) (by simp only [pdT]; grind) ?_
        refine r_iconst (v := 1) dX0_passDay_58 (by decide) ?_
        refine r_iadd dX0_passDay_59 ?_
        refine r_as (j := t) dX0_passDay_60 kd_20 ln_20 rfl (by omega) (by decide) ?_
        refine r_aload_n dX0_passDay_61 rfl ?_
        refine r_getr fl_X0_38 dX0_passDay_62 kd_17 ln_17 rfl rfl ?_
        refine r_iload_n dX0_passDay_65 rfl ?_
        refine r_ialx (j := t) (x := im 20 t + 1) dX0_passDay_66 kd_20 ln_20 rfl (by omega) (by decide) (by simp only [st_at]; grind) ?_
        refine r_aload_n dX0_passDay_67 rfl ?_
        refine r_getx (x := im c 10) fl_X0_55 dX0_passDay_68 (kC0 hC) (lC0 hC) rfl (by simp only [st_at, pdT]; grind) ?_
        refine r_icmp_lt (tgt := 90) dX0_passDay_71 (by decide) (fun h71 => ?_) (fun h71 => ?_)
        · refine r_iinc dX0_passDay_90 rfl (by decide) (ix_inc rfl) ?_
          refine r_goto (tgt := 29) dX0_passDay_93 (by decide) ?_
          refine r_lv (lv' := [(0, .ref 17), (1, .ref c), (2, .int (nI (t + 1)))]) (al_cons rfl (al_cons rfl (al_cons rfl al_nil))) ?_
          refine r_im (im' := pdT im c (t + 1)) (pdT_l h45 h71) ?_
          exact iht
        · refine r_aload_n dX0_passDay_74 rfl ?_
          refine r_iload_n dX0_passDay_75 rfl ?_
          refine r_aload_n dX0_passDay_76 rfl ?_
          refine r_getx (x := im c 9) fl_X0_58 dX0_passDay_77 (kC0 hC) (lC0 hC) rfl (by simp only [st_at, pdT]; grind) ?_
          refine r_V2n cv_X0_61 dX0_passDay_80 (by have q := c_give (pl := pl) (it := it) (im := st (pdT im c t) 20 t (im 20 t + 1)) (nI t) (im c 9); rw [giX_nat (by omega), show (st (pdT im c t) 20 t (im 20 t + 1)) 19 t = im 19 t by simp only [st_at, pdT]; grind] at q; exact q) ⟨by decide, by decide⟩ kd_17 ln_17 cl_0 (Nat.le_of_ble_eq_true rfl) ⟨Nat.le_refl _, Nat.le_refl _⟩ ?_
          refine r_aload_n dX0_passDay_83 rfl ?_
          refine r_getr fl_X0_38 dX0_passDay_84 kd_17 ln_17 rfl rfl ?_
          refine r_iload_n dX0_passDay_87 rfl ?_
          refine r_iconst (v := 0) dX0_passDay_88 (by decide) ?_
          refine r_as (j := t) dX0_passDay_89 kd_20 ln_20 rfl (by omega) (by decide) ?_
          refine r_iinc dX0_passDay_90 rfl (by decide) (ix_inc rfl) ?_
          refine r_goto (tgt := 29) dX0_passDay_93 (by decide) ?_
          refine r_lv (lv' := [(0, .ref 17), (1, .ref c), (2, .int (nI (t + 1)))]) (al_cons rfl (al_cons rfl (al_cons rfl al_nil))) ?_
          refine r_im (im' := pdT im c (t + 1)) (pdT_p h45 h71) ?_
          exact iht
      · refine r_goto (tgt := 90) dX0_passDay_48 (by decide) ?_
        refine r_iinc dX0_passDay_90 rfl (by decide) (ix_inc rfl) ?_
        refine r_goto (tgt := 29) dX0_passDay_93 (by decide) ?_
        refine r_lv (lv' := [(0, .ref 17), (1, .ref c), (2, .int (nI (t + 1)))]) (al_cons rfl (al_cons rfl (al_cons rfl al_nil))) ?_
        refine r_im (im' := pdT im c (t + 1)) (pdT_n h45) ?_
        exact iht

def HE (im : IM) : Prop := ∃ E : Nat, im 21 1 = nI E ∧ E < 20
theorem rem20 {x : Int32} {a : Nat} (h : x = nI a) (ha : a < 1000) : x - x / 20 * 20 = nI (a % 20) := by
  rw [h]
  exact pk_rem (d := 20) (by omega) (by omega) (by omega)
theorem past_ne {E : Nat} (h : E < 20) : 23 + 4 * E ≠ 17 := by omega

set_option maxRecDepth 100000 in
set_option maxHeartbeats 4000000 in
theorem c_remember {im : IM} {pl it : Nat} (hE0 : HE im) (h2 : b01 (im 17 2)) (h3 : b01 (im 17 3)) : MT YX5_remember 1 0 0 [.ref 21, .ref 17] 137 im (RR pl it) (none, 137, rmX im, RR pl it) := by
  obtain ⟨E, hE, hE20⟩ := id hE0
  have htE : tn (im 21 1) = E := by rw [hE, tn_nI (by omega)]
  refine mt_of (by decide +kernel) (Nat.le_of_ble_eq_true rfl) ?_
  show WW _ _ _ _ _ _ _ 0 [(0, .ref 21), (1, .ref 17)] [] _ _ _
  refine r_aload_n dX5_remember_0 rfl ?_
  refine r_getr fl_X5_11 dX5_remember_1 kd_21 ln_21 rfl rfl ?_
  refine r_aload_n dX5_remember_4 rfl ?_
  refine r_geti fl_X5_17 dX5_remember_5 kd_21 ln_21 rfl ?_
  refine r_aald (j := E) dX5_remember_8 kd_22 (Or.inl rfl) ln_22 hE (by omega) (by decide) (rr_past hE20) ?_
  refine r_aload_n dX5_remember_9 rfl ?_
  refine r_V1n cv_X5_25 dX5_remember_10 (c_copyFrom (isA_past hE20) isA_17 (past_ne hE20) h2 h3) ⟨by decide, by decide⟩ (kA0 (isA_past hE20)) (lA0 (isA_past hE20)) cl_0 (Nat.le_of_ble_eq_true rfl) ⟨Nat.le_refl _, Nat.le_refl _⟩ ?_
  refine r_aload_n dX5_remember_13 rfl ?_
  refine r_aload_n dX5_remember_14 rfl ?_
  refine r_getx (x := im 21 1) fl_X5_17 dX5_remember_15 kd_21 ln_21 rfl (by exact cpT_off (by omega)) ?_
  refine r_iconst (v := 1) dX5_remember_18 (by decide) ?_
  refine r_iadd dX5_remember_19 ?_
  refine r_bipush (v := 20) dX5_remember_20 (by decide) ?_
  refine r_irem dX5_remember_22 (by decide) ?_
  refine r_top (rem20 (ix_add hE (cI 1)) (by omega)) ?_
  refine r_pi fl_X5_17 dX5_remember_23 kd_21 ln_21 rfl ?_
  refine r_aload_n dX5_remember_26 rfl ?_
  refine r_aload_n dX5_remember_27 rfl ?_
  refine r_getx (x := im 21 2) fl_X5_21 dX5_remember_28 kd_21 ln_21 rfl (by simp only [st_at]; simp only [Nat.reduceEqDiff, and_false, and_true, if_false, if_true]; exact cpT_off (by omega)) ?_
  refine r_iconst (v := 1) dX5_remember_31 (by decide) ?_
  refine r_iadd dX5_remember_32 ?_
  refine r_bipush (v := 20) dX5_remember_33 (by decide) ?_
  refine r_min cv_X5_29 dX5_remember_35 (by decide) (Nat.le_of_ble_eq_true rfl) ⟨Nat.le_refl _, Nat.le_refl _⟩ ?_
  refine r_pi fl_X5_21 dX5_remember_38 kd_21 ln_21 rfl ?_
  exact r_vret dX5_remember_41 rfl (by rw [rmX, htE]) (Nat.le_refl _) (Nat.le_refl _)

set_option maxRecDepth 100000 in
set_option maxHeartbeats 4000000 in
theorem c_recall {im : IM} {pl it : Nat} (hE0 : HE im) (h2 : ∀ i, i < 20 → b01 (im (23 + 4 * i) 2) ∧ b01 (im (23 + 4 * i) 3)) : MT YX5_recall 1 0 0 [.ref 21, .ref 17] 137 im (RR pl it) (none, 137, rcX im, RR pl it) := by
  obtain ⟨E, hE, hE20⟩ := id hE0
  have htE : tn (im 21 1) = E := by rw [hE, tn_nI (by omega)]
  refine mt_of (by decide +kernel) (Nat.le_of_ble_eq_true rfl) ?_
  show WW _ _ _ _ _ _ _ 0 [(0, .ref 21), (1, .ref 17)] [] _ _ _
  refine r_aload_n dX5_recall_0 rfl ?_
  refine r_geti fl_X5_21 dX5_recall_1 kd_21 ln_21 rfl ?_
  refine r_if_ne (tgt := 8) dX5_recall_4 (by decide) (fun h4 => ?_) (fun h4 => ?_)
  · refine r_aload_n dX5_recall_8 rfl ?_
    refine r_aload_n dX5_recall_9 rfl ?_
    refine r_geti fl_X5_17 dX5_recall_10 kd_21 ln_21 rfl ?_
    refine r_bipush (v := 20) dX5_recall_13 (by decide) ?_
    refine r_iadd dX5_recall_15 ?_
    refine r_iconst (v := 1) dX5_recall_16 (by decide) ?_
    refine r_isub dX5_recall_17 ?_
    refine r_bipush (v := 20) dX5_recall_18 (by decide) ?_
    refine r_irem dX5_recall_20 (by decide) ?_
    refine r_top (y := nI ((E + 19) % 20)) (rem20 (ix_sub (ix_add hE (cI 20)) (cI 1) (by omega)) (by omega)) ?_
    refine r_pi fl_X5_17 dX5_recall_21 kd_21 ln_21 rfl ?_
    refine r_aload_n dX5_recall_24 rfl ?_
    refine r_dup dX5_recall_25 rfl ?_
    refine r_getx (x := im 21 2) fl_X5_21 dX5_recall_26 kd_21 ln_21 rfl (by simp only [st_at]; grind) ?_
    refine r_iconst (v := 1) dX5_recall_29 (by decide) ?_
    refine r_isub dX5_recall_30 ?_
    refine r_pi fl_X5_21 dX5_recall_31 kd_21 ln_21 rfl ?_
    refine r_aload_n dX5_recall_34 rfl ?_
    refine r_aload_n dX5_recall_35 rfl ?_
    refine r_getr fl_X5_11 dX5_recall_36 kd_21 ln_21 rfl rfl ?_
    refine r_aload_n dX5_recall_39 rfl ?_
    refine r_getx (x := nI ((E + 19) % 20)) fl_X5_17 dX5_recall_40 kd_21 ln_21 rfl (by simp only [st_at]; grind) ?_
    refine r_aald (j := (E + 19) % 20) dX5_recall_43 kd_22 (Or.inl rfl) ln_22 rfl (by omega) (by decide) (rr_past (show (E + 19) % 20 < 20 by omega)) ?_
    refine r_V1n cv_X5_25 dX5_recall_44 (c_copyFrom isA_17 (isA_past (show (E + 19) % 20 < 20 by omega)) (Ne.symm (past_ne (show (E + 19) % 20 < 20 by omega))) (by rw [st_row (by omega), st_row (by omega)]; exact (h2 _ (by omega)).1) (by rw [st_row (by omega), st_row (by omega)]; exact (h2 _ (by omega)).2)) ⟨by decide, by decide⟩ kd_17 ln_17 cl_0 (Nat.le_of_ble_eq_true rfl) ⟨Nat.le_refl _, Nat.le_refl _⟩ ?_
    exact r_vret dX5_recall_47 rfl (by simp only [rcX, htE, eq_self, Bool.false_eq_true, Bool.true_eq_false, if_true, if_false, reduceIte, h4]) (Nat.le_refl _) (Nat.le_refl _)
  · exact r_vret dX5_recall_7 rfl (by simp only [rcX, htE, eq_self, Bool.false_eq_true, Bool.true_eq_false, if_true, if_false, reduceIte, eq_true h4]) (Nat.le_refl _) (Nat.le_refl _)

set_option maxRecDepth 100000 in
set_option maxHeartbeats 4000000 in
theorem c_forget {im : IM} {pl it : Nat}  : MT YX5_forget 0 0 0 [.ref 21] 137 im (RR pl it) (none, 137, st im 21 2 0, RR pl it) := by
  refine mt_of (by decide +kernel) (Nat.le_of_ble_eq_true rfl) ?_
  show WW _ _ _ _ _ _ _ 0 [(0, .ref 21)] [] _ _ _
  refine r_aload_n dX5_forget_0 rfl ?_
  refine r_iconst (v := 0) dX5_forget_1 (by decide) ?_
  refine r_pi fl_X5_21 dX5_forget_2 kd_21 ln_21 rfl ?_
  exact r_vret dX5_forget_5 rfl rfl (Nat.le_refl _) (Nat.le_refl _)

def HB (im : IM) : Prop := ∃ B : Nat, im 106 1 = nI B ∧ B ≤ 15
def HH (im : IM) : Prop := ∃ B : Nat, im 103 2 = nI B ∧ B ≤ 6

set_option maxRecDepth 100000 in
set_option maxHeartbeats 4000000 in
theorem c_bookAdd {im : IM} {pl it : Nat} (hB0 : HB im) (x : Int32) : MT YX1_add 0 0 0 [.ref 106, .int x] 137 im (RR pl it) (some (.int (bI (decide (im 106 1 < 15)))), 137, bkX im x, RR pl it) := by
  obtain ⟨B, hB, hB15⟩ := id hB0
  have htB : tn (im 106 1) = B := by rw [hB, tn_nI (by omega)]
  refine mt_of (by decide +kernel) (Nat.le_of_ble_eq_true rfl) ?_
  show WW _ _ _ _ _ _ _ 0 [(0, .ref 106), (1, .int x)] [] _ _ _
  refine r_aload_n dX1_add_0 rfl ?_
  refine r_geti fl_X1_15 dX1_add_1 kd_106 ln_106 rfl ?_
  refine r_bipush (v := 15) dX1_add_4 (by decide) ?_
  refine r_icmp_lt (tgt := 11) dX1_add_6 (by decide) (fun h6 => ?_) (fun h6 => ?_)
  · have hBl : B < 15 := lt_of_nI hB (cI 15) h6 (by omega) (by omega)
    refine r_aload_n dX1_add_11 rfl ?_
    refine r_getr fl_X1_9 dX1_add_12 kd_106 ln_106 rfl rfl ?_
    refine r_aload_n dX1_add_15 rfl ?_
    refine r_geti fl_X1_15 dX1_add_16 kd_106 ln_106 rfl ?_
    refine r_iload_n dX1_add_19 rfl ?_
    refine r_as (j := B) dX1_add_20 kd_107 ln_107 hB (by omega) (by decide) ?_
    refine r_aload_n dX1_add_21 rfl ?_
    refine r_dup dX1_add_22 rfl ?_
    refine r_getx (x := im 106 1) fl_X1_15 dX1_add_23 kd_106 ln_106 rfl (by simp only [st_at]; grind) ?_
    refine r_iconst (v := 1) dX1_add_26 (by decide) ?_
    refine r_iadd dX1_add_27 ?_
    refine r_pi fl_X1_15 dX1_add_28 kd_106 ln_106 rfl ?_
    refine r_iconst (v := 1) dX1_add_31 (by decide) ?_
    exact r_zret dX1_add_32 rfl nar1 (by simp only [bkX, bI, decide_true, decide_false, eq_self, Bool.false_eq_true, Bool.true_eq_false, if_true, if_false, reduceIte, h6, htB]) (Nat.le_refl _) (Nat.le_refl _)
  · refine r_iconst (v := 0) dX1_add_9 (by decide) ?_
    exact r_zret dX1_add_10 rfl nar0 (by simp only [bkX, bI, decide_true, decide_false, eq_self, Bool.false_eq_true, Bool.true_eq_false, if_true, if_false, reduceIte, h6]) (Nat.le_refl _) (Nat.le_refl _)

theorem foF_go {row : Nat → Int32} {x : Int32} {t m : Nat} (h : row t = x) : foF row x t (m + 1) = foF row x (t + 1) m := by rw [foF, if_pos h]
theorem foF_st {row : Nat → Int32} {x : Int32} {t m : Nat} (h : ¬ row t = x) : foF row x t (m + 1) = nI t := by rw [foF, if_neg h]

set_option maxRecDepth 100000 in
set_option maxHeartbeats 4000000 in
theorem c_firstOther {im : IM} {pl it : Nat} (hB0 : HB im) (x : Int32) : MT YX1_firstOtherThan 0 0 0 [.ref 106, .int x] 137 im (RR pl it) (some (.int (foF (im 107) x 0 (tn (im 106 1)))), 137, im, RR pl it) := by
  obtain ⟨B, hB, hB15⟩ := id hB0
  rw [hB, tn_nI (by omega)]
  refine mt_of (by decide +kernel) (Nat.le_of_ble_eq_true rfl) ?_
  show WW _ _ _ _ _ _ _ 0 [(0, .ref 106), (1, .int x)] [] _ _ _
  have key : ∀ m t, t + m = B → WW YX1_firstOtherThan 0 0 0 (some (.int (foF (im 107) x t m)), 137, im, RR pl it) 0 0 2 [(0, .ref 106), (1, .int x), (2, .int (nI t))] [] 137 im (RR pl it) := by
    intro m
    induction m with
    | zero =>
      intro t ht
      refine r_iload_n dX1_firstOtherThan_2 rfl ?_
      refine r_aload_n dX1_firstOtherThan_3 rfl ?_
      refine r_geti fl_X1_15 dX1_firstOtherThan_4 kd_106 ln_106 rfl ?_
      refine r_icmp_ge_t (tgt := 28) dX1_firstOtherThan_7 (by decide) (ix_le hB rfl (by omega) (by omega)) ?_
      refine r_iconst (v := (-1)) dX1_firstOtherThan_28 (by decide) ?_
      exact r_iret dX1_firstOtherThan_29 rfl rfl (Nat.le_refl _) (Nat.le_refl _)
    | succ m ih =>
      intro t ht
      refine r_iload_n dX1_firstOtherThan_2 rfl ?_
      refine r_aload_n dX1_firstOtherThan_3 rfl ?_
      refine r_geti fl_X1_15 dX1_firstOtherThan_4 kd_106 ln_106 rfl ?_
      refine r_icmp_ge_f (tgt := 28) dX1_firstOtherThan_7 (by decide) (ix_nle hB rfl (by omega) (by omega)) ?_
      refine r_aload_n dX1_firstOtherThan_10 rfl ?_
      refine r_getr fl_X1_9 dX1_firstOtherThan_11 kd_106 ln_106 rfl rfl ?_
      refine r_iload_n dX1_firstOtherThan_14 rfl ?_
      refine r_iald (j := t) dX1_firstOtherThan_15 kd_107 ln_107 rfl (by omega) (by decide) ?_
      refine r_iload_n dX1_firstOtherThan_16 rfl ?_
      refine r_icmp_eq (tgt := 22) dX1_firstOtherThan_17 (by decide) (fun h17 => ?_) (fun h17 => ?_)
      · refine r_iinc dX1_firstOtherThan_22 rfl (by decide) (ix_inc rfl) ?_
        refine r_goto (tgt := 2) dX1_firstOtherThan_25 (by decide) ?_
        rw [foF_go h17]
        refine r_lv (lv' := [(0, .ref 106), (1, .int x), (2, .int (nI (t + 1)))]) (al_cons rfl (al_cons rfl (al_cons rfl al_nil))) ?_
        exact ih (t + 1) (by omega)
      · refine r_iload_n dX1_firstOtherThan_20 rfl ?_
        exact r_iret dX1_firstOtherThan_21 rfl (by rw [foF_st h17]) (Nat.le_refl _) (Nat.le_refl _)
  refine r_iconst (v := 0) dX1_firstOtherThan_0 (by decide) ?_
  refine r_istore_n dX1_firstOtherThan_1 (by decide) ?_
  refine r_lv (lv' := [(0, .ref 106), (1, .int x), (2, .int (nI 0))]) (al_cons rfl (al_cons rfl (al_cons rfl al_nil))) ?_
  exact key B 0 (by omega)

set_option maxRecDepth 100000 in
set_option maxHeartbeats 4000000 in
theorem c_draw {im : IM} {pl it : Nat} (x : Int32) : MT YX3_draw 0 0 0 [.ref 108, .int x] 137 im (RR pl it) (some (.int (drV (drS (im 108 0)) x)), 137, st im 108 0 (drS (im 108 0)), RR pl it) := by
  refine mt_of (by decide +kernel) (Nat.le_of_ble_eq_true rfl) ?_
  show WW _ _ _ _ _ _ _ 0 [(0, .ref 108), (1, .int x)] [] _ _ _
  refine r_aload_n dX3_draw_0 rfl ?_
  refine r_aload_n dX3_draw_1 rfl ?_
  refine r_geti fl_X3_7 dX3_draw_2 kd_108 ln_108 rfl ?_
  refine r_i2l dX3_draw_5 ?_
  refine r_ldc2 dX3_draw_6 kn_X3_13 ?_
  refine r_lmul dX3_draw_9 ?_
  refine r_ldc2 dX3_draw_10 kn_X3_15 ?_
  refine r_ladd dX3_draw_13 ?_
  refine r_ldc2 dX3_draw_14 kn_X3_17 ?_
  refine r_lrem dX3_draw_17 (by decide) ?_
  refine r_l2i dX3_draw_18 ?_
  refine r_pi fl_X3_7 dX3_draw_19 kd_108 ln_108 rfl ?_
  refine r_iload_n dX3_draw_22 rfl ?_
  refine r_if_le (tgt := 38) dX3_draw_23 (by decide) (fun h23 => ?_) (fun h23 => ?_)
  · refine r_iconst (v := 0) dX3_draw_38 (by decide) ?_
    exact r_iret dX3_draw_39 rfl (by simp only [drV, eq_self, Bool.false_eq_true, Bool.true_eq_false, if_true, if_false, reduceIte, h23]; rfl) (Nat.le_refl _) (Nat.le_refl _)
  · refine r_aload_n dX3_draw_26 rfl ?_
    refine r_getx (x := drS (im 108 0)) fl_X3_7 dX3_draw_27 kd_108 ln_108 rfl (st_same _ _ _ _) ?_
    refine r_ldc dX3_draw_30 kn_X3_19 ?_
    refine r_idiv dX3_draw_32 (by decide) ?_
    refine r_iload_n dX3_draw_33 rfl ?_
    refine r_irem dX3_draw_34 (fun q => h23 (by rw [q]; decide)) ?_
    refine r_goto (tgt := 39) dX3_draw_35 (by decide) ?_
    exact r_iret dX3_draw_39 rfl (by simp only [drV, eq_self, Bool.false_eq_true, Bool.true_eq_false, if_true, if_false, reduceIte, h23]; rfl) (Nat.le_refl _) (Nat.le_refl _)

set_option maxRecDepth 100000 in
set_option maxHeartbeats 4000000 in
theorem c_hearAdd {im : IM} {pl it : Nat} (hB0 : HH im) (x g : Int32) (hg : b01 g) : MT YX4_add 0 0 0 [.ref 103, .int x, .int g] 137 im (RR pl it) (some (.int (bI (decide (im 103 2 < 6)))), 137, hsX im x g, RR pl it) := by
  obtain ⟨B, hB, hB15⟩ := id hB0
  have htB : tn (im 103 2) = B := by rw [hB, tn_nI (by omega)]
  refine mt_of (by decide +kernel) (Nat.le_of_ble_eq_true rfl) ?_
  show WW _ _ _ _ _ _ _ 0 [(0, .ref 103), (1, .int x), (2, .int g)] [] _ _ _
  refine r_aload_n dX4_add_0 rfl ?_
  refine r_geti fl_X4_19 dX4_add_1 kd_103 ln_103 rfl ?_
  refine r_bipush (v := 6) dX4_add_4 (by decide) ?_
  refine r_icmp_lt (tgt := 11) dX4_add_6 (by decide) (fun h6 => ?_) (fun h6 => ?_)
  · have hBl : B < 6 := lt_of_nI hB (cI 6) h6 (by omega) (by omega)
    refine r_aload_n dX4_add_11 rfl ?_
    refine r_getr fl_X4_9 dX4_add_12 kd_103 ln_103 rfl rfl ?_
    refine r_aload_n dX4_add_15 rfl ?_
    refine r_geti fl_X4_19 dX4_add_16 kd_103 ln_103 rfl ?_
    refine r_iload_n dX4_add_19 rfl ?_
    refine r_as (j := B) dX4_add_20 kd_104 ln_104 hB (by omega) (by decide) ?_
    refine r_aload_n dX4_add_21 rfl ?_
    refine r_getr fl_X4_15 dX4_add_22 kd_103 ln_103 rfl rfl ?_
    refine r_aload_n dX4_add_25 rfl ?_
    refine r_getx (x := im 103 2) fl_X4_19 dX4_add_26 kd_103 ln_103 rfl (by simp only [st_at]; grind) ?_
    refine r_iload_n dX4_add_29 rfl ?_
    refine r_zs (j := B) dX4_add_30 kd_105 ln_105 hB (by omega) (by decide) (b01_nar hg).1 ?_
    refine r_aload_n dX4_add_31 rfl ?_
    refine r_dup dX4_add_32 rfl ?_
    refine r_getx (x := im 103 2) fl_X4_19 dX4_add_33 kd_103 ln_103 rfl (by simp only [st_at]; grind) ?_
    refine r_iconst (v := 1) dX4_add_36 (by decide) ?_
    refine r_iadd dX4_add_37 ?_
    refine r_pi fl_X4_19 dX4_add_38 kd_103 ln_103 rfl ?_
    refine r_iconst (v := 1) dX4_add_41 (by decide) ?_
    exact r_zret dX4_add_42 rfl nar1 (by simp only [hsX, bI, decide_true, decide_false, eq_self, Bool.false_eq_true, Bool.true_eq_false, if_true, if_false, reduceIte, h6, htB]) (Nat.le_refl _) (Nat.le_refl _)
  · refine r_iconst (v := 0) dX4_add_9 (by decide) ?_
    exact r_zret dX4_add_10 rfl nar0 (by simp only [hsX, bI, decide_true, decide_false, eq_self, Bool.false_eq_true, Bool.true_eq_false, if_true, if_false, reduceIte, h6]) (Nat.le_refl _) (Nat.le_refl _)

set_option maxRecDepth 100000 in
set_option maxHeartbeats 4000000 in
theorem c_gotMoney {n : Nat} {im : IM} {rm : RM} (x r e : Int32) : MT YX4_gotMoney 0 0 0 [.int x, .int r, .int e] n im rm (some (.int (bI (gmB x r e))), n, im, rm) := by
  refine mt_of (by decide +kernel) (Nat.le_of_ble_eq_true rfl) ?_
  show WW _ _ _ _ _ _ _ 0 [(0, .int x), (1, .int r), (2, .int e)] [] _ _ _
  refine r_iload_n dX4_gotMoney_0 rfl ?_
  refine r_if_le (tgt := 15) dX4_gotMoney_1 (by decide) (fun h1 => ?_) (fun h1 => ?_)
  · refine r_iconst (v := 0) dX4_gotMoney_15 (by decide) ?_
    exact r_zret dX4_gotMoney_16 rfl nar0 (by simp only [gmB, bI, decide_true, decide_false, Bool.not_true, Bool.not_false, Bool.and_true, Bool.true_and, Bool.false_and, Bool.and_false, eq_self, Bool.false_eq_true, Bool.true_eq_false, if_true, if_false, reduceIte, h1]) (Nat.le_refl _) (Nat.le_refl _)
  · refine r_iload_n dX4_gotMoney_4 rfl ?_
    refine r_iload_n dX4_gotMoney_5 rfl ?_
    refine r_irem dX4_gotMoney_6 (fun q => h1 (by rw [q]; decide)) ?_
    refine r_iload_n dX4_gotMoney_7 rfl ?_
    refine r_icmp_ne (tgt := 15) dX4_gotMoney_8 (by decide) (fun h8 => ?_) (fun h8 => ?_)
    · refine r_iconst (v := 0) dX4_gotMoney_15 (by decide) ?_
      exact r_zret dX4_gotMoney_16 rfl nar0 (by simp only [gmB, bI, decide_true, decide_false, Bool.not_true, Bool.not_false, Bool.and_true, Bool.true_and, Bool.false_and, Bool.and_false, eq_self, Bool.false_eq_true, Bool.true_eq_false, if_true, if_false, reduceIte, h1, h8]) (Nat.le_refl _) (Nat.le_refl _)
    · refine r_iconst (v := 1) dX4_gotMoney_11 (by decide) ?_
      refine r_goto (tgt := 16) dX4_gotMoney_12 (by decide) ?_
      exact r_zret dX4_gotMoney_16 rfl nar1 (by simp only [gmB, bI, decide_true, decide_false, Bool.not_true, Bool.not_false, Bool.and_true, Bool.true_and, Bool.false_and, Bool.and_false, eq_self, Bool.false_eq_true, Bool.true_eq_false, if_true, if_false, reduceIte, h1, eq_true h8]) (Nat.le_refl _) (Nat.le_refl _)

