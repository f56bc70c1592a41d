theorem rc_119 {im : IM} {it : Nat} (h : lxX im = nI (112 + 7)) : rcF im it = (false, rfX im 3 (im 1 3)) := by rw [rcF, if_pos h]
theorem rc_116 {im : IM} {it : Nat} (h : lxX im = nI (112 + 4)) : rcF im it = rtF im it := by rw [rcF, if_neg (by rw [h]; decide), if_pos h]
theorem rc_115 {im : IM} {it : Nat} (h : lxX im = nI (112 + 3)) : rcF im it = rsF im it := by rw [rcF, if_neg (by rw [h]; decide), if_neg (by rw [h]; decide), if_pos h]
theorem rc_112 {im : IM} {it : Nat} (h : lxX im = nI (112 + 0)) : rcF im it = ryF im it := by rw [rcF, if_neg (by rw [h]; decide), if_neg (by rw [h]; decide), if_neg (by rw [h]; decide), if_pos h]
theorem rc_else {im : IM} {it : Nat} {x : Int32} (h : lxX im = x) (h1 : ¬ x = nI 119 := by decide) (h2 : ¬ x = nI 116 := by decide) (h3 : ¬ x = nI 115 := by decide) (h4 : ¬ x = nI 112 := by decide) : rcF im it = (false, rfX im 1 (im 1 3)) := by
  rw [rcF, if_neg (by rw [h]; exact h1), if_neg (by rw [h]; exact h2), if_neg (by rw [h]; exact h3), if_neg (by rw [h]; exact h4)]
theorem rc_out {im : IM} {it : Nat} (h : (lxX im).toInt < ((112 : Nat) : Int) ∨ ((112 + 8 - 1 : Nat) : Int) < (lxX im).toInt) : rcF im it = (false, rfX im 1 (im 1 3)) := by
  have key : ∀ c : Nat, 112 ≤ c → c ≤ 119 → ¬ lxX im = nI c := by
    intro c h1 h2 q
    rw [q, nI_toInt (by omega)] at h
    omega
  exact rc_else rfl (key 119 (by omega) (by omega)) (key 116 (by omega) (by omega)) (key 115 (by omega) (by omega)) (key 112 (by omega) (by omega))
theorem rc_113 {im : IM} {it : Nat} (h : lxX im = nI (112 + 1)) : rcF im it = (false, rfX im 1 (im 1 3)) := rc_else h
theorem rc_114 {im : IM} {it : Nat} (h : lxX im = nI (112 + 2)) : rcF im it = (false, rfX im 1 (im 1 3)) := rc_else h
theorem rc_117 {im : IM} {it : Nat} (h : lxX im = nI (112 + 5)) : rcF im it = (false, rfX im 1 (im 1 3)) := rc_else h
theorem rc_118 {im : IM} {it : Nat} (h : lxX im = nI (112 + 6)) : rcF im it = (false, rfX im 1 (im 1 3)) := rc_else h

set_option maxRecDepth 100000 in
set_option maxHeartbeats 4000000 in
theorem c_readClause {im : IM} {pl it : Nat} (hc : RC im it) : MT YX7_readClause 4 0 0 [.ref 1] 137 im (RR pl it) (some (.int (bI (rcF im it).1)), 137, (rcF im it).2, RR pl it) := by
  have hr := hc.1
  obtain ⟨hI, W, T, S, hW, hW8, hT, hT6, hS, hS5⟩ := id hc.2
  have hi2 : it ≠ 1 := isC_ne2 hI
  refine mt_of (by decide +kernel) (Nat.le_of_ble_eq_true rfl) ?_
  show WW _ _ _ _ _ _ _ 0 [(0, .ref 1)] [] _ _ _
  refine r_aload_n dX7_readClause_0 rfl ?_
  refine r_V0s cv_X7_74 dX7_readClause_1 (c_letter hr) ⟨by decide, by decide⟩ kd_1 ln_1 cl_7 (Nat.le_of_ble_eq_true rfl) ⟨Nat.le_refl _, Nat.le_refl _⟩ ?_
  rcases sw_split (x := (lxX im)) (lo := 112) (n := 8) (by decide) (by decide) with hsw | ⟨jsw, hjsw, hsw⟩
  · refine r_tabOut (tgt := 77) dX7_readClause_4 (sw_out hsw) (by decide) ?_
    refine r_aload_n dX7_readClause_77 rfl ?_
    refine r_iconst (v := 1) dX7_readClause_78 (by decide) ?_
    refine r_aload_n dX7_readClause_79 rfl ?_
    refine r_geti fl_X7_22 dX7_readClause_80 kd_1 ln_1 rfl ?_
    refine r_V2s cv_X7_81 dX7_readClause_83 (c_refuse 1 (im 1 3)) ⟨by decide, by decide⟩ kd_1 ln_1 cl_7 (Nat.le_of_ble_eq_true rfl) ⟨Nat.le_refl _, Nat.le_refl _⟩ ?_
    exact r_zret dX7_readClause_86 rfl nar0 (by rw [rc_out hsw]; rfl) (Nat.le_refl _) (Nat.le_refl _)
  · match jsw, hjsw, hsw with
    | 0, _, hsw =>
      refine r_tabIn (off := 68) (tgt := 72) dX7_readClause_4 (sw_a hsw (by decide) (by decide)) (sw_b hsw (by decide) (by decide)) (sw_c hsw (by decide) (by decide)) (by decide) ?_
      refine r_aload_n dX7_readClause_72 rfl ?_
      refine r_V0s cv_X7_97 dX7_readClause_73 (c_readPay hc) ⟨by decide, by decide⟩ kd_1 ln_1 cl_7 (Nat.le_of_ble_eq_true rfl) ⟨Nat.le_refl _, Nat.le_refl _⟩ ?_
      exact r_zret dX7_readClause_76 rfl (bI_nar _) (by rw [rc_112 hsw]) (Nat.le_refl _) (Nat.le_refl _)
    | 1, _, hsw =>
      refine r_tabIn (off := 73) (tgt := 77) dX7_readClause_4 (sw_a hsw (by decide) (by decide)) (sw_b hsw (by decide) (by decide)) (sw_c hsw (by decide) (by decide)) (by decide) ?_
      refine r_aload_n dX7_readClause_77 rfl ?_
      refine r_iconst (v := 1) dX7_readClause_78 (by decide) ?_
      refine r_aload_n dX7_readClause_79 rfl ?_
      refine r_geti fl_X7_22 dX7_readClause_80 kd_1 ln_1 rfl ?_
      refine r_V2s cv_X7_81 dX7_readClause_83 (c_refuse 1 (im 1 3)) ⟨by decide, by decide⟩ kd_1 ln_1 cl_7 (Nat.le_of_ble_eq_true rfl) ⟨Nat.le_refl _, Nat.le_refl _⟩ ?_
      exact r_zret dX7_readClause_86 rfl nar0 (by rw [rc_113 hsw]; rfl) (Nat.le_refl _) (Nat.le_refl _)
    | 2, _, hsw =>
      refine r_tabIn (off := 73) (tgt := 77) dX7_readClause_4 (sw_a hsw (by decide) (by decide)) (sw_b hsw (by decide) (by decide)) (sw_c hsw (by decide) (by decide)) (by decide) ?_
      refine r_aload_n dX7_readClause_77 rfl ?_
      refine r_iconst (v := 1) dX7_readClause_78 (by decide) ?_
      refine r_aload_n dX7_readClause_79 rfl ?_
      refine r_geti fl_X7_22 dX7_readClause_80 kd_1 ln_1 rfl ?_
      refine r_V2s cv_X7_81 dX7_readClause_83 (c_refuse 1 (im 1 3)) ⟨by decide, by decide⟩ kd_1 ln_1 cl_7 (Nat.le_of_ble_eq_true rfl) ⟨Nat.le_refl _, Nat.le_refl _⟩ ?_
      exact r_zret dX7_readClause_86 rfl nar0 (by rw [rc_114 hsw]; rfl) (Nat.le_refl _) (Nat.le_refl _)
    | 3, _, hsw =>
      refine r_tabIn (off := 63) (tgt := 67) dX7_readClause_4 (sw_a hsw (by decide) (by decide)) (sw_b hsw (by decide) (by decide)) (sw_c hsw (by decide) (by decide)) (by decide) ?_
      refine r_aload_n dX7_readClause_67 rfl ?_
      refine r_V0s cv_X7_94 dX7_readClause_68 (c_readServant hc) ⟨by decide, by decide⟩ kd_1 ln_1 cl_7 (Nat.le_of_ble_eq_true rfl) ⟨Nat.le_refl _, Nat.le_refl _⟩ ?_
      exact r_zret dX7_readClause_71 rfl (bI_nar _) (by rw [rc_115 hsw]) (Nat.le_refl _) (Nat.le_refl _)
    | 4, _, hsw =>
      refine r_tabIn (off := 58) (tgt := 62) dX7_readClause_4 (sw_a hsw (by decide) (by decide)) (sw_b hsw (by decide) (by decide)) (sw_c hsw (by decide) (by decide)) (by decide) ?_
      refine r_aload_n dX7_readClause_62 rfl ?_
      refine r_V0s cv_X7_91 dX7_readClause_63 (c_readTest hc) ⟨by decide, by decide⟩ kd_1 ln_1 cl_7 (Nat.le_of_ble_eq_true rfl) ⟨Nat.le_refl _, Nat.le_refl _⟩ ?_
      exact r_zret dX7_readClause_66 rfl (bI_nar _) (by rw [rc_116 hsw]) (Nat.le_refl _) (Nat.le_refl _)
    | 5, _, hsw =>
      refine r_tabIn (off := 73) (tgt := 77) dX7_readClause_4 (sw_a hsw (by decide) (by decide)) (sw_b hsw (by decide) (by decide)) (sw_c hsw (by decide) (by decide)) (by decide) ?_
      refine r_aload_n dX7_readClause_77 rfl ?_
      refine r_iconst (v := 1) dX7_readClause_78 (by decide) ?_
      refine r_aload_n dX7_readClause_79 rfl ?_
      refine r_geti fl_X7_22 dX7_readClause_80 kd_1 ln_1 rfl ?_
      refine r_V2s cv_X7_81 dX7_readClause_83 (c_refuse 1 (im 1 3)) ⟨by decide, by decide⟩ kd_1 ln_1 cl_7 (Nat.le_of_ble_eq_true rfl) ⟨Nat.le_refl _, Nat.le_refl _⟩ ?_
      exact r_zret dX7_readClause_86 rfl nar0 (by rw [rc_117 hsw]; rfl) (Nat.le_refl _) (Nat.le_refl _)
    | 6, _, hsw =>
      refine r_tabIn (off := 73) (tgt := 77) dX7_readClause_4 (sw_a hsw (by decide) (by decide)) (sw_b hsw (by decide) (by decide)) (sw_c hsw (by decide) (by decide)) (by decide) ?_
      refine r_aload_n dX7_readClause_77 rfl ?_
      refine r_iconst (v := 1) dX7_readClause_78 (by decide) ?_
      refine r_aload_n dX7_readClause_79 rfl ?_
      refine r_geti fl_X7_22 dX7_readClause_80 kd_1 ln_1 rfl ?_
      refine r_V2s cv_X7_81 dX7_readClause_83 (c_refuse 1 (im 1 3)) ⟨by decide, by decide⟩ kd_1 ln_1 cl_7 (Nat.le_of_ble_eq_true rfl) ⟨Nat.le_refl _, Nat.le_refl _⟩ ?_
      exact r_zret dX7_readClause_86 rfl nar0 (by rw [rc_118 hsw]; rfl) (Nat.le_refl _) (Nat.le_refl _)
    | 7, _, hsw =>
      refine r_tabIn (off := 48) (tgt := 52) dX7_readClause_4 (sw_a hsw (by decide) (by decide)) (sw_b hsw (by decide) (by decide)) (sw_c hsw (by decide) (by decide)) (by decide) ?_
      refine r_aload_n dX7_readClause_52 rfl ?_
      refine r_iconst (v := 3) dX7_readClause_53 (by decide) ?_
      refine r_aload_n dX7_readClause_54 rfl ?_
      refine r_geti fl_X7_22 dX7_readClause_55 kd_1 ln_1 rfl ?_
      refine r_V2s cv_X7_81 dX7_readClause_58 (c_refuse 3 (im 1 3)) ⟨by decide, by decide⟩ kd_1 ln_1 cl_7 (Nat.le_of_ble_eq_true rfl) ⟨Nat.le_refl _, Nat.le_refl _⟩ ?_
      exact r_zret dX7_readClause_61 rfl nar0 (by rw [rc_119 hsw]; rfl) (Nat.le_refl _) (Nat.le_refl _)
    | j + 8, hj, _ => exact absurd hj (by omega)

theorem wa_go {im : IM} {it : Nat} (h1 : (tkF im 119).1 = true) (h2 : (rwF (tkF im 119).2 it).1 = true) (h3 : (tkF (rwF (tkF im 119).2 it).2 44).1 = true) (h4 : (rwF (tkF (rwF (tkF im 119).2 it).2 44).2 it).1 = true) : waF im it = wmF it 6 (rwF (tkF (rwF (tkF im 119).2 it).2 44).2 it).2 := by
  rw [waF, if_neg (by rw [h1]; decide), if_neg (by rw [h2]; decide), waI, if_neg (by rw [h3]; decide), if_neg (by rw [h4]; decide)]
set_option maxRecDepth 100000 in
set_option maxHeartbeats 4000000 in
theorem c_readWays {im : IM} {pl it : Nat} (hc : RC im it) : MT YX7_readWays 3 0 0 [.ref 1] 137 im (RR pl it) (some (.int (bI (waF im it).1)), 137, (waF im it).2, RR pl it) := by
  have hI := hc.2.1
  refine mt_of (by decide +kernel) (Nat.le_of_ble_eq_true rfl) ?_
  show WW _ _ _ _ _ _ _ 0 [(0, .ref 1)] [] _ _ _
  have key : ∀ m i im, i + m = 8 → RC im it → WW YX7_readWays 3 0 0 (some (.int (bI (wmF it m im).1)), 137, (wmF it m im).2, RR pl it) 0 0 36 [(0, .ref 1), (1, .int (nI i))] [] 137 im (RR pl it) := by
    clear hc im
    intro m
    induction m with
    | zero =>
      intro i im hi hc
      refine r_iload_n dX7_readWays_36 rfl ?_
      refine r_bipush (v := 8) dX7_readWays_37 (by decide) ?_
      refine r_icmp_ge_t (tgt := 75) dX7_readWays_39 (by decide) (ix_le (cI 8) rfl (by omega) (by omega)) ?_
      refine r_aload_n dX7_readWays_75 rfl ?_
      refine r_bipush (v := 59) dX7_readWays_76 (by decide) ?_
      refine r_V1s cv_X7_67 dX7_readWays_78 (c_take hc.1 59 (by decide)) ⟨by decide, by decide⟩ kd_1 ln_1 cl_7 (Nat.le_of_ble_eq_true rfl) ⟨Nat.le_refl _, Nat.le_refl _⟩ ?_
      exact r_zret dX7_readWays_81 rfl (bI_nar _) rfl (Nat.le_refl _) (Nat.le_refl _)
    | succ m ih =>
      intro i im hi hc
      refine r_iload_n dX7_readWays_36 rfl ?_
      refine r_bipush (v := 8) dX7_readWays_37 (by decide) ?_
      refine r_icmp_ge_f (tgt := 75) dX7_readWays_39 (by decide) (ix_nle (cI 8) rfl (by omega) (by omega)) ?_
      refine r_aload_n dX7_readWays_42 rfl ?_
      refine r_V0s cv_X7_74 dX7_readWays_43 (c_letter hc.1) ⟨by decide, by decide⟩ kd_1 ln_1 cl_7 (Nat.le_of_ble_eq_true rfl) ⟨Nat.le_refl _, Nat.le_refl _⟩ ?_
      refine r_bipush (v := 44) dX7_readWays_46 (by decide) ?_
      refine r_icmp_ne (tgt := 75) dX7_readWays_48 (by decide) (fun h48 => ?_) (fun h48 => ?_)
      · refine r_aload_n dX7_readWays_75 rfl ?_
        refine r_bipush (v := 59) dX7_readWays_76 (by decide) ?_
        refine r_V1s cv_X7_67 dX7_readWays_78 (c_take hc.1 59 (by decide)) ⟨by decide, by decide⟩ kd_1 ln_1 cl_7 (Nat.le_of_ble_eq_true rfl) ⟨Nat.le_refl _, Nat.le_refl _⟩ ?_
        exact r_zret dX7_readWays_81 rfl (bI_nar _) (by simp only [wmF, bI, eq_self, Bool.false_eq_true, Bool.true_eq_false, if_true, if_false, reduceIte, h48]) (Nat.le_refl _) (Nat.le_refl _)
      · refine r_aload_n dX7_readWays_51 rfl ?_
        refine r_bipush (v := 44) dX7_readWays_52 (by decide) ?_
        refine r_V1s cv_X7_67 dX7_readWays_54 (c_take hc.1 44 (by decide)) ⟨by decide, by decide⟩ kd_1 ln_1 cl_7 (Nat.le_of_ble_eq_true rfl) ⟨Nat.le_refl _, Nat.le_refl _⟩ ?_
        refine r_bz_eq (tgt := 67) dX7_readWays_57 (by decide) (fun h57 => ?_) (fun h57 => ?_)
        · refine r_iconst (v := 0) dX7_readWays_67 (by decide) ?_
          exact r_zret dX7_readWays_68 rfl nar0 (by simp only [wmF, bI, eq_self, Bool.false_eq_true, Bool.true_eq_false, if_true, if_false, reduceIte, eq_true h48, h57]) (Nat.le_refl _) (Nat.le_refl _)
        · refine r_aload_n dX7_readWays_60 rfl ?_
          refine r_V0s cv_X7_71 dX7_readWays_61 (c_readWay (hc.tk (by decide))) ⟨by decide, by decide⟩ kd_1 ln_1 cl_7 (Nat.le_of_ble_eq_true rfl) ⟨Nat.le_refl _, Nat.le_refl _⟩ ?_
          refine r_bz_ne (tgt := 69) dX7_readWays_64 (by decide) (fun h64 => ?_) (fun h64 => ?_)
          · refine r_iinc dX7_readWays_69 rfl (by decide) (ix_inc rfl) ?_
            refine r_goto (tgt := 36) dX7_readWays_72 (by decide) ?_
            rw [wm_go h48 (by rw [h57]; decide) (by rw [h64]; decide)]
            refine r_lv (lv' := [(0, .ref 1), (1, .int (nI (i + 1)))]) (al_cons rfl (al_cons rfl al_nil)) ?_
            exact ih (i + 1) _ (by omega) (hc.tk (by decide)).rwy
          · refine r_iconst (v := 0) dX7_readWays_67 (by decide) ?_
            exact r_zret dX7_readWays_68 rfl nar0 (by simp only [wmF, bI, eq_self, Bool.false_eq_true, Bool.true_eq_false, if_true, if_false, reduceIte, eq_true h48, h57, h64]) (Nat.le_refl _) (Nat.le_refl _)
  refine r_aload_n dX7_readWays_0 rfl ?_
  refine r_bipush (v := 119) dX7_readWays_1 (by decide) ?_
  refine r_V1s cv_X7_67 dX7_readWays_3 (c_take hc.1 119 (by decide)) ⟨by decide, by decide⟩ kd_1 ln_1 cl_7 (Nat.le_of_ble_eq_true rfl) ⟨Nat.le_refl _, Nat.le_refl _⟩ ?_
  refine r_bz_eq (tgt := 32) dX7_readWays_6 (by decide) (fun h6 => ?_) (fun h6 => ?_)
  · refine r_iconst (v := 0) dX7_readWays_32 (by decide) ?_
    exact r_zret dX7_readWays_33 rfl nar0 (by simp only [waF, waI, bI, eq_self, Bool.false_eq_true, Bool.true_eq_false, if_true, if_false, reduceIte, h6]) (Nat.le_refl _) (Nat.le_refl _)
  · refine r_aload_n dX7_readWays_9 rfl ?_
    refine r_V0s cv_X7_71 dX7_readWays_10 (c_readWay (hc.tk (by decide))) ⟨by decide, by decide⟩ kd_1 ln_1 cl_7 (Nat.le_of_ble_eq_true rfl) ⟨Nat.le_refl _, Nat.le_refl _⟩ ?_
    refine r_bz_eq (tgt := 32) dX7_readWays_13 (by decide) (fun h13 => ?_) (fun h13 => ?_)
    · refine r_iconst (v := 0) dX7_readWays_32 (by decide) ?_
      exact r_zret dX7_readWays_33 rfl nar0 (by simp only [waF, waI, bI, eq_self, Bool.false_eq_true, Bool.true_eq_false, if_true, if_false, reduceIte, h6, h13]) (Nat.le_refl _) (Nat.le_refl _)
    · refine r_aload_n dX7_readWays_16 rfl ?_
      refine r_bipush (v := 44) dX7_readWays_17 (by decide) ?_
      refine r_V1s cv_X7_67 dX7_readWays_19 (c_take ((hc.tk (by decide)).rwy).1 44 (by decide)) ⟨by decide, by decide⟩ kd_1 ln_1 cl_7 (Nat.le_of_ble_eq_true rfl) ⟨Nat.le_refl _, Nat.le_refl _⟩ ?_
      refine r_bz_eq (tgt := 32) dX7_readWays_22 (by decide) (fun h22 => ?_) (fun h22 => ?_)
      · refine r_iconst (v := 0) dX7_readWays_32 (by decide) ?_
        exact r_zret dX7_readWays_33 rfl nar0 (by simp only [waF, waI, bI, eq_self, Bool.false_eq_true, Bool.true_eq_false, if_true, if_false, reduceIte, h6, h13, h22]) (Nat.le_refl _) (Nat.le_refl _)
      · refine r_aload_n dX7_readWays_25 rfl ?_
        refine r_V0s cv_X7_71 dX7_readWays_26 (c_readWay ((hc.tk (by decide)).rwy.tk (by decide))) ⟨by decide, by decide⟩ kd_1 ln_1 cl_7 (Nat.le_of_ble_eq_true rfl) ⟨Nat.le_refl _, Nat.le_refl _⟩ ?_
        refine r_bz_ne (tgt := 34) dX7_readWays_29 (by decide) (fun h29 => ?_) (fun h29 => ?_)
        · refine r_iconst (v := 2) dX7_readWays_34 (by decide) ?_
          refine r_istore_n dX7_readWays_35 (by decide) ?_
          refine r_lv (lv' := [(0, .ref 1), (1, .int (nI 2))]) (al_cons rfl (al_cons rfl al_nil)) ?_
          rw [wa_go h6 h13 h22 h29]
          exact key 6 2 _ (by omega) (((hc.tk (by decide)).rwy).tk (by decide)).rwy
        · refine r_iconst (v := 0) dX7_readWays_32 (by decide) ?_
          exact r_zret dX7_readWays_33 rfl nar0 (by simp only [waF, waI, bI, eq_self, Bool.false_eq_true, Bool.true_eq_false, if_true, if_false, reduceIte, h6, h13, h22, h29]) (Nat.le_refl _) (Nat.le_refl _)

set_option maxRecDepth 100000 in
set_option maxHeartbeats 4000000 in
theorem c_clear {n : Nat} {im : IM} {rm : RM} {k : Nat} (hC : isC k) (hn : k < n) : MT YX2_clear 0 0 0 [.ref k] n im rm (none, n, clC im k, rm) := by
  refine mt_of (by decide +kernel) (Nat.le_of_ble_eq_true rfl) ?_
  show WW _ _ _ _ _ _ _ 0 [(0, .ref k)] [] _ _ _
  refine r_aload_n dX2_clear_0 rfl ?_
  refine r_iconst (v := 0) dX2_clear_1 (by decide) ?_
  refine r_pi fl_X2_9 dX2_clear_2 (kC0 hC) hn rfl ?_
  refine r_aload_n dX2_clear_5 rfl ?_
  refine r_iconst (v := 0) dX2_clear_6 (by decide) ?_
  refine r_pi fl_X2_19 dX2_clear_7 (kC0 hC) hn rfl ?_
  refine r_aload_n dX2_clear_10 rfl ?_
  refine r_iconst (v := 0) dX2_clear_11 (by decide) ?_
  refine r_pi fl_X2_31 dX2_clear_12 (kC0 hC) hn rfl ?_
  refine r_aload_n dX2_clear_15 rfl ?_
  refine r_iconst (v := 0) dX2_clear_16 (by decide) ?_
  refine r_pi fl_X2_40 dX2_clear_17 (kC0 hC) hn rfl ?_
  refine r_aload_n dX2_clear_20 rfl ?_
  refine r_iconst (v := 0) dX2_clear_21 (by decide) ?_
  refine r_pi fl_X2_43 dX2_clear_22 (kC0 hC) hn rfl ?_
  exact r_vret dX2_clear_25 rfl rfl (Nat.le_refl _) (Nat.le_refl _)

set_option maxRecDepth 100000 in
set_option maxHeartbeats 4000000 in
theorem c_exchange {im : IM} {pl it x : Nat} (hI : isC it) : MT YX7_exchange 0 0 0 [.ref 1, .ref x] 137 im (RR pl it) (some (.ref it), 137, im, RR pl x) := by
  refine mt_of (by decide +kernel) (Nat.le_of_ble_eq_true rfl) ?_
  show WW _ _ _ _ _ _ _ 0 [(0, .ref 1), (1, .ref x)] [] _ _ _
  refine r_aload_n dX7_exchange_0 rfl ?_
  refine r_getr fl_X7_28 dX7_exchange_1 kd_1 ln_1 rfl rfl ?_
  refine r_astore_n dX7_exchange_4 (by decide) ?_
  refine r_aload_n dX7_exchange_5 rfl ?_
  refine r_aload_n dX7_exchange_6 rfl ?_
  refine r_putr fl_X7_28 dX7_exchange_7 kd_1 ln_1 rfl ?_
  refine r_rm upQ_it ?_
  refine r_aload_n dX7_exchange_10 rfl ?_
  exact r_aret dX7_exchange_11 rfl rfl (Nat.le_refl _) (Nat.le_refl _)

