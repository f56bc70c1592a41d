set_option maxRecDepth 100000 in
set_option maxHeartbeats 4000000 in
theorem m_look {im : IM} {pl it L a : Nat} (hr : MR im L a) : MT YX9_look 0 0 0 [.ref 120] 137 im (RR pl it) (some (.int (zlk im)), 137, im, RR pl it) := by
  obtain ⟨hL, hL2, p, hp, hp2, hpa⟩ := id hr
  have htL : tn (im 120 1) = L := by rw [hL, tn_nI (by omega)]
  have htp : tn (im 120 22) = p := by rw [hp, tn_nI (by omega)]
  refine mt_of (by decide +kernel) (Nat.le_of_ble_eq_true rfl) ?_
  show WW _ _ _ _ _ _ _ 0 [(0, .ref 120)] [] _ _ _
  refine r_aload_n dX9_look_0 rfl ?_
  refine r_geti fl_X9_72 dX9_look_1 kd_120 ln_120 rfl ?_
  refine r_aload_n dX9_look_4 rfl ?_
  refine r_geti fl_X9_68 dX9_look_5 kd_120 ln_120 rfl ?_
  refine r_icmp_ge (tgt := 23) dX9_look_8 (by decide) (fun h8 => ?_) (fun h8 => ?_)
  · refine r_iconst (v := (-1)) dX9_look_23 (by decide) ?_
    exact r_iret dX9_look_24 rfl (by simp only [zlk, htp, eq_self, Bool.false_eq_true, Bool.true_eq_false, if_true, if_false, reduceIte, h8]) (Nat.le_refl _) (Nat.le_refl _)
  · have hpl : p < L := gt_of_nI hL hp h8 (by omega) (by omega)
    refine r_aload_n dX9_look_11 rfl ?_
    refine r_getr fl_X9_7 dX9_look_12 kd_120 ln_120 rfl rfl ?_
    refine r_aload_n dX9_look_15 rfl ?_
    refine r_geti fl_X9_72 dX9_look_16 kd_120 ln_120 rfl ?_
    refine r_iald (j := p) dX9_look_19 kd_121 ln_121 hp (by omega) (by decide) ?_
    refine r_goto (tgt := 24) dX9_look_20 (by decide) ?_
    exact r_iret dX9_look_24 rfl (by simp only [zlk, htp, eq_self, Bool.false_eq_true, Bool.true_eq_false, if_true, if_false, reduceIte, h8]) (Nat.le_refl _) (Nat.le_refl _)

set_option maxRecDepth 100000 in
set_option maxHeartbeats 4000000 in
theorem m_skips {im : IM} {pl it L a : Nat} (hr : MR im L a) : MT YX9_skips 1 0 0 [.ref 120] 137 im (RR pl it) (none, 137, zsk im, RR pl it) := by
  obtain ⟨hL, hL2, p, hp, hp2, hpa⟩ := id hr
  refine mt_of (by decide +kernel) (Nat.le_of_ble_eq_true rfl) ?_
  show WW _ _ _ _ _ _ _ 0 [(0, .ref 120)] [] _ _ _
  by_cases h0 : im 120 23 = 0
  · have key : ∀ m q, q + m = L → q ≤ L → WW YX9_skips 1 0 0 (none, 137, st im 120 22 (nI (sk (im 121) L q)), RR pl it) 0 0 0 [(0, .ref 120)] [] 137 (st im 120 22 (nI q)) (RR pl it) := by
      intro m
      induction m with
      | zero =>
        intro q hq hq2
        refine r_aload_n dX9_skips_0 rfl ?_
        refine r_getx (x := 0) fl_X9_75 dX9_skips_1 kd_120 ln_120 rfl (by rw [st_ne (by omega)]; exact h0) ?_
        refine r_if_ne_f (tgt := 29) dX9_skips_4 (by decide) (by decide) ?_
        refine r_aload_n dX9_skips_7 rfl ?_
        refine r_V0s cv_X9_78 dX9_skips_8 (m_look (a := 0) (im := st im 120 22 (nI q)) ⟨by rw [st_ne (by omega)]; exact hL, hL2, q, st_same _ _ _ _, hq2, fun _ => Nat.zero_le _⟩) ⟨by decide, by decide⟩ kd_120 ln_120 cl_9 (Nat.le_of_ble_eq_true rfl) ⟨Nat.le_refl _, Nat.le_refl _⟩ ?_
        refine r_bipush (v := 32) dX9_skips_11 (by decide) ?_
        refine r_icmp_ne_t (tgt := 29) dX9_skips_13 (by decide) (by rw [zlk_lt (L := L) (p := q) (by rw [st_ne (by omega)]; exact hL) hL2 (st_same _ _ _ _) hq2, if_neg (by omega)]; decide) ?_
        exact r_vret dX9_skips_29 rfl (by rw [sk_at (by omega)]) (Nat.le_refl _) (Nat.le_refl _)
      | succ m ih =>
        intro q hq hq2
        refine r_aload_n dX9_skips_0 rfl ?_
        refine r_getx (x := 0) fl_X9_75 dX9_skips_1 kd_120 ln_120 rfl (by rw [st_ne (by omega)]; exact h0) ?_
        refine r_if_ne_f (tgt := 29) dX9_skips_4 (by decide) (by decide) ?_
        refine r_aload_n dX9_skips_7 rfl ?_
        refine r_V0s cv_X9_78 dX9_skips_8 (m_look (a := 0) (im := st im 120 22 (nI q)) ⟨by rw [st_ne (by omega)]; exact hL, hL2, q, st_same _ _ _ _, hq2, fun _ => Nat.zero_le _⟩) ⟨by decide, by decide⟩ kd_120 ln_120 cl_9 (Nat.le_of_ble_eq_true rfl) ⟨Nat.le_refl _, Nat.le_refl _⟩ ?_
        refine r_bipush (v := 32) dX9_skips_11 (by decide) ?_
        refine r_icmp_ne (tgt := 29) dX9_skips_13 (by decide) (fun h13 => ?_) (fun h13 => ?_)
        · exact r_vret dX9_skips_29 rfl (by rw [sk_at (fun z => h13 (by rw [zlk_lt (L := L) (p := q) (by rw [st_ne (by omega)]; exact hL) hL2 (st_same _ _ _ _) hq2, if_pos z.1, st_row (by decide)]; exact z.2))]) (Nat.le_refl _) (Nat.le_refl _)
        · refine r_aload_n dX9_skips_16 rfl ?_
          refine r_dup dX9_skips_17 rfl ?_
          refine r_getx (x := nI q) fl_X9_72 dX9_skips_18 kd_120 ln_120 rfl (st_same _ _ _ _) ?_
          refine r_iconst (v := 1) dX9_skips_21 (by decide) ?_
          refine r_iadd dX9_skips_22 ?_
          refine r_pi fl_X9_72 dX9_skips_23 kd_120 ln_120 rfl ?_
          refine r_goto (tgt := 0) dX9_skips_26 (by decide) ?_
          rw [zlk_lt (L := L) (p := q) (by rw [st_ne (by omega)]; exact hL) hL2 (st_same _ _ _ _) hq2] at h13
          have hql : q < L := by
            apply Nat.lt_of_not_le
            intro z
            rw [if_neg (by omega)] at h13
            exact absurd h13 (by decide)
          rw [if_pos hql, st_row (by decide)] at h13
          rw [sk_go hql h13]
          refine r_im (im' := st im 120 22 (nI (q + 1))) (by rw [st_st, nI_1]) ?_
          exact ih (q + 1) (by omega) (by omega)
    have h := key (L - p) p (by omega) hp2
    rw [← hp, st_same2 rfl] at h
    rw [zsk_L hL hL2 hp hp2, if_pos h0]
    exact h
  · skip
    refine r_aload_n dX9_skips_0 rfl ?_
    refine r_geti fl_X9_75 dX9_skips_1 kd_120 ln_120 rfl ?_
    refine r_if_ne_t (tgt := 29) dX9_skips_4 (by decide) h0 ?_
    exact r_vret dX9_skips_29 rfl (by rw [zsk, if_neg h0]) (Nat.le_refl _) (Nat.le_refl _)

set_option maxRecDepth 100000 in
set_option maxHeartbeats 4000000 in
theorem m_fails {im : IM} {pl it : Nat} (k : Int32) : MT YX9_fails 0 0 0 [.ref 120, .int k] 137 im (RR pl it) (none, 137, zfl im k, RR pl it) := by
  refine mt_of (by decide +kernel) (Nat.le_of_ble_eq_true rfl) ?_
  show WW _ _ _ _ _ _ _ 0 [(0, .ref 120), (1, .int k)] [] _ _ _
  refine r_aload_n dX9_fails_0 rfl ?_
  refine r_aload_n dX9_fails_1 rfl ?_
  refine r_geti fl_X9_75 dX9_fails_2 kd_120 ln_120 rfl ?_
  refine r_if_ne (tgt := 12) dX9_fails_5 (by decide) (fun h5 => ?_) (fun h5 => ?_)
  · refine r_aload_n dX9_fails_12 rfl ?_
    refine r_geti fl_X9_75 dX9_fails_13 kd_120 ln_120 rfl ?_
    refine r_pi fl_X9_75 dX9_fails_16 kd_120 ln_120 rfl ?_
    exact r_vret dX9_fails_19 rfl (by simp only [zfl, eq_self, Bool.false_eq_true, Bool.true_eq_false, if_true, if_false, reduceIte, h5]) (Nat.le_refl _) (Nat.le_refl _)
  · refine r_iload_n dX9_fails_8 rfl ?_
    refine r_goto (tgt := 16) dX9_fails_9 (by decide) ?_
    refine r_pi fl_X9_75 dX9_fails_16 kd_120 ln_120 rfl ?_
    exact r_vret dX9_fails_19 rfl (by simp only [zfl, eq_self, Bool.false_eq_true, Bool.true_eq_false, if_true, if_false, reduceIte, eq_true h5]) (Nat.le_refl _) (Nat.le_refl _)

set_option maxRecDepth 100000 in
set_option maxHeartbeats 4000000 in
theorem m_word {im : IM} {pl it L a : Nat} (hr : MR im L a) (x : Int32) : MT YX9_word 2 0 0 [.ref 120, .int x] 137 im (RR pl it) (none, 137, zwd im x, RR pl it) := by
  refine mt_of (by decide +kernel) (Nat.le_of_ble_eq_true rfl) ?_
  show WW _ _ _ _ _ _ _ 0 [(0, .ref 120), (1, .int x)] [] _ _ _
  refine r_aload_n dX9_word_0 rfl ?_
  refine r_V0n cv_X9_82 dX9_word_1 (m_skips (im := im) hr) ⟨by decide, by decide⟩ kd_120 ln_120 cl_9 (Nat.le_of_ble_eq_true rfl) ⟨Nat.le_refl _, Nat.le_refl _⟩ ?_
  refine r_aload_n dX9_word_4 rfl ?_
  refine r_geti fl_X9_75 dX9_word_5 kd_120 ln_120 rfl ?_
  refine r_if_ne (tgt := 37) dX9_word_8 (by decide) (fun h8 => ?_) (fun h8 => ?_)
  · exact r_vret dX9_word_37 rfl (by simp only [zwd, eq_self, Bool.false_eq_true, Bool.true_eq_false, if_true, if_false, reduceIte, h8]) (Nat.le_refl _) (Nat.le_refl _)
  · refine r_aload_n dX9_word_11 rfl ?_
    refine r_V0s cv_X9_78 dX9_word_12 (m_look (im := zsk im) hr.skz) ⟨by decide, by decide⟩ kd_120 ln_120 cl_9 (Nat.le_of_ble_eq_true rfl) ⟨Nat.le_refl _, Nat.le_refl _⟩ ?_
    refine r_iload_n dX9_word_15 rfl ?_
    refine r_icmp_ne (tgt := 32) dX9_word_16 (by decide) (fun h16 => ?_) (fun h16 => ?_)
    · refine r_aload_n dX9_word_32 rfl ?_
      refine r_iconst (v := 1) dX9_word_33 (by decide) ?_
      refine r_V1n cv_X9_85 dX9_word_34 (m_fails (im := zsk im) 1) ⟨by decide, by decide⟩ kd_120 ln_120 cl_9 (Nat.le_of_ble_eq_true rfl) ⟨Nat.le_refl _, Nat.le_refl _⟩ ?_
      exact r_vret dX9_word_37 rfl (by simp only [zwd, eq_self, Bool.false_eq_true, Bool.true_eq_false, if_true, if_false, reduceIte, eq_true h8, h16]) (Nat.le_refl _) (Nat.le_refl _)
    · refine r_aload_n dX9_word_19 rfl ?_
      refine r_dup dX9_word_20 rfl ?_
      refine r_geti fl_X9_72 dX9_word_21 kd_120 ln_120 rfl ?_
      refine r_iconst (v := 1) dX9_word_24 (by decide) ?_
      refine r_iadd dX9_word_25 ?_
      refine r_pi fl_X9_72 dX9_word_26 kd_120 ln_120 rfl ?_
      refine r_goto (tgt := 37) dX9_word_29 (by decide) ?_
      exact r_vret dX9_word_37 rfl (by simp only [zwd, eq_self, Bool.false_eq_true, Bool.true_eq_false, if_true, if_false, reduceIte, eq_true h8, eq_true h16]) (Nat.le_refl _) (Nat.le_refl _)

set_option maxRecDepth 100000 in
set_option maxHeartbeats 4000000 in
theorem m_opens {im : IM} {pl it : Nat} (f : Bool) : MT YX9_opens 1 0 0 [.ref 120, .int (bI f)] 137 im (RR pl it) (some (.int (bI (!f))), 137, zop im f, RR pl it) := by
  refine mt_of (by decide +kernel) (Nat.le_of_ble_eq_true rfl) ?_
  show WW _ _ _ _ _ _ _ 0 [(0, .ref 120), (1, .int (bI f))] [] _ _ _
  refine r_iload_n dX9_opens_0 rfl ?_
  refine r_bz_eq (tgt := 9) dX9_opens_1 (by decide) (fun h1 => ?_) (fun h1 => ?_)
  · refine r_aload_n dX9_opens_9 rfl ?_
    refine r_dup dX9_opens_10 rfl ?_
    refine r_getx (x := im 120 22) fl_X9_72 dX9_opens_11 kd_120 ln_120 rfl (by first | rfl | (unfold zfl; rw [st_ne (by omega)])) ?_
    refine r_iload_n dX9_opens_14 rfl ?_
    refine r_if_eq_t (tgt := 22) dX9_opens_15 (by decide) (by rw [bI, h1]; decide) ?_
    refine r_iconst (v := 1) dX9_opens_22 (by decide) ?_
    refine r_iadd dX9_opens_23 ?_
    refine r_pi fl_X9_72 dX9_opens_24 kd_120 ln_120 rfl ?_
    refine r_iload_n dX9_opens_27 rfl ?_
    refine r_if_ne_f (tgt := 35) dX9_opens_28 (by decide) (by rw [bI, h1]; decide) ?_
    refine r_iconst (v := 1) dX9_opens_31 (by decide) ?_
    refine r_goto (tgt := 36) dX9_opens_32 (by decide) ?_
    exact r_zret dX9_opens_36 rfl nar1 (by simp only [zop, bI, Bool.not_true, Bool.not_false, eq_self, Bool.false_eq_true, Bool.true_eq_false, if_true, if_false, reduceIte, h1]) (Nat.le_refl _) (Nat.le_refl _)
  · refine r_aload_n dX9_opens_4 rfl ?_
    refine r_iconst (v := 3) dX9_opens_5 (by decide) ?_
    refine r_V1n cv_X9_85 dX9_opens_6 (m_fails (im := im) 3) ⟨by decide, by decide⟩ kd_120 ln_120 cl_9 (Nat.le_of_ble_eq_true rfl) ⟨Nat.le_refl _, Nat.le_refl _⟩ ?_
    refine r_aload_n dX9_opens_9 rfl ?_
    refine r_dup dX9_opens_10 rfl ?_
    refine r_getx (x := im 120 22) fl_X9_72 dX9_opens_11 kd_120 ln_120 rfl (by first | rfl | (unfold zfl; rw [st_ne (by omega)])) ?_
    refine r_iload_n dX9_opens_14 rfl ?_
    refine r_if_eq_f (tgt := 22) dX9_opens_15 (by decide) (by rw [bI, h1]; decide) ?_
    refine r_iconst (v := 0) dX9_opens_18 (by decide) ?_
    refine r_goto (tgt := 23) dX9_opens_19 (by decide) ?_
    refine r_iadd dX9_opens_23 ?_
    refine r_pi fl_X9_72 dX9_opens_24 kd_120 ln_120 rfl ?_
    refine r_iload_n dX9_opens_27 rfl ?_
    refine r_if_ne_t (tgt := 35) dX9_opens_28 (by decide) (by rw [bI, h1]; decide) ?_
    refine r_iconst (v := 0) dX9_opens_35 (by decide) ?_
    exact r_zret dX9_opens_36 rfl nar0 (by simp only [zop, bI, Bool.not_true, Bool.not_false, eq_self, Bool.false_eq_true, Bool.true_eq_false, if_true, if_false, reduceIte, h1]) (Nat.le_refl _) (Nat.le_refl _)

