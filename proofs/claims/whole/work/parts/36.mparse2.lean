theorem vM_big {tx : Nat → Int32} {p t : Nat} (h : 3 ≤ t) : vM tx p t = vM tx p (t + 1) := by rw [vM, if_neg (by omega)]
theorem vM_go {tx : Nat → Int32} {p t L : Nat} {x : Int32} (h : t < 3) (hx : x = tx (p + t)) (_ : p + t < L) : 10 * vM tx p t + x - 48 = vM tx p (t + 1) := by rw [vM, if_pos h, hx]
theorem ge_of_nI3 {p t : Nat} (h : 3 ≤ nI (p + t) - nI p) (h2 : p + t < 1000) : 3 ≤ t := by
  rw [dif_nI] at h
  exact Nat.le_of_not_lt (fun q => nI_ge (b := 3) q (by omega) h)
theorem lt_of_nI3 {p t : Nat} (h : ¬ 3 ≤ nI (p + t) - nI p) (h2 : p + t < 1000) : t < 3 := by
  rw [dif_nI] at h
  exact Nat.lt_of_not_le (fun q => h (nI_le q (by omega)))
set_option maxRecDepth 100000 in
set_option maxHeartbeats 4000000 in
theorem m_number {im : IM} {pl it L a : Nat} (hr0 : MR im L a) (lo hi : Int32) : MT YX9_number 2 0 0 [.ref 120, .int lo, .int hi] 137 im (RR pl it) (some (.int (znm im lo hi).1), 137, (znm im lo hi).2, RR pl it) := by
  refine mt_of (by decide +kernel) (Nat.le_of_ble_eq_true rfl) ?_
  show WW _ _ _ _ _ _ _ 0 [(0, .ref 120), (1, .int lo), (2, .int hi)] [] _ _ _
  refine r_aload_n dX9_number_0 rfl ?_
  refine r_V0n cv_X9_82 dX9_number_1 (m_skips hr0) ⟨by decide, by decide⟩ kd_120 ln_120 cl_9 (Nat.le_of_ble_eq_true rfl) ⟨Nat.le_refl _, Nat.le_refl _⟩ ?_
  show WW _ _ _ _ _ _ _ 4 _ _ _ _ _
  unfold znm
  have hr := hr0.skz
  generalize zsk im = J at hr
  obtain ⟨hL, hL2, p, hp, hp2, hpa⟩ := id hr
  have htL : tn (J 120 1) = L := by rw [hL, tn_nI (by omega)]
  have htp : tn (J 120 22) = p := by rw [hp, tn_nI (by omega)]
  have fin0 : J 120 23 = 0 → inB (zlk J) 48 57 = true → ∀ t, p + t ≤ L → nd (J 121) L p = p + t → WW YX9_number 2 0 0 (some (.int (znn J lo hi).1), 137, (znn J lo hi).2, RR pl it) 0 0 99 [(0, .ref 120), (1, .int lo), (2, .int hi), (3, .int (nI p)), (4, .int (vM (J 121) p t))] [] 137 (st J 120 22 (nI (p + t))) (RR pl it) := by
    intro h0 ht0 t hpt hn3
    have htN : zdn J = t := by unfold zdn; rw [htL, htp, hn3]; omega
    have hfin : zfl J 2 = zfl (st (st J 120 22 (nI (p + t))) 120 22 (nI p)) 2 := by rw [st_st, ← hp, st_same2 rfl]
    refine r_aload_n dX9_number_99 rfl ?_
    refine r_getx (x := nI (p + t)) fl_X9_72 dX9_number_100 kd_120 ln_120 rfl (st_same _ _ _ _) ?_
    refine r_iload_n dX9_number_103 rfl ?_
    refine r_isub dX9_number_104 ?_
    refine r_iconst (v := 3) dX9_number_105 (by decide) ?_
    refine r_icmp_gt (tgt := 119) dX9_number_106 (by decide) (fun h106 => ?_) (fun h106 => ?_)
    · refine r_aload_n dX9_number_119 rfl ?_
      refine r_iload_n dX9_number_120 rfl ?_
      refine r_pi fl_X9_72 dX9_number_121 kd_120 ln_120 rfl ?_
      refine r_aload_n dX9_number_124 rfl ?_
      refine r_iconst (v := 2) dX9_number_125 (by decide) ?_
      refine r_V1n cv_X9_85 dX9_number_126 (m_fails (im := st (st J 120 22 (nI (p + t))) 120 22 (nI p)) 2) ⟨by decide, by decide⟩ kd_120 ln_120 cl_9 (Nat.le_of_ble_eq_true rfl) ⟨Nat.le_refl _, Nat.le_refl _⟩ ?_
      refine r_iload dX9_number_129 rfl ?_
      exact r_iret dX9_number_131 rfl (by rw [show znn J lo hi = (vM (J 121) p t, zfl J 2) by simp only [znn, h0, ht0, htN, htp, eq_self, Bool.false_eq_true, Bool.true_eq_false, if_true, if_false, reduceIte, if_pos (Or.inl (gt_of_nI3 h106 (by omega)))]]; exact congrArg (fun z => (some (Value.int (vM (J 121) p t)), 137, z, RR pl it)) hfin) (Nat.le_refl _) (Nat.le_refl _)
    · refine r_iload dX9_number_109 rfl ?_
      refine r_iload_n dX9_number_111 rfl ?_
      refine r_iload_n dX9_number_112 rfl ?_
      refine r_S3s cv_X9_63 dX9_number_113 (m_in (vM (J 121) p t) lo hi) ⟨by decide, by decide⟩ (Nat.le_of_ble_eq_true rfl) ⟨Nat.le_refl _, Nat.le_refl _⟩ ?_
      refine r_bz_ne (tgt := 129) dX9_number_116 (by decide) (fun h116 => ?_) (fun h116 => ?_)
      · refine r_iload dX9_number_129 rfl ?_
        exact r_iret dX9_number_131 rfl (by rw [show znn J lo hi = (vM (J 121) p t, st J 120 22 (nI (p + t))) by simp only [znn, h0, ht0, htN, htp, eq_self, Bool.false_eq_true, Bool.true_eq_false, if_true, if_false, reduceIte, h116, or_false, if_neg (Nat.not_lt.mpr (le_of_nI3 h106 (by omega)))]]) (Nat.le_refl _) (Nat.le_refl _)
      · refine r_aload_n dX9_number_119 rfl ?_
        refine r_iload_n dX9_number_120 rfl ?_
        refine r_pi fl_X9_72 dX9_number_121 kd_120 ln_120 rfl ?_
        refine r_aload_n dX9_number_124 rfl ?_
        refine r_iconst (v := 2) dX9_number_125 (by decide) ?_
        refine r_V1n cv_X9_85 dX9_number_126 (m_fails (im := st (st J 120 22 (nI (p + t))) 120 22 (nI p)) 2) ⟨by decide, by decide⟩ kd_120 ln_120 cl_9 (Nat.le_of_ble_eq_true rfl) ⟨Nat.le_refl _, Nat.le_refl _⟩ ?_
        refine r_iload dX9_number_129 rfl ?_
        exact r_iret dX9_number_131 rfl (by rw [show znn J lo hi = (vM (J 121) p t, zfl J 2) by simp only [znn, h0, ht0, htN, htp, eq_self, Bool.false_eq_true, Bool.true_eq_false, if_true, if_false, reduceIte, h116, or_true]]; exact congrArg (fun z => (some (Value.int (vM (J 121) p t)), 137, z, RR pl it)) hfin) (Nat.le_refl _) (Nat.le_refl _)
  have key0 : J 120 23 = 0 → inB (zlk J) 48 57 = true → ∀ m t, p + t + m = L → p + t ≤ L → nd (J 121) L (p + t) = nd (J 121) L p → WW YX9_number 2 0 0 (some (.int (znn J lo hi).1), 137, (znn J lo hi).2, RR pl it) 0 0 42 [(0, .ref 120), (1, .int lo), (2, .int hi), (3, .int (nI p)), (4, .int (vM (J 121) p t))] [] 137 (st J 120 22 (nI (p + t))) (RR pl it) := by
    intro h0 ht0 m
    have fin := fin0 h0 ht0
    induction m with
    | zero =>
      intro t ht hpt hn
      refine r_aload_n dX9_number_42 rfl ?_
      refine r_V0s cv_X9_78 dX9_number_43 (m_look (a := 0) (im := st J 120 22 (nI (p + t))) ⟨by rw [st_ne (by omega)]; exact hL, hL2, p + t, st_same _ _ _ _, hpt, fun _ => Nat.zero_le _⟩) ⟨by decide, by decide⟩ kd_120 ln_120 cl_9 (Nat.le_of_ble_eq_true rfl) ⟨Nat.le_refl _, Nat.le_refl _⟩ ?_
      refine r_bipush (v := 48) dX9_number_46 (by decide) ?_
      refine r_bipush (v := 57) dX9_number_48 (by decide) ?_
      refine r_S3s cv_X9_63 dX9_number_50 (m_in (zlk (st J 120 22 (nI (p + t)))) 48 57) ⟨by decide, by decide⟩ (Nat.le_of_ble_eq_true rfl) ⟨Nat.le_refl _, Nat.le_refl _⟩ ?_
      refine r_if_eq_t (tgt := 99) dX9_number_53 (by decide) (by rw [zlk_lt (im := st J 120 22 (nI (p + t))) (L := L) (p := p + t) (by rw [st_ne (by omega)]; exact hL) hL2 (st_same _ _ _ _) hpt, if_neg (by omega)]; decide) ?_
      exact fin t hpt (by rw [← hn, nd_at (by omega)])
    | succ m ih =>
      intro t ht hpt hn
      refine r_aload_n dX9_number_42 rfl ?_
      refine r_V0s cv_X9_78 dX9_number_43 (m_look (a := 0) (im := st J 120 22 (nI (p + t))) ⟨by rw [st_ne (by omega)]; exact hL, hL2, p + t, st_same _ _ _ _, hpt, fun _ => Nat.zero_le _⟩) ⟨by decide, by decide⟩ kd_120 ln_120 cl_9 (Nat.le_of_ble_eq_true rfl) ⟨Nat.le_refl _, Nat.le_refl _⟩ ?_
      refine r_bipush (v := 48) dX9_number_46 (by decide) ?_
      refine r_bipush (v := 57) dX9_number_48 (by decide) ?_
      refine r_S3s cv_X9_63 dX9_number_50 (m_in (zlk (st J 120 22 (nI (p + t)))) 48 57) ⟨by decide, by decide⟩ (Nat.le_of_ble_eq_true rfl) ⟨Nat.le_refl _, Nat.le_refl _⟩ ?_
      refine r_bz_eq (tgt := 99) dX9_number_53 (by decide) (fun h53 => ?_) (fun h53 => ?_)
      · exact fin t hpt (by rw [← hn, nd_at (fun z => by rw [zlk_lt (im := st J 120 22 (nI (p + t))) (L := L) (p := p + t) (by rw [st_ne (by omega)]; exact hL) hL2 (st_same _ _ _ _) hpt, if_pos z.1, st_row (by decide), z.2] at h53; exact absurd h53 (by decide))])
      · have hfg0 := h53
        rw [zlk_lt (im := st J 120 22 (nI (p + t))) (L := L) (p := p + t) (by rw [st_ne (by omega)]; exact hL) hL2 (st_same _ _ _ _) hpt] at hfg0
        have hptl : p + t < L := by
          apply Nat.lt_of_not_le
          intro z
          rw [if_neg (by omega)] at hfg0
          exact absurd hfg0 (by decide)
        rw [if_pos hptl, st_row (by decide)] at hfg0
        have hfg := hfg0
        refine r_aload_n dX9_number_56 rfl ?_
        refine r_getx (x := nI (p + t)) fl_X9_72 dX9_number_57 kd_120 ln_120 rfl (st_same _ _ _ _) ?_
        refine r_iload_n dX9_number_60 rfl ?_
        refine r_isub dX9_number_61 ?_
        refine r_iconst (v := 3) dX9_number_62 (by decide) ?_
        refine r_icmp_ge (tgt := 82) dX9_number_63 (by decide) (fun h63 => ?_) (fun h63 => ?_)
        · refine r_iload dX9_number_82 rfl ?_
          refine r_istore dX9_number_84 (by decide) ?_
          refine r_aload_n dX9_number_86 rfl ?_
          refine r_dup dX9_number_87 rfl ?_
          refine r_getx (x := nI (p + t)) fl_X9_72 dX9_number_88 kd_120 ln_120 rfl (st_same _ _ _ _) ?_
          refine r_iconst (v := 1) dX9_number_91 (by decide) ?_
          refine r_iadd dX9_number_92 ?_
          refine r_pi fl_X9_72 dX9_number_93 kd_120 ln_120 rfl ?_
          refine r_goto (tgt := 42) dX9_number_96 (by decide) ?_
          rw [zlk_lt (im := st J 120 22 (nI (p + t))) (L := L) (p := p + t) (by rw [st_ne (by omega)]; exact hL) hL2 (st_same _ _ _ _) hpt] at h53
          refine r_lv (lv' := [(0, .ref 120), (1, .int lo), (2, .int hi), (3, .int (nI p)), (4, .int (vM (J 121) p (t + 1)))]) (al_cons rfl (al_cons rfl (al_cons rfl (al_cons rfl (al_int rfl (vM_big (ge_of_nI3 h63 (by omega))) al_nil))))) ?_
          refine r_im (im' := st J 120 22 (nI (p + (t + 1)))) (by rw [st_st, nI_1, Nat.add_assoc]) ?_
          exact ih (t + 1) (by omega) (by omega) (by rw [show p + (t + 1) = p + t + 1 by omega, ← nd_go hptl hfg]; exact hn)
        · refine r_bipush (v := 10) dX9_number_66 (by decide) ?_
          refine r_iload dX9_number_68 rfl ?_
          refine r_imul dX9_number_70 ?_
          refine r_aload_n dX9_number_71 rfl ?_
          refine r_V0s cv_X9_78 dX9_number_72 (m_look (a := 0) (im := st J 120 22 (nI (p + t))) ⟨by rw [st_ne (by omega)]; exact hL, hL2, p + t, st_same _ _ _ _, hpt, fun _ => Nat.zero_le _⟩) ⟨by decide, by decide⟩ kd_120 ln_120 cl_9 (Nat.le_of_ble_eq_true rfl) ⟨Nat.le_refl _, Nat.le_refl _⟩ ?_
          refine r_iadd dX9_number_75 ?_
          refine r_bipush (v := 48) dX9_number_76 (by decide) ?_
          refine r_isub dX9_number_78 ?_
          refine r_goto (tgt := 84) dX9_number_79 (by decide) ?_
          refine r_istore dX9_number_84 (by decide) ?_
          refine r_aload_n dX9_number_86 rfl ?_
          refine r_dup dX9_number_87 rfl ?_
          refine r_getx (x := nI (p + t)) fl_X9_72 dX9_number_88 kd_120 ln_120 rfl (st_same _ _ _ _) ?_
          refine r_iconst (v := 1) dX9_number_91 (by decide) ?_
          refine r_iadd dX9_number_92 ?_
          refine r_pi fl_X9_72 dX9_number_93 kd_120 ln_120 rfl ?_
          refine r_goto (tgt := 42) dX9_number_96 (by decide) ?_
          rw [zlk_lt (im := st J 120 22 (nI (p + t))) (L := L) (p := p + t) (by rw [st_ne (by omega)]; exact hL) hL2 (st_same _ _ _ _) hpt] at h53
          refine r_lv (lv' := [(0, .ref 120), (1, .int lo), (2, .int hi), (3, .int (nI p)), (4, .int (vM (J 121) p (t + 1)))]) (al_cons rfl (al_cons rfl (al_cons rfl (al_cons rfl (al_int rfl (vM_go (lt_of_nI3 h63 (by omega)) (zlk_lt (im := st J 120 22 (nI (p + t))) (L := L) (p := p + t) (by rw [st_ne (by omega)]; exact hL) hL2 (st_same _ _ _ _) hpt |>.trans (by rw [if_pos hptl, st_row (by decide)])) hptl) al_nil))))) ?_
          refine r_im (im' := st J 120 22 (nI (p + (t + 1)))) (by rw [st_st, nI_1, Nat.add_assoc]) ?_
          exact ih (t + 1) (by omega) (by omega) (by rw [show p + (t + 1) = p + t + 1 by omega, ← nd_go hptl hfg]; exact hn)
  refine r_aload_n dX9_number_4 rfl ?_
  refine r_geti fl_X9_75 dX9_number_5 kd_120 ln_120 rfl ?_
  refine r_if_eq (tgt := 13) dX9_number_8 (by decide) (fun h8 => ?_) (fun h8 => ?_)
  · refine r_aload_n dX9_number_13 rfl ?_
    refine r_V0s cv_X9_78 dX9_number_14 (m_look (im := J) hr) ⟨by decide, by decide⟩ kd_120 ln_120 cl_9 (Nat.le_of_ble_eq_true rfl) ⟨Nat.le_refl _, Nat.le_refl _⟩ ?_
    refine r_bipush (v := 48) dX9_number_17 (by decide) ?_
    refine r_bipush (v := 57) dX9_number_19 (by decide) ?_
    refine r_S3s cv_X9_63 dX9_number_21 (m_in (zlk J) 48 57) ⟨by decide, by decide⟩ (Nat.le_of_ble_eq_true rfl) ⟨Nat.le_refl _, Nat.le_refl _⟩ ?_
    refine r_bz_ne (tgt := 34) dX9_number_24 (by decide) (fun h24 => ?_) (fun h24 => ?_)
    · have ht0 := h24
      refine r_aload_n dX9_number_34 rfl ?_
      refine r_geti fl_X9_72 dX9_number_35 kd_120 ln_120 rfl ?_
      refine r_istore_n dX9_number_38 (by decide) ?_
      refine r_iconst (v := 0) dX9_number_39 (by decide) ?_
      refine r_istore dX9_number_40 (by decide) ?_
      refine r_lv (lv' := [(0, .ref 120), (1, .int lo), (2, .int hi), (3, .int (nI p)), (4, .int (vM (J 121) p 0))]) (al_cons rfl (al_cons rfl (al_cons rfl (al_int rfl hp (al_cons rfl al_nil))))) ?_
      refine r_im (im' := st J 120 22 (nI (p + 0))) (by rw [Nat.add_zero, ← hp, st_same2 rfl]) ?_
      exact key0 h8 ht0 (L - p) 0 (by omega) (by omega) (by rw [Nat.add_zero])
    · refine r_aload_n dX9_number_27 rfl ?_
      refine r_iconst (v := 1) dX9_number_28 (by decide) ?_
      refine r_V1n cv_X9_85 dX9_number_29 (m_fails (im := J) 1) ⟨by decide, by decide⟩ kd_120 ln_120 cl_9 (Nat.le_of_ble_eq_true rfl) ⟨Nat.le_refl _, Nat.le_refl _⟩ ?_
      refine r_iconst (v := 0) dX9_number_32 (by decide) ?_
      exact r_iret dX9_number_33 rfl (by rw [show znn J lo hi = (0, zfl J 1) by simp only [znn, h24, eq_true h8, eq_self, Bool.false_eq_true, Bool.true_eq_false, if_true, if_false, reduceIte]]) (Nat.le_refl _) (Nat.le_refl _)
  · refine r_iconst (v := 0) dX9_number_11 (by decide) ?_
    exact r_iret dX9_number_12 rfl (by rw [show znn J lo hi = (0, J) by simp only [znn, h8, eq_self, Bool.false_eq_true, Bool.true_eq_false, if_true, if_false, reduceIte]]) (Nat.le_refl _) (Nat.le_refl _)

