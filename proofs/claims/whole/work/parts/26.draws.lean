set_option maxRecDepth 100000 in
set_option maxHeartbeats 4000000 in
theorem c_doByDraw {im : IM} {pl it : Nat} (hc : CA im pl) : MT YX8_doByDraw 3 0 0 [.ref 0] 137 im (RR pl it) (none, 137, dwX im pl, RR pl it) := by
  obtain ⟨hC, W, T, S, hW, hW8, hT, hT6, hS, hS5⟩ := id hc
  have htW : tn (im pl 0) = W := by rw [hW, tn_nI (by omega)]
  have htT : tn (im pl 2) = T := by rw [hT, tn_nI (by omega)]
  have htS : tn (im pl 6) = S := by rw [hS, tn_nI (by omega)]
  refine mt_of (by decide +kernel) (Nat.le_of_ble_eq_true rfl) ?_
  show WW _ _ _ _ _ _ _ 0 [(0, .ref 0)] [] _ _ _
  refine r_aload_n dX8_doByDraw_0 rfl ?_
  refine r_getr fl_X8_58 dX8_doByDraw_1 kd_0 ln_0 rfl rfl ?_
  refine r_bipush (v := 8) dX8_doByDraw_4 (by decide) ?_
  refine r_V1s cv_X8_295 dX8_doByDraw_6 (c_draw 8) ⟨by decide, by decide⟩ kd_108 ln_108 cl_3 (Nat.le_of_ble_eq_true rfl) ⟨Nat.le_refl _, Nat.le_refl _⟩ ?_
  refine r_istore_n dX8_doByDraw_9 (by decide) ?_
  refine r_iload_n dX8_doByDraw_10 rfl ?_
  refine r_if_ne (tgt := 72) dX8_doByDraw_11 (by decide) (fun h11 => ?_) (fun h11 => ?_)
  · refine r_iload_n dX8_doByDraw_72 rfl ?_
    refine r_iconst (v := 1) dX8_doByDraw_73 (by decide) ?_
    refine r_icmp_ne (tgt := 132) dX8_doByDraw_74 (by decide) (fun h74 => ?_) (fun h74 => ?_)
    · refine r_iload_n dX8_doByDraw_132 rfl ?_
      refine r_iconst (v := 2) dX8_doByDraw_133 (by decide) ?_
      refine r_icmp_ne (tgt := 159) dX8_doByDraw_134 (by decide) (fun h134 => ?_) (fun h134 => ?_)
      · exact r_vret dX8_doByDraw_159 rfl (by simp only [dwX, eq_self, Bool.false_eq_true, Bool.true_eq_false, if_true, if_false, reduceIte, true_and, and_true, false_and, and_false, true_or, or_true, false_or, or_false, not_true_eq_false, not_false_eq_true, Bool.not_true, Bool.not_false, Bool.true_and, Bool.and_true, Bool.false_and, Bool.and_false, decide_true, decide_false, h11, h74, h134]) (Nat.le_refl _) (Nat.le_refl _)
      · refine r_aload_n dX8_doByDraw_137 rfl ?_
        refine r_getr fl_X8_30 dX8_doByDraw_138 kd_0 ln_0 rfl rfl ?_
        refine r_aload_n dX8_doByDraw_141 rfl ?_
        refine r_getr fl_X8_30 dX8_doByDraw_142 kd_0 ln_0 rfl rfl ?_
        refine r_getx (x := im 17 3) fl_X8_121 dX8_doByDraw_145 kd_17 ln_17 rfl (by rw [st_row (by decide)]) ?_
        refine r_if_ne (tgt := 155) dX8_doByDraw_148 (by decide) (fun h148 => ?_) (fun h148 => ?_)
        · refine r_iconst (v := 0) dX8_doByDraw_155 (by decide) ?_
          refine r_pz fl_X8_121 dX8_doByDraw_156 kd_17 ln_17 rfl ⟨nar0, rfl⟩ ?_
          exact r_vret dX8_doByDraw_159 rfl (by simp only [dwX, eq_self, Bool.false_eq_true, Bool.true_eq_false, if_true, if_false, reduceIte, true_and, and_true, false_and, and_false, true_or, or_true, false_or, or_false, not_true_eq_false, not_false_eq_true, Bool.not_true, Bool.not_false, Bool.true_and, Bool.and_true, Bool.false_and, Bool.and_false, decide_true, decide_false, h11, h74, eq_true h134, h148]) (Nat.le_refl _) (Nat.le_refl _)
        · refine r_iconst (v := 1) dX8_doByDraw_151 (by decide) ?_
          refine r_goto (tgt := 156) dX8_doByDraw_152 (by decide) ?_
          refine r_pz fl_X8_121 dX8_doByDraw_156 kd_17 ln_17 rfl ⟨nar1, rfl⟩ ?_
          exact r_vret dX8_doByDraw_159 rfl (by simp only [dwX, eq_self, Bool.false_eq_true, Bool.true_eq_false, if_true, if_false, reduceIte, true_and, and_true, false_and, and_false, true_or, or_true, false_or, or_false, not_true_eq_false, not_false_eq_true, Bool.not_true, Bool.not_false, Bool.true_and, Bool.and_true, Bool.false_and, Bool.and_false, decide_true, decide_false, h11, h74, eq_true h134, eq_true h148]) (Nat.le_refl _) (Nat.le_refl _)
    · refine r_aload_n dX8_doByDraw_77 rfl ?_
      refine r_getr fl_X8_23 dX8_doByDraw_78 kd_0 ln_0 rfl rfl ?_
      refine r_getx (x := im pl 6) fl_X8_102 dX8_doByDraw_81 (kC0 hC) (lC0 hC) rfl (by rw [st_row (by have h : pl = 3 ∨ pl = 10 := hC; omega)]) ?_
      refine r_if_le (tgt := 132) dX8_doByDraw_84 (by decide) (fun h84 => ?_) (fun h84 => ?_)
      · refine r_iload_n dX8_doByDraw_132 rfl ?_
        refine r_iconst (v := 2) dX8_doByDraw_133 (by decide) ?_
        refine r_icmp_ne (tgt := 159) dX8_doByDraw_134 (by decide) (fun h134 => ?_) (fun h134 => ?_)
        · exact r_vret dX8_doByDraw_159 rfl (by simp only [dwX, eq_self, Bool.false_eq_true, Bool.true_eq_false, if_true, if_false, reduceIte, true_and, and_true, false_and, and_false, true_or, or_true, false_or, or_false, not_true_eq_false, not_false_eq_true, Bool.not_true, Bool.not_false, Bool.true_and, Bool.and_true, Bool.false_and, Bool.and_false, decide_true, decide_false, h11, eq_true h74, h84, h134]) (Nat.le_refl _) (Nat.le_refl _)
        · refine r_aload_n dX8_doByDraw_137 rfl ?_
          refine r_getr fl_X8_30 dX8_doByDraw_138 kd_0 ln_0 rfl rfl ?_
          refine r_aload_n dX8_doByDraw_141 rfl ?_
          refine r_getr fl_X8_30 dX8_doByDraw_142 kd_0 ln_0 rfl rfl ?_
          refine r_getx (x := im 17 3) fl_X8_121 dX8_doByDraw_145 kd_17 ln_17 rfl (by rw [st_row (by decide)]) ?_
          refine r_if_ne (tgt := 155) dX8_doByDraw_148 (by decide) (fun h148 => ?_) (fun h148 => ?_)
          · refine r_iconst (v := 0) dX8_doByDraw_155 (by decide) ?_
            refine r_pz fl_X8_121 dX8_doByDraw_156 kd_17 ln_17 rfl ⟨nar0, rfl⟩ ?_
            exact r_vret dX8_doByDraw_159 rfl (by simp only [dwX, eq_self, Bool.false_eq_true, Bool.true_eq_false, if_true, if_false, reduceIte, true_and, and_true, false_and, and_false, true_or, or_true, false_or, or_false, not_true_eq_false, not_false_eq_true, Bool.not_true, Bool.not_false, Bool.true_and, Bool.and_true, Bool.false_and, Bool.and_false, decide_true, decide_false, h11, eq_true h74, h84, eq_true h134, h148]) (Nat.le_refl _) (Nat.le_refl _)
          · refine r_iconst (v := 1) dX8_doByDraw_151 (by decide) ?_
            refine r_goto (tgt := 156) dX8_doByDraw_152 (by decide) ?_
            refine r_pz fl_X8_121 dX8_doByDraw_156 kd_17 ln_17 rfl ⟨nar1, rfl⟩ ?_
            exact r_vret dX8_doByDraw_159 rfl (by simp only [dwX, eq_self, Bool.false_eq_true, Bool.true_eq_false, if_true, if_false, reduceIte, true_and, and_true, false_and, and_false, true_or, or_true, false_or, or_false, not_true_eq_false, not_false_eq_true, Bool.not_true, Bool.not_false, Bool.true_and, Bool.and_true, Bool.false_and, Bool.and_false, decide_true, decide_false, h11, eq_true h74, h84, eq_true h134, eq_true h148]) (Nat.le_refl _) (Nat.le_refl _)
      · refine r_aload_n dX8_doByDraw_87 rfl ?_
        refine r_getr fl_X8_58 dX8_doByDraw_88 kd_0 ln_0 rfl rfl ?_
        refine r_aload_n dX8_doByDraw_91 rfl ?_
        refine r_getr fl_X8_23 dX8_doByDraw_92 kd_0 ln_0 rfl rfl ?_
        refine r_getx (x := im pl 6) fl_X8_102 dX8_doByDraw_95 (kC0 hC) (lC0 hC) rfl (by rw [st_row (by have h : pl = 3 ∨ pl = 10 := hC; omega)]) ?_
        refine r_V1s cv_X8_295 dX8_doByDraw_98 (by have q := c_draw (pl := pl) (it := it) (im := st im 108 0 (drS (im 108 0))) (im pl 6); rw [st_same, st_st] at q; exact q) ⟨by decide, by decide⟩ kd_108 ln_108 cl_3 (Nat.le_of_ble_eq_true rfl) ⟨Nat.le_refl _, Nat.le_refl _⟩ ?_
        refine r_istore_n dX8_doByDraw_101 (by decide) ?_
        refine r_aload_n dX8_doByDraw_102 rfl ?_
        refine r_getr fl_X8_30 dX8_doByDraw_103 kd_0 ln_0 rfl rfl ?_
        refine r_iload_n dX8_doByDraw_106 rfl ?_
        refine r_aload_n dX8_doByDraw_107 rfl ?_
        refine r_getr fl_X8_30 dX8_doByDraw_108 kd_0 ln_0 rfl rfl ?_
        refine r_getx (x := im 17 5) fl_X8_134 dX8_doByDraw_111 kd_17 ln_17 rfl (by rw [st_row (by decide)]) ?_
        refine r_iload_n dX8_doByDraw_114 rfl ?_
        refine r_S2s cv_X8_163 dX8_doByDraw_115 (c_has (im 17 5) (drV (drS (drS (im 108 0))) (im pl 6))) ⟨by decide, by decide⟩ (Nat.le_of_ble_eq_true rfl) ⟨Nat.le_refl _, Nat.le_refl _⟩ ?_
        refine r_bz_ne (tgt := 125) dX8_doByDraw_118 (by decide) (fun h118 => ?_) (fun h118 => ?_)
        · refine r_iconst (v := 0) dX8_doByDraw_125 (by decide) ?_
          refine r_V2n cv_X8_202 dX8_doByDraw_126 (c_setHired (drV (drS (drS (im 108 0))) (im pl 6)) 0) ⟨by decide, by decide⟩ kd_17 ln_17 cl_0 (Nat.le_of_ble_eq_true rfl) ⟨Nat.le_refl _, Nat.le_refl _⟩ ?_
          refine r_goto (tgt := 159) dX8_doByDraw_129 (by decide) ?_
          exact r_vret dX8_doByDraw_159 rfl (by simp only [dwX, eq_self, Bool.false_eq_true, Bool.true_eq_false, if_true, if_false, reduceIte, true_and, and_true, false_and, and_false, true_or, or_true, false_or, or_false, not_true_eq_false, not_false_eq_true, Bool.not_true, Bool.not_false, Bool.true_and, Bool.and_true, Bool.false_and, Bool.and_false, decide_true, decide_false, h11, eq_true h74, h84, h118]) (Nat.le_refl _) (Nat.le_refl _)
        · refine r_iconst (v := 1) dX8_doByDraw_121 (by decide) ?_
          refine r_goto (tgt := 126) dX8_doByDraw_122 (by decide) ?_
          refine r_V2n cv_X8_202 dX8_doByDraw_126 (c_setHired (drV (drS (drS (im 108 0))) (im pl 6)) 1) ⟨by decide, by decide⟩ kd_17 ln_17 cl_0 (Nat.le_of_ble_eq_true rfl) ⟨Nat.le_refl _, Nat.le_refl _⟩ ?_
          refine r_goto (tgt := 159) dX8_doByDraw_129 (by decide) ?_
          exact r_vret dX8_doByDraw_159 rfl (by simp only [dwX, eq_self, Bool.false_eq_true, Bool.true_eq_false, if_true, if_false, reduceIte, true_and, and_true, false_and, and_false, true_or, or_true, false_or, or_false, not_true_eq_false, not_false_eq_true, Bool.not_true, Bool.not_false, Bool.true_and, Bool.and_true, Bool.false_and, Bool.and_false, decide_true, decide_false, h11, eq_true h74, h84, h118]) (Nat.le_refl _) (Nat.le_refl _)
  · refine r_aload_n dX8_doByDraw_14 rfl ?_
    refine r_getr fl_X8_23 dX8_doByDraw_15 kd_0 ln_0 rfl rfl ?_
    refine r_getx (x := im pl 2) fl_X8_99 dX8_doByDraw_18 (kC0 hC) (lC0 hC) rfl (by rw [st_row (by have h : pl = 3 ∨ pl = 10 := hC; omega)]) ?_
    refine r_if_le (tgt := 72) dX8_doByDraw_21 (by decide) (fun h21 => ?_) (fun h21 => ?_)
    · refine r_iload_n dX8_doByDraw_72 rfl ?_
      refine r_iconst (v := 1) dX8_doByDraw_73 (by decide) ?_
      refine r_icmp_ne (tgt := 132) dX8_doByDraw_74 (by decide) (fun h74 => ?_) (fun h74 => ?_)
      · refine r_iload_n dX8_doByDraw_132 rfl ?_
        refine r_iconst (v := 2) dX8_doByDraw_133 (by decide) ?_
        refine r_icmp_ne (tgt := 159) dX8_doByDraw_134 (by decide) (fun h134 => ?_) (fun h134 => ?_)
        · exact r_vret dX8_doByDraw_159 rfl (by simp only [dwX, eq_self, Bool.false_eq_true, Bool.true_eq_false, if_true, if_false, reduceIte, true_and, and_true, false_and, and_false, true_or, or_true, false_or, or_false, not_true_eq_false, not_false_eq_true, Bool.not_true, Bool.not_false, Bool.true_and, Bool.and_true, Bool.false_and, Bool.and_false, decide_true, decide_false, eq_true h11, h21, h74, h134]) (Nat.le_refl _) (Nat.le_refl _)
        · refine r_aload_n dX8_doByDraw_137 rfl ?_
          refine r_getr fl_X8_30 dX8_doByDraw_138 kd_0 ln_0 rfl rfl ?_
          refine r_aload_n dX8_doByDraw_141 rfl ?_
          refine r_getr fl_X8_30 dX8_doByDraw_142 kd_0 ln_0 rfl rfl ?_
          refine r_getx (x := im 17 3) fl_X8_121 dX8_doByDraw_145 kd_17 ln_17 rfl (by rw [st_row (by decide)]) ?_
          refine r_if_ne (tgt := 155) dX8_doByDraw_148 (by decide) (fun h148 => ?_) (fun h148 => ?_)
          · refine r_iconst (v := 0) dX8_doByDraw_155 (by decide) ?_
            refine r_pz fl_X8_121 dX8_doByDraw_156 kd_17 ln_17 rfl ⟨nar0, rfl⟩ ?_
            exact r_vret dX8_doByDraw_159 rfl (by simp only [dwX, eq_self, Bool.false_eq_true, Bool.true_eq_false, if_true, if_false, reduceIte, true_and, and_true, false_and, and_false, true_or, or_true, false_or, or_false, not_true_eq_false, not_false_eq_true, Bool.not_true, Bool.not_false, Bool.true_and, Bool.and_true, Bool.false_and, Bool.and_false, decide_true, decide_false, eq_true h11, h21, h74, eq_true h134, h148]) (Nat.le_refl _) (Nat.le_refl _)
          · refine r_iconst (v := 1) dX8_doByDraw_151 (by decide) ?_
            refine r_goto (tgt := 156) dX8_doByDraw_152 (by decide) ?_
            refine r_pz fl_X8_121 dX8_doByDraw_156 kd_17 ln_17 rfl ⟨nar1, rfl⟩ ?_
            exact r_vret dX8_doByDraw_159 rfl (by simp only [dwX, eq_self, Bool.false_eq_true, Bool.true_eq_false, if_true, if_false, reduceIte, true_and, and_true, false_and, and_false, true_or, or_true, false_or, or_false, not_true_eq_false, not_false_eq_true, Bool.not_true, Bool.not_false, Bool.true_and, Bool.and_true, Bool.false_and, Bool.and_false, decide_true, decide_false, eq_true h11, h21, h74, eq_true h134, eq_true h148]) (Nat.le_refl _) (Nat.le_refl _)
      · refine r_aload_n dX8_doByDraw_77 rfl ?_
        refine r_getr fl_X8_23 dX8_doByDraw_78 kd_0 ln_0 rfl rfl ?_
        refine r_getx (x := im pl 6) fl_X8_102 dX8_doByDraw_81 (kC0 hC) (lC0 hC) rfl (by rw [st_row (by have h : pl = 3 ∨ pl = 10 := hC; omega)]) ?_
        refine r_if_le (tgt := 132) dX8_doByDraw_84 (by decide) (fun h84 => ?_) (fun h84 => ?_)
        · refine r_iload_n dX8_doByDraw_132 rfl ?_
          refine r_iconst (v := 2) dX8_doByDraw_133 (by decide) ?_
          refine r_icmp_ne (tgt := 159) dX8_doByDraw_134 (by decide) (fun h134 => ?_) (fun h134 => ?_)
          · exact r_vret dX8_doByDraw_159 rfl (by simp only [dwX, eq_self, Bool.false_eq_true, Bool.true_eq_false, if_true, if_false, reduceIte, true_and, and_true, false_and, and_false, true_or, or_true, false_or, or_false, not_true_eq_false, not_false_eq_true, Bool.not_true, Bool.not_false, Bool.true_and, Bool.and_true, Bool.false_and, Bool.and_false, decide_true, decide_false, eq_true h11, h21, eq_true h74, h84, h134]) (Nat.le_refl _) (Nat.le_refl _)
          · refine r_aload_n dX8_doByDraw_137 rfl ?_
            refine r_getr fl_X8_30 dX8_doByDraw_138 kd_0 ln_0 rfl rfl ?_
            refine r_aload_n dX8_doByDraw_141 rfl ?_
            refine r_getr fl_X8_30 dX8_doByDraw_142 kd_0 ln_0 rfl rfl ?_
            refine r_getx (x := im 17 3) fl_X8_121 dX8_doByDraw_145 kd_17 ln_17 rfl (by rw [st_row (by decide)]) ?_
            refine r_if_ne (tgt := 155) dX8_doByDraw_148 (by decide) (fun h148 => ?_) (fun h148 => ?_)
            · refine r_iconst (v := 0) dX8_doByDraw_155 (by decide) ?_
              refine r_pz fl_X8_121 dX8_doByDraw_156 kd_17 ln_17 rfl ⟨nar0, rfl⟩ ?_
              exact r_vret dX8_doByDraw_159 rfl (by simp only [dwX, eq_self, Bool.false_eq_true, Bool.true_eq_false, if_true, if_false, reduceIte, true_and, and_true, false_and, and_false, true_or, or_true, false_or, or_false, not_true_eq_false, not_false_eq_true, Bool.not_true, Bool.not_false, Bool.true_and, Bool.and_true, Bool.false_and, Bool.and_false, decide_true, decide_false, eq_true h11, h21, eq_true h74, h84, eq_true h134, h148]) (Nat.le_refl _) (Nat.le_refl _)
            · refine r_iconst (v := 1) dX8_doByDraw_151 (by decide) ?_
              refine r_goto (tgt := 156) dX8_doByDraw_152 (by decide) ?_
              refine r_pz fl_X8_121 dX8_doByDraw_156 kd_17 ln_17 rfl ⟨nar1, rfl⟩ ?_
              exact r_vret dX8_doByDraw_159 rfl (by simp only [dwX, eq_self, Bool.false_eq_true, Bool.true_eq_false, if_true, if_false, reduceIte, true_and, and_true, false_and, and_false, true_or, or_true, false_or, or_false, not_true_eq_false, not_false_eq_true, Bool.not_true, Bool.not_false, Bool.true_and, Bool.and_true, Bool.false_and, Bool.and_false, decide_true, decide_false, eq_true h11, h21, eq_true h74, h84, eq_true h134, eq_true h148]) (Nat.le_refl _) (Nat.le_refl _)
        · refine r_aload_n dX8_doByDraw_87 rfl ?_
          refine r_getr fl_X8_58 dX8_doByDraw_88 kd_0 ln_0 rfl rfl ?_
          refine r_aload_n dX8_doByDraw_91 rfl ?_
          refine r_getr fl_X8_23 dX8_doByDraw_92 kd_0 ln_0 rfl rfl ?_
          refine r_getx (x := im pl 6) fl_X8_102 dX8_doByDraw_95 (kC0 hC) (lC0 hC) rfl (by rw [st_row (by have h : pl = 3 ∨ pl = 10 := hC; omega)]) ?_
          refine r_V1s cv_X8_295 dX8_doByDraw_98 (by have q := c_draw (pl := pl) (it := it) (im := st im 108 0 (drS (im 108 0))) (im pl 6); rw [st_same, st_st] at q; exact q) ⟨by decide, by decide⟩ kd_108 ln_108 cl_3 (Nat.le_of_ble_eq_true rfl) ⟨Nat.le_refl _, Nat.le_refl _⟩ ?_
          refine r_istore_n dX8_doByDraw_101 (by decide) ?_
          refine r_aload_n dX8_doByDraw_102 rfl ?_
          refine r_getr fl_X8_30 dX8_doByDraw_103 kd_0 ln_0 rfl rfl ?_
          refine r_iload_n dX8_doByDraw_106 rfl ?_
          refine r_aload_n dX8_doByDraw_107 rfl ?_
          refine r_getr fl_X8_30 dX8_doByDraw_108 kd_0 ln_0 rfl rfl ?_
          refine r_getx (x := im 17 5) fl_X8_134 dX8_doByDraw_111 kd_17 ln_17 rfl (by rw [st_row (by decide)]) ?_
          refine r_iload_n dX8_doByDraw_114 rfl ?_
          refine r_S2s cv_X8_163 dX8_doByDraw_115 (c_has (im 17 5) (drV (drS (drS (im 108 0))) (im pl 6))) ⟨by decide, by decide⟩ (Nat.le_of_ble_eq_true rfl) ⟨Nat.le_refl _, Nat.le_refl _⟩ ?_
          refine r_bz_ne (tgt := 125) dX8_doByDraw_118 (by decide) (fun h118 => ?_) (fun h118 => ?_)
          · refine r_iconst (v := 0) dX8_doByDraw_125 (by decide) ?_
            refine r_V2n cv_X8_202 dX8_doByDraw_126 (c_setHired (drV (drS (drS (im 108 0))) (im pl 6)) 0) ⟨by decide, by decide⟩ kd_17 ln_17 cl_0 (Nat.le_of_ble_eq_true rfl) ⟨Nat.le_refl _, Nat.le_refl _⟩ ?_
            refine r_goto (tgt := 159) dX8_doByDraw_129 (by decide) ?_
            exact r_vret dX8_doByDraw_159 rfl (by simp only [dwX, eq_self, Bool.false_eq_true, Bool.true_eq_false, if_true, if_false, reduceIte, true_and, and_true, false_and, and_false, true_or, or_true, false_or, or_false, not_true_eq_false, not_false_eq_true, Bool.not_true, Bool.not_false, Bool.true_and, Bool.and_true, Bool.false_and, Bool.and_false, decide_true, decide_false, eq_true h11, h21, eq_true h74, h84, h118]) (Nat.le_refl _) (Nat.le_refl _)
          · refine r_iconst (v := 1) dX8_doByDraw_121 (by decide) ?_
            refine r_goto (tgt := 126) dX8_doByDraw_122 (by decide) ?_
            refine r_V2n cv_X8_202 dX8_doByDraw_126 (c_setHired (drV (drS (drS (im 108 0))) (im pl 6)) 1) ⟨by decide, by decide⟩ kd_17 ln_17 cl_0 (Nat.le_of_ble_eq_true rfl) ⟨Nat.le_refl _, Nat.le_refl _⟩ ?_
            refine r_goto (tgt := 159) dX8_doByDraw_129 (by decide) ?_
            exact r_vret dX8_doByDraw_159 rfl (by simp only [dwX, eq_self, Bool.false_eq_true, Bool.true_eq_false, if_true, if_false, reduceIte, true_and, and_true, false_and, and_false, true_or, or_true, false_or, or_false, not_true_eq_false, not_false_eq_true, Bool.not_true, Bool.not_false, Bool.true_and, Bool.and_true, Bool.false_and, Bool.and_false, decide_true, decide_false, eq_true h11, h21, eq_true h74, h84, h118]) (Nat.le_refl _) (Nat.le_refl _)
    · refine r_aload_n dX8_doByDraw_24 rfl ?_
      refine r_getr fl_X8_58 dX8_doByDraw_25 kd_0 ln_0 rfl rfl ?_
      refine r_aload_n dX8_doByDraw_28 rfl ?_
      refine r_getr fl_X8_23 dX8_doByDraw_29 kd_0 ln_0 rfl rfl ?_
      refine r_getx (x := im pl 2) fl_X8_99 dX8_doByDraw_32 (kC0 hC) (lC0 hC) rfl (by rw [st_row (by have h : pl = 3 ∨ pl = 10 := hC; omega)]) ?_
      refine r_V1s cv_X8_295 dX8_doByDraw_35 (by have q := c_draw (pl := pl) (it := it) (im := st im 108 0 (drS (im 108 0))) (im pl 2); rw [st_same, st_st] at q; exact q) ⟨by decide, by decide⟩ kd_108 ln_108 cl_3 (Nat.le_of_ble_eq_true rfl) ⟨Nat.le_refl _, Nat.le_refl _⟩ ?_
      refine r_istore_n dX8_doByDraw_38 (by decide) ?_
      refine r_aload_n dX8_doByDraw_39 rfl ?_
      refine r_getr fl_X8_30 dX8_doByDraw_40 kd_0 ln_0 rfl rfl ?_
      refine r_aload_n dX8_doByDraw_43 rfl ?_
      refine r_getr fl_X8_23 dX8_doByDraw_44 kd_0 ln_0 rfl rfl ?_
      refine r_iload_n dX8_doByDraw_47 rfl ?_
      refine r_V2s cv_X8_193 dX8_doByDraw_48 (by have q := c_canMake (pl := pl) (it := it) (im := st im 108 0 (drS (drS (im 108 0)))) (hc.keepR (st_row (by have h : pl = 3 ∨ pl = 10 := hC; omega))) (drV (drS (drS (im 108 0))) (im pl 2)); rw [cmB_108 hC] at q; exact q) ⟨by decide, by decide⟩ kd_17 ln_17 cl_0 (Nat.le_of_ble_eq_true rfl) ⟨Nat.le_refl _, Nat.le_refl _⟩ ?_
      refine r_bz_eq (tgt := 69) dX8_doByDraw_51 (by decide) (fun h51 => ?_) (fun h51 => ?_)
      · refine r_goto (tgt := 159) dX8_doByDraw_69 (by decide) ?_
        exact r_vret dX8_doByDraw_159 rfl (by simp only [dwX, eq_self, Bool.false_eq_true, Bool.true_eq_false, if_true, if_false, reduceIte, true_and, and_true, false_and, and_false, true_or, or_true, false_or, or_false, not_true_eq_false, not_false_eq_true, Bool.not_true, Bool.not_false, Bool.true_and, Bool.and_true, Bool.false_and, Bool.and_false, decide_true, decide_false, eq_true h11, h21, h51]) (Nat.le_refl _) (Nat.le_refl _)
      · refine r_aload_n dX8_doByDraw_54 rfl ?_
        refine r_getr fl_X8_30 dX8_doByDraw_55 kd_0 ln_0 rfl rfl ?_
        refine r_dup dX8_doByDraw_58 rfl ?_
        refine r_getx (x := im 17 4) fl_X8_124 dX8_doByDraw_59 kd_17 ln_17 rfl (by rw [st_row (by decide)]) ?_
        refine r_iconst (v := 1) dX8_doByDraw_62 (by decide) ?_
        refine r_iload_n dX8_doByDraw_63 rfl ?_
        refine r_ishl dX8_doByDraw_64 ?_
        refine r_ior dX8_doByDraw_65 ?_
        refine r_pi fl_X8_124 dX8_doByDraw_66 kd_17 ln_17 rfl ?_
        refine r_goto (tgt := 159) dX8_doByDraw_69 (by decide) ?_
        exact r_vret dX8_doByDraw_159 rfl (by simp only [dwX, eq_self, Bool.false_eq_true, Bool.true_eq_false, if_true, if_false, reduceIte, true_and, and_true, false_and, and_false, true_or, or_true, false_or, or_false, not_true_eq_false, not_false_eq_true, Bool.not_true, Bool.not_false, Bool.true_and, Bool.and_true, Bool.false_and, Bool.and_false, decide_true, decide_false, eq_true h11, h21, h51]) (Nat.le_refl _) (Nat.le_refl _)

theorem pl_ne {pl : Nat} (h : isC pl) : (pl = 3 ∨ pl = 10) := h

set_option maxRecDepth 100000 in
set_option maxHeartbeats 4000000 in
theorem c_drift {im : IM} {pl it : Nat} (hc : CA im pl) (hE0 : HE im) (hz : HZ im) (x : Int32) : MT YX8_drift 4 0 0 [.ref 0, .int x] 137 im (RR pl it) (some (.int (dfV im pl x)), 137, dfX im pl x, RR pl it) := by
  obtain ⟨hC, W, T, S, hW, hW8, hT, hT6, hS, hS5⟩ := id hc
  have htW : tn (im pl 0) = W := by rw [hW, tn_nI (by omega)]
  have htT : tn (im pl 2) = T := by rw [hT, tn_nI (by omega)]
  have htS : tn (im pl 6) = S := by rw [hS, tn_nI (by omega)]
  refine mt_of (by decide +kernel) (Nat.le_of_ble_eq_true rfl) ?_
  show WW _ _ _ _ _ _ _ 0 [(0, .ref 0), (1, .int x)] [] _ _ _
  refine r_aload_n dX8_drift_0 rfl ?_
  refine r_iload_n dX8_drift_1 rfl ?_
  refine r_V1s cv_X8_182 dX8_drift_2 (c_refusal hc x) ⟨by decide, by decide⟩ kd_0 ln_0 cl_8 (Nat.le_of_ble_eq_true rfl) ⟨Nat.le_refl _, Nat.le_refl _⟩ ?_
  refine r_istore_n dX8_drift_5 (by decide) ?_
  refine r_iload_n dX8_drift_6 rfl ?_
  refine r_if_eq (tgt := 12) dX8_drift_7 (by decide) (fun h7 => ?_) (fun h7 => ?_)
  · obtain ⟨jw, hj1, hj60, hj⟩ := rfD_nat h7
    have htt : tn x = jw := by rw [hj, tn_nI (by omega)]
    refine r_aload_n dX8_drift_12 rfl ?_
    refine r_getr fl_X8_37 dX8_drift_13 kd_0 ln_0 rfl rfl ?_
    refine r_aload_n dX8_drift_16 rfl ?_
    refine r_getr fl_X8_30 dX8_drift_17 kd_0 ln_0 rfl rfl ?_
    refine r_V1n cv_X8_185 dX8_drift_20 (c_remember hE0 (hz 17 isA_17).1 (hz 17 isA_17).2) ⟨by decide, by decide⟩ kd_21 ln_21 cl_5 (Nat.le_of_ble_eq_true rfl) ⟨Nat.le_refl _, Nat.le_refl _⟩ ?_
    refine r_iconst (v := 0) dX8_drift_23 (by decide) ?_
    refine r_istore_n dX8_drift_24 (by decide) ?_
    refine r_lv (lv' := [(0, .ref 0), (1, .int x), (3, .int (nI 0))]) (al_cons rfl (al_cons rfl (al_int rfl (by exact (cI 0)) al_nil))) ?_
    refine r_im (im' := itV pl 0 (rmX im)) rfl ?_
    refine WW.loop (fun t => [(0, .ref 0), (1, .int x), (3, .int (nI t))]) (fun t => itV pl t (rmX im)) (N := jw) ?_ ?_ 0 (Nat.zero_le _)
    · show WW _ _ _ _ _ _ _ 25 [(0, .ref 0), (1, .int x), (3, .int (nI jw))] _ _ (itV pl jw (rmX im)) _
      refine r_iload_n dX8_drift_25 rfl ?_
      refine r_iload_n dX8_drift_26 rfl ?_
      refine r_icmp_ge_t (tgt := 51) dX8_drift_27 (by decide) (ix_le hj rfl (by omega) (by omega)) ?_
      refine r_aload_n dX8_drift_51 rfl ?_
      refine r_V0s cv_X8_127 dX8_drift_52 (by have h : pl = 3 ∨ pl = 10 := hC; have q := c_waysLeft (pl := pl) (it := it) (im := itV pl jw (rmX im)) (hc.keepR (by have h : pl = 3 ∨ pl = 10 := hC; rw [itV_row (by omega) (by omega) (by omega) (by omega)]; exact rmX_row hE0 (by omega))); rw [wlX, itV_row (by omega) (by omega) (by omega) (by omega), itV_row (by omega) (by omega) (by omega) (by omega), rmX_row hE0 (by omega), rmX_row hE0 (by omega)] at q; exact q) ⟨by decide, by decide⟩ kd_0 ln_0 cl_8 (Nat.le_of_ble_eq_true rfl) ⟨Nat.le_refl _, Nat.le_refl _⟩ ?_
      exact r_iret dX8_drift_55 rfl (by simp only [dfV, dfX, eq_self, Bool.false_eq_true, Bool.true_eq_false, if_true, if_false, reduceIte, eq_true h7, htt]) (Nat.le_refl _) (Nat.le_refl _)
    · intro t ht iht
      show WW _ _ _ _ _ _ _ 25 [(0, .ref 0), (1, .int x), (3, .int (nI t))] _ _ (itV pl t (rmX im)) _
      refine r_iload_n dX8_drift_25 rfl ?_
      refine r_iload_n dX8_drift_26 rfl ?_
      refine r_icmp_ge_f (tgt := 51) dX8_drift_27 (by decide) (ix_nle hj rfl (by omega) (by omega)) ?_
      refine r_aload_n dX8_drift_30 rfl ?_
      refine r_V0n cv_X8_213 dX8_drift_31 (c_doByDraw (hc.keepR (by have h : pl = 3 ∨ pl = 10 := hC; rw [itV_row (by omega) (by omega) (by omega) (by omega)]; exact rmX_row hE0 (by omega)))) ⟨by decide, by decide⟩ kd_0 ln_0 cl_8 (Nat.le_of_ble_eq_true rfl) ⟨Nat.le_refl _, Nat.le_refl _⟩ ?_
      refine r_aload_n dX8_drift_34 rfl ?_
      refine r_getr fl_X8_30 dX8_drift_35 kd_0 ln_0 rfl rfl ?_
      refine r_aload_n dX8_drift_38 rfl ?_
      refine r_getr fl_X8_23 dX8_drift_39 kd_0 ln_0 rfl rfl ?_
      refine r_V1n cv_X8_189 dX8_drift_42 (c_passDay (hc.keepR (by have h : pl = 3 ∨ pl = 10 := hC; rw [dwX_row (by omega) (by omega) (by omega), itV_row (by omega) (by omega) (by omega) (by omega)]; exact rmX_row hE0 (by omega)))) ⟨by decide, by decide⟩ kd_17 ln_17 cl_0 (Nat.le_of_ble_eq_true rfl) ⟨Nat.le_refl _, Nat.le_refl _⟩ ?_
      refine r_iinc dX8_drift_45 rfl (by decide) (ix_inc rfl) ?_
      refine r_goto (tgt := 25) dX8_drift_48 (by decide) ?_
      refine r_lv (lv' := [(0, .ref 0), (1, .int x), (3, .int (nI (t + 1)))]) (al_cons rfl (al_cons rfl (al_cons rfl al_nil))) ?_
      refine r_im (im' := itV pl (t + 1) (rmX im)) rfl ?_
      exact iht
  · refine r_iload_n dX8_drift_10 rfl ?_
    exact r_iret dX8_drift_11 rfl (by simp only [dfV, dfX, eq_self, Bool.false_eq_true, Bool.true_eq_false, if_true, if_false, reduceIte, h7]) (Nat.le_refl _) (Nat.le_refl _)

set_option maxRecDepth 100000 in
set_option maxHeartbeats 4000000 in
theorem c_beginAnew {im : IM} {pl it : Nat} (hc : CA im pl) : MT YX8_beginAnew 2 0 0 [.ref 0] 137 im (RR pl it) (none, 137, bnX im pl, RR pl it) := by
  obtain ⟨hC, W, T, S, hW, hW8, hT, hT6, hS, hS5⟩ := id hc
  have htW : tn (im pl 0) = W := by rw [hW, tn_nI (by omega)]
  have htT : tn (im pl 2) = T := by rw [hT, tn_nI (by omega)]
  have htS : tn (im pl 6) = S := by rw [hS, tn_nI (by omega)]
  refine mt_of (by decide +kernel) (Nat.le_of_ble_eq_true rfl) ?_
  show WW _ _ _ _ _ _ _ 0 [(0, .ref 0)] [] _ _ _
  refine r_aload_n dX8_beginAnew_0 rfl ?_
  refine r_getr fl_X8_30 dX8_beginAnew_1 kd_0 ln_0 rfl rfl ?_
  refine r_aload_n dX8_beginAnew_4 rfl ?_
  refine r_getr fl_X8_23 dX8_beginAnew_5 kd_0 ln_0 rfl rfl ?_
  refine r_V1n cv_X8_280 dX8_beginAnew_8 (c_begin hc) ⟨by decide, by decide⟩ kd_17 ln_17 cl_0 (Nat.le_of_ble_eq_true rfl) ⟨Nat.le_refl _, Nat.le_refl _⟩ ?_
  refine r_aload_n dX8_beginAnew_11 rfl ?_
  refine r_getr fl_X8_37 dX8_beginAnew_12 kd_0 ln_0 rfl rfl ?_
  refine r_V0n cv_X8_277 dX8_beginAnew_15 c_forget ⟨by decide, by decide⟩ kd_21 ln_21 cl_5 (Nat.le_of_ble_eq_true rfl) ⟨Nat.le_refl _, Nat.le_refl _⟩ ?_
  refine r_aload_n dX8_beginAnew_18 rfl ?_
  refine r_getr fl_X8_44 dX8_beginAnew_19 kd_0 ln_0 rfl rfl ?_
  refine r_iconst (v := 0) dX8_beginAnew_22 (by decide) ?_
  refine r_pi fl_X8_140 dX8_beginAnew_23 kd_103 ln_103 rfl ?_
  refine r_aload_n dX8_beginAnew_26 rfl ?_
  refine r_getr fl_X8_51 dX8_beginAnew_27 kd_0 ln_0 rfl rfl ?_
  refine r_iconst (v := 0) dX8_beginAnew_30 (by decide) ?_
  refine r_pi fl_X8_141 dX8_beginAnew_31 kd_106 ln_106 rfl ?_
  refine r_iconst (v := 0) dX8_beginAnew_34 (by decide) ?_
  refine r_istore_n dX8_beginAnew_35 (by decide) ?_
  refine r_iload_n dX8_beginAnew_36 rfl ?_
  refine r_iconst (v := 2) dX8_beginAnew_37 (by decide) ?_
  refine r_icmp_ge_f (tgt := 57) dX8_beginAnew_38 (by decide) (by decide) ?_
  refine r_aload_n dX8_beginAnew_41 rfl ?_
  refine r_getr fl_X8_64 dX8_beginAnew_42 kd_0 ln_0 rfl rfl ?_
  refine r_iload_n dX8_beginAnew_45 rfl ?_
  refine r_aald (j := 0) dX8_beginAnew_46 kd_109 (Or.inr rfl) ln_109 (cI 0) (by omega) (by decide) rfl ?_
  refine r_iconst (v := 0) dX8_beginAnew_47 (by decide) ?_
  refine r_pz fl_X8_265 dX8_beginAnew_48 kd_110 ln_110 rfl ⟨nar0, rfl⟩ ?_
  refine r_iinc (v := 1) dX8_beginAnew_51 rfl (by decide) (by decide) ?_
  refine r_goto (tgt := 36) dX8_beginAnew_54 (by decide) ?_
  refine r_iload_n dX8_beginAnew_36 rfl ?_
  refine r_iconst (v := 2) dX8_beginAnew_37 (by decide) ?_
  refine r_icmp_ge_f (tgt := 57) dX8_beginAnew_38 (by decide) (by decide) ?_
  refine r_aload_n dX8_beginAnew_41 rfl ?_
  refine r_getr fl_X8_64 dX8_beginAnew_42 kd_0 ln_0 rfl rfl ?_
  refine r_iload_n dX8_beginAnew_45 rfl ?_
  refine r_aald (j := 1) dX8_beginAnew_46 kd_109 (Or.inr rfl) ln_109 (cI 1) (by omega) (by decide) rfl ?_
  refine r_iconst (v := 0) dX8_beginAnew_47 (by decide) ?_
  refine r_pz fl_X8_265 dX8_beginAnew_48 kd_115 ln_115 rfl ⟨nar0, rfl⟩ ?_
  refine r_iinc (v := 2) dX8_beginAnew_51 rfl (by decide) (by decide) ?_
  refine r_goto (tgt := 36) dX8_beginAnew_54 (by decide) ?_
  refine r_iload_n dX8_beginAnew_36 rfl ?_
  refine r_iconst (v := 2) dX8_beginAnew_37 (by decide) ?_
  refine r_icmp_ge_t (tgt := 57) dX8_beginAnew_38 (by decide) (by decide) ?_
  exact r_vret dX8_beginAnew_57 rfl rfl (Nat.le_refl _) (Nat.le_refl _)

