theorem lt_of_nle {x : Int32} (h : ¬ x ≤ 0) : 0 < x := Int32.not_le.mp h
theorem not_lt_of_le {x : Int32} (h : x ≤ 0) : ¬ 0 < x := Int32.not_lt.mpr h

set_option maxRecDepth 100000 in
set_option maxHeartbeats 4000000 in
theorem mcs_tail {G : IM} {pl it S : Nat} {x : Int32} (hS : G 122 2 = nI S) (hS5 : S ≤ 5) : WW YX9_castle 6 0 0 (some (.int (G 122 0)), 137, zK (zS G (tn (G 122 2))), RR pl it) 0 0 251 [(0, .ref 120), (1, .int x)] [] 137 G (RR pl it) := by
  have htS : tn (G 122 2) = S := by rw [hS, tn_nI (by omega)]
  refine r_iconst (v := 0) dX9_castle_251 (by decide) ?_
  refine r_istore_n dX9_castle_252 (by decide) ?_
  refine r_lv (lv' := [(0, .ref 120), (1, .int (nI 0))]) (al_cons rfl (al_int rfl (by exact (cI 0)) al_nil)) ?_
  refine r_im (im' := zS G 0) rfl ?_
  refine WW.loop (fun t => [(0, .ref 120), (1, .int (nI t))]) (fun t => zS G t) (N := S) ?_ ?_ 0 (Nat.zero_le _)
  · show WW _ _ _ _ _ _ _ 253 [(0, .ref 120), (1, .int (nI S))] _ _ (zS G S) _
    refine r_iload_n dX9_castle_253 rfl ?_
    refine r_aload_n dX9_castle_254 rfl ?_
    refine r_getr fl_X9_17 dX9_castle_255 kd_120 ln_120 rfl rfl ?_
    refine r_iconst (v := 2) dX9_castle_258 (by decide) ?_
    refine r_ialx (j := 2) (x := G 122 2) dX9_castle_259 kd_122 ln_122 (cI 2) (by omega) (by decide) (by rw [zS_row (by decide)]) ?_
    refine r_icmp_ge_t (tgt := 288) dX9_castle_260 (by decide) (ix_le hS rfl (by omega) (by omega)) ?_
    refine r_aload_n dX9_castle_288 rfl ?_
    refine r_iconst (v := 0) dX9_castle_289 (by decide) ?_
    refine r_pi fl_X9_126 dX9_castle_290 kd_120 ln_120 rfl ?_
    refine r_aload_n dX9_castle_293 rfl ?_
    refine r_iconst (v := 0) dX9_castle_294 (by decide) ?_
    refine r_pi fl_X9_129 dX9_castle_295 kd_120 ln_120 rfl ?_
    refine r_aload_n dX9_castle_298 rfl ?_
    refine r_iconst (v := 0) dX9_castle_299 (by decide) ?_
    refine r_pi fl_X9_132 dX9_castle_300 kd_120 ln_120 rfl ?_
    refine r_aload_n dX9_castle_303 rfl ?_
    refine r_getr fl_X9_53 dX9_castle_304 kd_120 ln_120 rfl rfl ?_
    refine r_iconst (v := 0) dX9_castle_307 (by decide) ?_
    refine r_iconst (v := 0) dX9_castle_308 (by decide) ?_
    refine r_zs (j := 0) dX9_castle_309 kd_134 ln_134 (cI 0) (by omega) (by decide) nar0 ?_
    refine r_aload_n dX9_castle_310 rfl ?_
    refine r_getr fl_X9_53 dX9_castle_311 kd_120 ln_120 rfl rfl ?_
    refine r_iconst (v := 1) dX9_castle_314 (by decide) ?_
    refine r_iconst (v := 0) dX9_castle_315 (by decide) ?_
    refine r_zs (j := 1) dX9_castle_316 kd_134 ln_134 (cI 1) (by omega) (by decide) nar0 ?_
    refine r_aload_n dX9_castle_317 rfl ?_
    refine r_getr fl_X9_17 dX9_castle_318 kd_120 ln_120 rfl rfl ?_
    refine r_iconst (v := 0) dX9_castle_321 (by decide) ?_
    refine r_ialx (j := 0) (x := G 122 0) dX9_castle_322 kd_122 ln_122 (cI 0) (by omega) (by decide) (by simp only [st_at]; rw [zS_row (by decide)]; rfl) ?_
    exact r_iret dX9_castle_323 rfl (by rw [htS, zK]) (Nat.le_refl _) (Nat.le_refl _)
  · intro t ht iht
    show WW _ _ _ _ _ _ _ 253 [(0, .ref 120), (1, .int (nI t))] _ _ (zS G t) _
    refine r_iload_n dX9_castle_253 rfl ?_
    refine r_aload_n dX9_castle_254 rfl ?_
    refine r_getr fl_X9_17 dX9_castle_255 kd_120 ln_120 rfl rfl ?_
    refine r_iconst (v := 2) dX9_castle_258 (by decide) ?_
    refine r_ialx (j := 2) (x := G 122 2) dX9_castle_259 kd_122 ln_122 (cI 2) (by omega) (by decide) (by rw [zS_row (by decide)]) ?_
    refine r_icmp_ge_f (tgt := 288) dX9_castle_260 (by decide) (ix_nle hS rfl (by omega) (by omega)) ?_
    refine r_aload_n dX9_castle_263 rfl ?_
    refine r_getr fl_X9_41 dX9_castle_264 kd_120 ln_120 rfl rfl ?_
    refine r_bipush (v := 6) dX9_castle_267 (by decide) ?_
    refine r_iconst (v := 3) dX9_castle_269 (by decide) ?_
    refine r_iload_n dX9_castle_270 rfl ?_
    refine r_imul dX9_castle_271 ?_
    refine r_iadd dX9_castle_272 ?_
    refine r_aload_n dX9_castle_273 rfl ?_
    refine r_getr fl_X9_26 dX9_castle_274 kd_120 ln_120 rfl rfl ?_
    refine r_iconst (v := 2) dX9_castle_277 (by decide) ?_
    refine r_iload_n dX9_castle_278 rfl ?_
    refine r_imul dX9_castle_279 ?_
    refine r_ialx (j := 2 * t) (x := G 125 (2 * t)) dX9_castle_280 kd_125 ln_125 (ix_mul (cI 2) rfl) (by omega) (by decide) (by rw [zS_row (by decide)]) ?_
    refine r_as (j := 6 + (3 * t)) dX9_castle_281 kd_130 ln_130 (ix_add (cI 6) (ix_mul (cI 3) rfl)) (by omega) (by decide) ?_
    refine r_iinc dX9_castle_282 rfl (by decide) (ix_inc rfl) ?_
    refine r_goto (tgt := 253) dX9_castle_285 (by decide) ?_
    refine r_lv (lv' := [(0, .ref 120), (1, .int (nI (t + 1)))]) (al_cons rfl (al_cons rfl al_nil)) ?_
    refine r_im (im' := zS G (t + 1)) rfl ?_
    exact iht

set_option maxRecDepth 100000 in
set_option maxHeartbeats 4000000 in
theorem mcs_mid {E : IM} {pl it S : Nat} {x : Int32} (hS : E 122 2 = nI S) (hS5 : S ≤ 5) : WW YX9_castle 6 0 0 (some (.int (E 122 0)), 137, zK (zS (zG E) (tn (E 122 2))), RR pl it) 0 0 198 [(0, .ref 120), (1, .int x)] [] 137 E (RR pl it) := by
  have hT : ∀ {x : Int32}, WW YX9_castle 6 0 0 (some (.int (E 122 0)), 137, zK (zS (zG E) (tn (E 122 2))), RR pl it) 0 0 251 [(0, .ref 120), (1, .int x)] [] 137 (zG E) (RR pl it) := by
    intro x
    have h := mcs_tail (G := zG E) (pl := pl) (it := it) (x := x) (S := S) (by rw [zG_row (by decide)]; exact hS) hS5
    rw [zG_row (by decide)] at h
    exact h
  refine r_iconst (v := 0) dX9_castle_198 (by decide) ?_
  refine r_istore_n dX9_castle_199 (by decide) ?_
  refine r_lv (lv' := [(0, .ref 120), (1, .int (nI 0))]) (al_cons rfl (al_int rfl (by exact (cI 0)) al_nil)) ?_
  refine r_im (im' := zW E 0) zW_in ?_
  refine WW.loop (fun t => [(0, .ref 120), (1, .int (nI t))]) (fun t => zW E t) (N := 21) ?_ ?_ 0 (Nat.zero_le _)
  · show WW _ _ _ _ _ _ _ 200 [(0, .ref 120), (1, .int (nI 21))] _ _ (zW E 21) _
    refine r_iload_n dX9_castle_200 rfl ?_
    refine r_bipush (v := 21) dX9_castle_201 (by decide) ?_
    refine r_icmp_ge_t (tgt := 219) dX9_castle_203 (by decide) (ix_le (cI 21) rfl (by omega) (by omega)) ?_
    refine r_aload_n dX9_castle_219 rfl ?_
    refine r_getr fl_X9_41 dX9_castle_220 kd_120 ln_120 rfl rfl ?_
    refine r_iconst (v := 2) dX9_castle_223 (by decide) ?_
    refine r_aload_n dX9_castle_224 rfl ?_
    refine r_getr fl_X9_17 dX9_castle_225 kd_120 ln_120 rfl rfl ?_
    refine r_iconst (v := 0) dX9_castle_228 (by decide) ?_
    refine r_ialx (j := 0) (x := E 122 0) dX9_castle_229 kd_122 ln_122 (cI 0) (by omega) (by decide) (by rw [zW_row (by decide)]) ?_
    refine r_if_le (tgt := 237) dX9_castle_230 (by decide) (fun h230 => ?_) (fun h230 => ?_)
    · refine r_iconst (v := 0) dX9_castle_237 (by decide) ?_
      refine r_as (j := 2) dX9_castle_238 kd_130 ln_130 (cI 2) (by omega) (by decide) ?_
      refine r_aload_n dX9_castle_239 rfl ?_
      refine r_getr fl_X9_41 dX9_castle_240 kd_120 ln_120 rfl rfl ?_
      refine r_iconst (v := 3) dX9_castle_243 (by decide) ?_
      refine r_aload_n dX9_castle_244 rfl ?_
      refine r_getr fl_X9_41 dX9_castle_245 kd_120 ln_120 rfl rfl ?_
      refine r_iconst (v := 2) dX9_castle_248 (by decide) ?_
      refine r_ialx (j := 2) (x := 0) dX9_castle_249 kd_130 ln_130 (cI 2) (by omega) (by decide) rfl ?_
      refine r_as (j := 3) dX9_castle_250 kd_130 ln_130 (cI 3) (by omega) (by decide) ?_
      refine r_im (im' := zG E) (by rw [zG, show bI (decide (0 < E 122 0)) = 0 by rw [bI, decide_eq_false (not_lt_of_le h230)]; rfl]) ?_
      exact hT
    · refine r_iconst (v := 1) dX9_castle_233 (by decide) ?_
      refine r_goto (tgt := 238) dX9_castle_234 (by decide) ?_
      refine r_as (j := 2) dX9_castle_238 kd_130 ln_130 (cI 2) (by omega) (by decide) ?_
      refine r_aload_n dX9_castle_239 rfl ?_
      refine r_getr fl_X9_41 dX9_castle_240 kd_120 ln_120 rfl rfl ?_
      refine r_iconst (v := 3) dX9_castle_243 (by decide) ?_
      refine r_aload_n dX9_castle_244 rfl ?_
      refine r_getr fl_X9_41 dX9_castle_245 kd_120 ln_120 rfl rfl ?_
      refine r_iconst (v := 2) dX9_castle_248 (by decide) ?_
      refine r_ialx (j := 2) (x := 1) dX9_castle_249 kd_130 ln_130 (cI 2) (by omega) (by decide) rfl ?_
      refine r_as (j := 3) dX9_castle_250 kd_130 ln_130 (cI 3) (by omega) (by decide) ?_
      refine r_im (im' := zG E) (by rw [zG, show bI (decide (0 < E 122 0)) = 1 by rw [bI, decide_eq_true (lt_of_nle h230)]; rfl]) ?_
      exact hT
  · intro t ht iht
    show WW _ _ _ _ _ _ _ 200 [(0, .ref 120), (1, .int (nI t))] _ _ (zW E t) _
    refine r_iload_n dX9_castle_200 rfl ?_
    refine r_bipush (v := 21) dX9_castle_201 (by decide) ?_
    refine r_icmp_ge_f (tgt := 219) dX9_castle_203 (by decide) (ix_nle (cI 21) rfl (by omega) (by omega)) ?_
    refine r_aload_n dX9_castle_206 rfl ?_
    refine r_getr fl_X9_41 dX9_castle_207 kd_120 ln_120 rfl rfl ?_
    refine r_iload_n dX9_castle_210 rfl ?_
    refine r_iconst (v := 0) dX9_castle_211 (by decide) ?_
    refine r_as (j := t) dX9_castle_212 kd_130 ln_130 rfl (by omega) (by decide) ?_
    refine r_iinc dX9_castle_213 rfl (by decide) (ix_inc rfl) ?_
    refine r_goto (tgt := 200) dX9_castle_216 (by decide) ?_
    refine r_lv (lv' := [(0, .ref 120), (1, .int (nI (t + 1)))]) (al_cons rfl (al_cons rfl al_nil)) ?_
    refine r_im (im' := zW E (t + 1)) zW_go ?_
    exact iht

set_option maxRecDepth 100000 in
set_option maxHeartbeats 4000000 in
theorem mcs_cp {J : IM} {pl it S : Nat} {x : Int32} (hS : J 126 2 = nI S) (hS5 : S ≤ 5) : WW YX9_castle 6 0 0 (some (.int (zE J 122 0)), 137, zK (zS (zG (zE J)) (tn (zE J 122 2))), RR pl it) 0 0 139 [(0, .ref 120), (1, .int x)] [] 137 J (RR pl it) := by
  have hE : zE J 122 2 = nI S := by
    rw [← hS]
    simp only [zE, cyT]
    rfl
  refine r_aload_n dX9_castle_139 rfl ?_
  refine r_getr fl_X9_29 dX9_castle_140 kd_120 ln_120 rfl rfl ?_
  refine r_iconst (v := 0) dX9_castle_143 (by decide) ?_
  refine r_aload_n dX9_castle_144 rfl ?_
  refine r_getr fl_X9_17 dX9_castle_145 kd_120 ln_120 rfl rfl ?_
  refine r_iconst (v := 0) dX9_castle_148 (by decide) ?_
  refine r_iconst (v := 5) dX9_castle_149 (by decide) ?_
  refine r_S5n cv_X9_122 dX9_castle_150 (m_copies (im := J) kd_126 kd_122 ln_126 ln_122 (by decide) (by decide) (by decide) (by decide) (by decide) (cI 0) (cI 0) (cI 5)) ⟨by decide, by decide⟩ (Nat.le_of_ble_eq_true rfl) ⟨Nat.le_refl _, Nat.le_refl _⟩ ?_
  refine r_aload_n dX9_castle_153 rfl ?_
  refine r_getr fl_X9_32 dX9_castle_154 kd_120 ln_120 rfl rfl ?_
  refine r_iconst (v := 0) dX9_castle_157 (by decide) ?_
  refine r_aload_n dX9_castle_158 rfl ?_
  refine r_getr fl_X9_20 dX9_castle_159 kd_120 ln_120 rfl rfl ?_
  refine r_iconst (v := 0) dX9_castle_162 (by decide) ?_
  refine r_bipush (v := 8) dX9_castle_163 (by decide) ?_
  refine r_S5n cv_X9_122 dX9_castle_165 (m_copies (im := cyT J 126 0 122 0 5) kd_127 kd_123 ln_127 ln_123 (by decide) (by decide) (by decide) (by decide) (by decide) (cI 0) (cI 0) (cI 8)) ⟨by decide, by decide⟩ (Nat.le_of_ble_eq_true rfl) ⟨Nat.le_refl _, Nat.le_refl _⟩ ?_
  refine r_aload_n dX9_castle_168 rfl ?_
  refine r_getr fl_X9_35 dX9_castle_169 kd_120 ln_120 rfl rfl ?_
  refine r_iconst (v := 0) dX9_castle_172 (by decide) ?_
  refine r_aload_n dX9_castle_173 rfl ?_
  refine r_getr fl_X9_23 dX9_castle_174 kd_120 ln_120 rfl rfl ?_
  refine r_iconst (v := 0) dX9_castle_177 (by decide) ?_
  refine r_bipush (v := 18) dX9_castle_178 (by decide) ?_
  refine r_S5n cv_X9_122 dX9_castle_180 (m_copies (im := cyT (cyT J 126 0 122 0 5) 127 0 123 0 8) kd_128 kd_124 ln_128 ln_124 (by decide) (by decide) (by decide) (by decide) (by decide) (cI 0) (cI 0) (cI 18)) ⟨by decide, by decide⟩ (Nat.le_of_ble_eq_true rfl) ⟨Nat.le_refl _, Nat.le_refl _⟩ ?_
  refine r_aload_n dX9_castle_183 rfl ?_
  refine r_getr fl_X9_38 dX9_castle_184 kd_120 ln_120 rfl rfl ?_
  refine r_iconst (v := 0) dX9_castle_187 (by decide) ?_
  refine r_aload_n dX9_castle_188 rfl ?_
  refine r_getr fl_X9_26 dX9_castle_189 kd_120 ln_120 rfl rfl ?_
  refine r_iconst (v := 0) dX9_castle_192 (by decide) ?_
  refine r_bipush (v := 10) dX9_castle_193 (by decide) ?_
  refine r_S5n cv_X9_122 dX9_castle_195 (m_copies (im := cyT (cyT (cyT J 126 0 122 0 5) 127 0 123 0 8) 128 0 124 0 18) kd_129 kd_125 ln_129 ln_125 (by decide) (by decide) (by decide) (by decide) (by decide) (cI 0) (cI 0) (cI 10)) ⟨by decide, by decide⟩ (Nat.le_of_ble_eq_true rfl) ⟨Nat.le_refl _, Nat.le_refl _⟩ ?_
  exact mcs_mid (E := zE J) (S := S) hE hS5

set_option maxRecDepth 100000 in
set_option maxHeartbeats 4000000 in
theorem m_castle {im : IM} {pl it : Nat} (hL0 : HLm im) : MT YX9_castle 6 0 0 [.ref 120] 137 im (RR pl it) (some (.int (zcV im)), 137, zcM im, RR pl it) := by
  obtain ⟨L, hL, hL2⟩ := id hL0
  refine mt_of (by decide +kernel) (Nat.le_of_ble_eq_true rfl) ?_
  show WW _ _ _ _ _ _ _ 0 [(0, .ref 120)] [] _ _ _
  obtain ⟨W, T, S, hW, hW8, hT, hT6, hS, hS5⟩ := (zB_MZ (im := im) hL hL2).2
  have hDS : zD (zC (zB im)) 126 2 = nI S := by
    rw [← hS]
    unfold zD
    split
    · rw [st_ne (by omega), st_ne (by omega), zC, st_row (by decide), st_row (by decide)]
    · rw [zC, st_row (by decide), st_row (by decide)]
  refine r_aload_n dX9_castle_0 rfl ?_
  refine r_iconst (v := 0) dX9_castle_1 (by decide) ?_
  refine r_pi fl_X9_72 dX9_castle_2 kd_120 ln_120 rfl ?_
  refine r_aload_n dX9_castle_5 rfl ?_
  refine r_iconst (v := 0) dX9_castle_6 (by decide) ?_
  refine r_pi fl_X9_75 dX9_castle_7 kd_120 ln_120 rfl ?_
  refine r_iconst (v := 0) dX9_castle_10 (by decide) ?_
  refine r_istore_n dX9_castle_11 (by decide) ?_
  refine r_lv (lv' := [(0, .ref 120), (1, .int (nI 0))]) (al_cons rfl (al_int rfl (by exact (cI 0)) al_nil)) ?_
  refine r_im (im' := zZ (st (st im 120 22 0) 120 23 0) 0) rfl ?_
  refine WW.loop (fun t => [(0, .ref 120), (1, .int (nI t))]) (fun t => zZ (st (st im 120 22 0) 120 23 0) t) (N := 18) ?_ ?_ 0 (Nat.zero_le _)
  · show WW _ _ _ _ _ _ _ 12 [(0, .ref 120), (1, .int (nI 18))] _ _ (zZ (st (st im 120 22 0) 120 23 0) 18) _
    refine r_iload_n dX9_castle_12 rfl ?_
    refine r_bipush (v := 18) dX9_castle_13 (by decide) ?_
    refine r_icmp_ge_t (tgt := 60) dX9_castle_15 (by decide) (ix_le (cI 18) rfl (by omega) (by omega)) ?_
    refine r_aload_n dX9_castle_60 rfl ?_
    refine r_V0n cv_X9_82 dX9_castle_61 (m_skips (im := zA im) (zA_MZ hL hL2).1) ⟨by decide, by decide⟩ kd_120 ln_120 cl_9 (Nat.le_of_ble_eq_true rfl) ⟨Nat.le_refl _, Nat.le_refl _⟩ ?_
    refine r_aload_n dX9_castle_64 rfl ?_
    refine r_V0n cv_X9_119 dX9_castle_65 (m_reads (n := 240) (zA_MZ hL hL2).skz (by omega)) ⟨by decide, by decide⟩ kd_120 ln_120 cl_9 (Nat.le_of_ble_eq_true rfl) ⟨Nat.le_refl _, Nat.le_refl _⟩ ?_
    refine r_im (im' := zB im) rfl ?_
    refine r_im (im' := zB im) rfl ?_
    refine r_aload_n dX9_castle_68 rfl ?_
    refine r_iconst (v := 0) dX9_castle_69 (by decide) ?_
    refine r_pi fl_X9_68 dX9_castle_70 kd_120 ln_120 rfl ?_
    refine r_aload_n dX9_castle_73 rfl ?_
    refine r_aload_n dX9_castle_74 rfl ?_
    refine r_getx (x := zB im 120 23) fl_X9_75 dX9_castle_75 kd_120 ln_120 rfl (st_ne (by decide)) ?_
    refine r_if_ne (tgt := 85) dX9_castle_78 (by decide) (fun h78 => ?_) (fun h78 => ?_)
    · refine r_aload_n dX9_castle_85 rfl ?_
      refine r_getx (x := zB im 120 22) fl_X9_72 dX9_castle_86 kd_120 ln_120 rfl (st_ne (by decide)) ?_
      refine r_pi fl_X9_13 dX9_castle_89 kd_120 ln_120 rfl ?_
      refine r_aload_n dX9_castle_92 rfl ?_
      refine r_getx (x := zB im 120 23) fl_X9_75 dX9_castle_93 kd_120 ln_120 rfl ((st_ne (by decide)).trans (st_ne (by decide))) ?_
      refine r_if_eq_f (tgt := 107) dX9_castle_96 (by decide) h78 ?_
      refine r_bipush (v := (-10)) dX9_castle_99 (by decide) ?_
      refine r_aload_n dX9_castle_101 rfl ?_
      refine r_getx (x := zB im 120 23) fl_X9_75 dX9_castle_102 kd_120 ln_120 rfl ((st_ne (by decide)).trans (st_ne (by decide))) ?_
      refine r_isub dX9_castle_105 ?_
      exact r_iret dX9_castle_106 rfl (by rw [zcV, zcM, if_neg h78, if_neg h78, zC, if_neg h78]) (Nat.le_refl _) (Nat.le_refl _)
    · refine r_iconst (v := (-1)) dX9_castle_81 (by decide) ?_
      refine r_goto (tgt := 89) dX9_castle_82 (by decide) ?_
      refine r_pi fl_X9_13 dX9_castle_89 kd_120 ln_120 rfl ?_
      refine r_aload_n dX9_castle_92 rfl ?_
      refine r_getx (x := zB im 120 23) fl_X9_75 dX9_castle_93 kd_120 ln_120 rfl ((st_ne (by decide)).trans (st_ne (by decide))) ?_
      refine r_if_eq_t (tgt := 107) dX9_castle_96 (by decide) h78 ?_
      refine r_aload_n dX9_castle_107 rfl ?_
      refine r_getr fl_X9_29 dX9_castle_108 kd_120 ln_120 rfl rfl ?_
      refine r_iconst (v := 0) dX9_castle_111 (by decide) ?_
      refine r_ialx (j := 0) (x := zB im 126 0) dX9_castle_112 kd_126 ln_126 (cI 0) (by omega) (by decide) ((st_ne (by decide)).trans (st_ne (by decide))) ?_
      refine r_if_le (tgt := 139) dX9_castle_113 (by decide) (fun h113 => ?_) (fun h113 => ?_)
      · rw [zcV, zcM, if_pos h78, if_pos h78]
        refine r_im (im' := zD (zC (zB im))) (by rw [zD, if_neg (fun z => not_lt_of_le h113 z.1), zC, if_pos h78]) ?_
        exact mcs_cp hDS hS5
      · refine r_aload_n dX9_castle_116 rfl ?_
        refine r_getr fl_X9_29 dX9_castle_117 kd_120 ln_120 rfl rfl ?_
        refine r_iconst (v := 3) dX9_castle_120 (by decide) ?_
        refine r_ialx (j := 3) (x := zB im 126 3) dX9_castle_121 kd_126 ln_126 (cI 3) (by omega) (by decide) ((st_ne (by decide)).trans (st_ne (by decide))) ?_
        refine r_if_ne (tgt := 139) dX9_castle_122 (by decide) (fun h122 => ?_) (fun h122 => ?_)
        · rw [zcV, zcM, if_pos h78, if_pos h78]
          refine r_im (im' := zD (zC (zB im))) (by rw [zD, if_neg (fun z => h122 z.2), zC, if_pos h78]) ?_
          exact mcs_cp hDS hS5
        · refine r_aload_n dX9_castle_125 rfl ?_
          refine r_getr fl_X9_29 dX9_castle_126 kd_120 ln_120 rfl rfl ?_
          refine r_iconst (v := 3) dX9_castle_129 (by decide) ?_
          refine r_iconst (v := 1) dX9_castle_130 (by decide) ?_
          refine r_as (j := 3) dX9_castle_131 kd_126 ln_126 (cI 3) (by omega) (by decide) ?_
          refine r_aload_n dX9_castle_132 rfl ?_
          refine r_getr fl_X9_29 dX9_castle_133 kd_120 ln_120 rfl rfl ?_
          refine r_iconst (v := 4) dX9_castle_136 (by decide) ?_
          refine r_iconst (v := 1) dX9_castle_137 (by decide) ?_
          refine r_as (j := 4) dX9_castle_138 kd_126 ln_126 (cI 4) (by omega) (by decide) ?_
          rw [zcV, zcM, if_pos h78, if_pos h78]
          refine r_im (im' := zD (zC (zB im))) (by rw [zD, if_pos ⟨lt_of_nle h113, h122⟩, zC, if_pos h78]) ?_
          exact mcs_cp hDS hS5
  · intro t ht iht
    show WW _ _ _ _ _ _ _ 12 [(0, .ref 120), (1, .int (nI t))] _ _ (zZ (st (st im 120 22 0) 120 23 0) t) _
    refine r_iload_n dX9_castle_12 rfl ?_
    refine r_bipush (v := 18) dX9_castle_13 (by decide) ?_
    refine r_icmp_ge_f (tgt := 60) dX9_castle_15 (by decide) (ix_nle (cI 18) rfl (by omega) (by omega)) ?_
    refine r_aload_n dX9_castle_18 rfl ?_
    refine r_getr fl_X9_29 dX9_castle_19 kd_120 ln_120 rfl rfl ?_
    refine r_iload_n dX9_castle_22 rfl ?_
    refine r_iconst (v := 5) dX9_castle_23 (by decide) ?_
    refine r_irem dX9_castle_24 (by decide) ?_
    refine r_iconst (v := 0) dX9_castle_25 (by decide) ?_
    refine r_as (j := t % 5) dX9_castle_26 kd_126 ln_126 (rem_k (d := 5) rfl (by omega) (by omega) (by omega)) (by omega) (by decide) ?_
    refine r_aload_n dX9_castle_27 rfl ?_
    refine r_getr fl_X9_32 dX9_castle_28 kd_120 ln_120 rfl rfl ?_
    refine r_iload_n dX9_castle_31 rfl ?_
    refine r_bipush (v := 8) dX9_castle_32 (by decide) ?_
    refine r_irem dX9_castle_34 (by decide) ?_
    refine r_iconst (v := 0) dX9_castle_35 (by decide) ?_
    refine r_as (j := t % 8) dX9_castle_36 kd_127 ln_127 (rem_k (d := 8) rfl (by omega) (by omega) (by omega)) (by omega) (by decide) ?_
    refine r_aload_n dX9_castle_37 rfl ?_
    refine r_getr fl_X9_35 dX9_castle_38 kd_120 ln_120 rfl rfl ?_
    refine r_iload_n dX9_castle_41 rfl ?_
    refine r_iconst (v := 0) dX9_castle_42 (by decide) ?_
    refine r_as (j := t) dX9_castle_43 kd_128 ln_128 rfl (by omega) (by decide) ?_
    refine r_aload_n dX9_castle_44 rfl ?_
    refine r_getr fl_X9_38 dX9_castle_45 kd_120 ln_120 rfl rfl ?_
    refine r_iload_n dX9_castle_48 rfl ?_
    refine r_bipush (v := 10) dX9_castle_49 (by decide) ?_
    refine r_irem dX9_castle_51 (by decide) ?_
    refine r_iconst (v := 0) dX9_castle_52 (by decide) ?_
    refine r_as (j := t % 10) dX9_castle_53 kd_129 ln_129 (rem_k (d := 10) rfl (by omega) (by omega) (by omega)) (by omega) (by decide) ?_
    refine r_iinc dX9_castle_54 rfl (by decide) (ix_inc rfl) ?_
    refine r_goto (tgt := 12) dX9_castle_57 (by decide) ?_
    refine r_lv (lv' := [(0, .ref 120), (1, .int (nI (t + 1)))]) (al_cons rfl (al_cons rfl al_nil)) ?_
    refine r_im (im' := zZ (st (st im 120 22 0) 120 23 0) (t + 1)) rfl ?_
    exact iht

