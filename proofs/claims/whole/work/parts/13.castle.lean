set_option maxRecDepth 100000 in
set_option maxHeartbeats 4000000 in
theorem c_within {n : Nat} {im : IM} {rm : RM} (x a c : Int32) : MT YX8_within 0 0 0 [.int x, .int a, .int c] n im rm (some (.int (bI (inB x a c))), n, im, rm) := by
  refine mt_of (by decide +kernel) (Nat.le_of_ble_eq_true rfl) ?_
  show WW _ _ _ _ _ _ _ 0 [(0, .int x), (1, .int a), (2, .int c)] [] _ _ _
  refine r_iload_n dX8_within_0 rfl ?_
  refine r_iload_n dX8_within_1 rfl ?_
  refine r_icmp_lt (tgt := 14) dX8_within_2 (by decide) (fun h2 => ?_) (fun h2 => ?_)
  · refine r_iconst (v := 0) dX8_within_14 (by decide) ?_
    exact r_zret dX8_within_15 rfl nar0 (by simp [inB, bI, h2]) (Nat.le_refl _) (Nat.le_refl _)
  · refine r_iload_n dX8_within_5 rfl ?_
    refine r_iload_n dX8_within_6 rfl ?_
    refine r_icmp_gt (tgt := 14) dX8_within_7 (by decide) (fun h7 => ?_) (fun h7 => ?_)
    · refine r_iconst (v := 0) dX8_within_14 (by decide) ?_
      exact r_zret dX8_within_15 rfl nar0 (by simp [inB, bI, h2, h7]) (Nat.le_refl _) (Nat.le_refl _)
    · refine r_iconst (v := 1) dX8_within_10 (by decide) ?_
      refine r_goto (tgt := 15) dX8_within_11 (by decide) ?_
      exact r_zret dX8_within_15 rfl nar1 (by simp [inB, bI, h2, h7]) (Nat.le_refl _) (Nat.le_refl _)

set_option maxRecDepth 100000 in
set_option maxHeartbeats 4000000 in
theorem c_has {n : Nat} {im : IM} {rm : RM} (x k : Int32) : MT YX8_has 0 0 0 [.int x, .int k] n im rm (some (.int (bI (hasB x k))), n, im, rm) := by
  refine mt_of (by decide +kernel) (Nat.le_of_ble_eq_true rfl) ?_
  show WW _ _ _ _ _ _ _ 0 [(0, .int x), (1, .int k)] [] _ _ _
  refine r_iload_n dX8_has_0 rfl ?_
  refine r_iload_n dX8_has_1 rfl ?_
  refine r_ishr dX8_has_2 ?_
  refine r_iconst (v := 1) dX8_has_3 (by decide) ?_
  refine r_iand dX8_has_4 ?_
  refine r_iconst (v := 1) dX8_has_5 (by decide) ?_
  refine r_icmp_ne (tgt := 13) dX8_has_6 (by decide) (fun h6 => ?_) (fun h6 => ?_)
  · refine r_iconst (v := 0) dX8_has_13 (by decide) ?_
    exact r_zret dX8_has_14 rfl nar0 (by simp [hasB, bI, h6]) (Nat.le_refl _) (Nat.le_refl _)
  · refine r_iconst (v := 1) dX8_has_9 (by decide) ?_
    refine r_goto (tgt := 14) dX8_has_10 (by decide) ?_
    exact r_zret dX8_has_14 rfl nar1 (by simp [hasB, bI, eq_true h6]) (Nat.le_refl _) (Nat.le_refl _)

section MINMAX
variable {Y : Card} {d mc ms : Nat} {R : Rs} {kc ks pc : Nat} {lv : LV} {sk : List Value} {n : Nat} {im : IM} {rm : RM} {idx : Nat}
theorem r_min {x y : Int32} (hc : CS Y.1.cls idx YJ9_min_7cf53 2) (hd : decode Y.2.1 pc = .ok (.invokestatic idx, 3)) (h1 : 1 ≤ d) (hw : (sk.map fun v => v.category).sum ≤ 8) (hm : kc ≤ mc ∧ ks ≤ ms)
    (kk : WW Y d mc ms R kc ks (pc + 3) lv (.int (mnI x y) :: sk) n im rm) : WW Y d mc ms R kc ks pc lv (.int y :: .int x :: sk) n im rm := by
  intro p l e s m args below meth c D ca b H locs ls C hl hP hF0 hL
  obtain ⟨hx, hb, hr, hml, hown, htb, hlocks, hK, hbs, hnm⟩ := id C
  obtain ⟨c1, c2, c4, c5, c6⟩ := hc
  refine va_mmin hx hb (hml.trans hl.1.symm) hown (htb _ c1 rfl) (htb _ c2 rfl) (htb _ c4 rfl) (htb _ c5 rfl) h1 ?_ hm.1 hm.2 hd (kk p l e s m args below meth c D ca b H locs ls C hl hP hF0 hL)
  rw [cat_sum]
  show _ + 13 ≤ 37 * d
  omega
theorem r_max {x y : Int32} (hc : CS Y.1.cls idx YJ9_max_7cf53 2) (hd : decode Y.2.1 pc = .ok (.invokestatic idx, 3)) (h1 : 1 ≤ d) (hw : (sk.map fun v => v.category).sum ≤ 8) (hm : kc ≤ mc ∧ ks ≤ ms)
    (kk : WW Y d mc ms R kc ks (pc + 3) lv (.int (mxI x y) :: sk) n im rm) : WW Y d mc ms R kc ks pc lv (.int y :: .int x :: sk) n im rm := by
  intro p l e s m args below meth c D ca b H locs ls C hl hP hF0 hL
  obtain ⟨hx, hb, hr, hml, hown, htb, hlocks, hK, hbs, hnm⟩ := id C
  obtain ⟨c1, c2, c4, c5, c6⟩ := hc
  refine va_mmax hx hb (hml.trans hl.1.symm) hown (htb _ c1 rfl) (htb _ c2 rfl) (htb _ c4 rfl) (htb _ c5 rfl) h1 ?_ hm.1 hm.2 hd (kk p l e s m args below meth c D ca b H locs ls C hl hP hF0 hL)
  rw [cat_sum]
  show _ + 13 ≤ 37 * d
  omega
end MINMAX

set_option maxRecDepth 100000 in
set_option maxHeartbeats 4000000 in
theorem c_bitCount {n : Nat} {im : IM} {rm : RM} (x : Int32) : MT YJ6_bitCount_0f7a4 0 0 0 [.int x] n im rm (some (.int (bcI x)), n, im, rm) := by
  refine mt_of (by decide +kernel) (Nat.le_of_ble_eq_true rfl) ?_
  show WW _ _ _ _ _ _ _ 0 [(0, .int x)] [] _ _ _
  refine r_iload_n dJ6_bitCount_0f7a4_0 rfl ?_
  refine r_iload_n dJ6_bitCount_0f7a4_1 rfl ?_
  refine r_iconst (v := 1) dJ6_bitCount_0f7a4_2 (by decide) ?_
  refine r_iushr dJ6_bitCount_0f7a4_3 rfl ?_
  refine r_ldcw dJ6_bitCount_0f7a4_4 kn_J6_265 ?_
  refine r_iand dJ6_bitCount_0f7a4_7 ?_
  refine r_isub dJ6_bitCount_0f7a4_8 ?_
  refine r_istore_n dJ6_bitCount_0f7a4_9 (by decide) ?_
  refine r_iload_n dJ6_bitCount_0f7a4_10 rfl ?_
  refine r_ldcw dJ6_bitCount_0f7a4_11 kn_J6_266 ?_
  refine r_iand dJ6_bitCount_0f7a4_14 ?_
  refine r_iload_n dJ6_bitCount_0f7a4_15 rfl ?_
  refine r_iconst (v := 2) dJ6_bitCount_0f7a4_16 (by decide) ?_
  refine r_iushr dJ6_bitCount_0f7a4_17 rfl ?_
  refine r_ldcw dJ6_bitCount_0f7a4_18 kn_J6_266 ?_
  refine r_iand dJ6_bitCount_0f7a4_21 ?_
  refine r_iadd dJ6_bitCount_0f7a4_22 ?_
  refine r_istore_n dJ6_bitCount_0f7a4_23 (by decide) ?_
  refine r_iload_n dJ6_bitCount_0f7a4_24 rfl ?_
  refine r_iload_n dJ6_bitCount_0f7a4_25 rfl ?_
  refine r_iconst (v := 4) dJ6_bitCount_0f7a4_26 (by decide) ?_
  refine r_iushr dJ6_bitCount_0f7a4_27 rfl ?_
  refine r_iadd dJ6_bitCount_0f7a4_28 ?_
  refine r_ldcw dJ6_bitCount_0f7a4_29 kn_J6_267 ?_
  refine r_iand dJ6_bitCount_0f7a4_32 ?_
  refine r_istore_n dJ6_bitCount_0f7a4_33 (by decide) ?_
  refine r_iload_n dJ6_bitCount_0f7a4_34 rfl ?_
  refine r_iload_n dJ6_bitCount_0f7a4_35 rfl ?_
  refine r_bipush (v := 8) dJ6_bitCount_0f7a4_36 (by decide) ?_
  refine r_iushr dJ6_bitCount_0f7a4_38 rfl ?_
  refine r_iadd dJ6_bitCount_0f7a4_39 ?_
  refine r_istore_n dJ6_bitCount_0f7a4_40 (by decide) ?_
  refine r_iload_n dJ6_bitCount_0f7a4_41 rfl ?_
  refine r_iload_n dJ6_bitCount_0f7a4_42 rfl ?_
  refine r_bipush (v := 16) dJ6_bitCount_0f7a4_43 (by decide) ?_
  refine r_iushr dJ6_bitCount_0f7a4_45 rfl ?_
  refine r_iadd dJ6_bitCount_0f7a4_46 ?_
  refine r_istore_n dJ6_bitCount_0f7a4_47 (by decide) ?_
  refine r_iload_n dJ6_bitCount_0f7a4_48 rfl ?_
  refine r_bipush (v := 63) dJ6_bitCount_0f7a4_49 (by decide) ?_
  refine r_iand dJ6_bitCount_0f7a4_51 ?_
  exact r_iret dJ6_bitCount_0f7a4_52 rfl rfl (Nat.le_refl _) (Nat.le_refl _)

set_option maxRecDepth 100000 in
set_option maxHeartbeats 4000000 in
theorem c_stands {im : IM} {pl it : Nat} {k : Nat} (hc : CA im k) : MT YX2_stands 0 0 0 [.ref k] 137 im (RR pl it) (some (.int (bI (decide (0 < im k 0)))), 137, im, RR pl it) := by
  obtain ⟨hC, W, T, S, hW, hW8, hT, hT6, hS, hS5⟩ := id hc
  refine mt_of (by decide +kernel) (Nat.le_of_ble_eq_true rfl) ?_
  show WW _ _ _ _ _ _ _ 0 [(0, .ref k)] [] _ _ _
  refine r_aload_n dX2_stands_0 rfl ?_
  refine r_geti fl_X2_9 dX2_stands_1 (kC0 hC) (lC0 hC) rfl ?_
  refine r_if_le (tgt := 11) dX2_stands_4 (by decide) (fun h4 => ?_) (fun h4 => ?_)
  · refine r_iconst (v := 0) dX2_stands_11 (by decide) ?_
    exact r_zret dX2_stands_12 rfl nar0 (by simp [bI, h4]) (Nat.le_refl _) (Nat.le_refl _)
  · refine r_iconst (v := 1) dX2_stands_7 (by decide) ?_
    refine r_goto (tgt := 12) dX2_stands_8 (by decide) ?_
    exact r_zret dX2_stands_12 rfl nar1 (by simp [bI, h4]) (Nat.le_refl _) (Nat.le_refl _)

set_option maxRecDepth 100000 in
set_option maxHeartbeats 4000000 in
theorem c_allWays {im : IM} {pl it : Nat} {k : Nat} (hc : CA im k) : MT YX2_allWays 0 0 0 [.ref k] 137 im (RR pl it) (some (.int (alS (im k 0))), 137, im, RR pl it) := by
  obtain ⟨hC, W, T, S, hW, hW8, hT, hT6, hS, hS5⟩ := id hc
  refine mt_of (by decide +kernel) (Nat.le_of_ble_eq_true rfl) ?_
  show WW _ _ _ _ _ _ _ 0 [(0, .ref k)] [] _ _ _
  refine r_iconst (v := 1) dX2_allWays_0 (by decide) ?_
  refine r_aload_n dX2_allWays_1 rfl ?_
  refine r_geti fl_X2_9 dX2_allWays_2 (kC0 hC) (lC0 hC) rfl ?_
  refine r_ishl dX2_allWays_5 ?_
  refine r_iconst (v := 1) dX2_allWays_6 (by decide) ?_
  refine r_isub dX2_allWays_7 ?_
  exact r_iret dX2_allWays_8 rfl rfl (Nat.le_refl _) (Nat.le_refl _)

set_option maxRecDepth 100000 in
set_option maxHeartbeats 4000000 in
theorem c_hasWay {im : IM} {pl it : Nat} {k : Nat} (hc : CA im k) (x : Int32) : MT YX2_hasWay 1 0 0 [.ref k, .int x] 137 im (RR pl it) (some (.int (bI (inB x 0 (im k 0 - 1)))), 137, im, RR pl it) := by
  obtain ⟨hC, W, T, S, hW, hW8, hT, hT6, hS, hS5⟩ := id hc
  refine mt_of (by decide +kernel) (Nat.le_of_ble_eq_true rfl) ?_
  show WW _ _ _ _ _ _ _ 0 [(0, .ref k), (1, .int x)] [] _ _ _
  refine r_iload_n dX2_hasWay_0 rfl ?_
  refine r_iconst (v := 0) dX2_hasWay_1 (by decide) ?_
  refine r_aload_n dX2_hasWay_2 rfl ?_
  refine r_geti fl_X2_9 dX2_hasWay_3 (kC0 hC) (lC0 hC) rfl ?_
  refine r_iconst (v := 1) dX2_hasWay_6 (by decide) ?_
  refine r_isub dX2_hasWay_7 ?_
  refine r_N3s cv_X2_46 dX2_hasWay_8 (c_within x 0 ((im k 0) - 1)) ⟨by decide, by decide⟩ (Nat.le_of_ble_eq_true rfl) ⟨Nat.le_refl _, Nat.le_refl _⟩ ?_
  exact r_zret dX2_hasWay_11 rfl (bI_nar _) rfl (Nat.le_refl _) (Nat.le_refl _)

set_option maxRecDepth 100000 in
set_option maxHeartbeats 4000000 in
theorem c_hasTest {im : IM} {pl it : Nat} {k : Nat} (hc : CA im k) (x : Int32) : MT YX2_hasTest 1 0 0 [.ref k, .int x] 137 im (RR pl it) (some (.int (bI (inB x 0 (im k 2 - 1)))), 137, im, RR pl it) := by
  obtain ⟨hC, W, T, S, hW, hW8, hT, hT6, hS, hS5⟩ := id hc
  refine mt_of (by decide +kernel) (Nat.le_of_ble_eq_true rfl) ?_
  show WW _ _ _ _ _ _ _ 0 [(0, .ref k), (1, .int x)] [] _ _ _
  refine r_iload_n dX2_hasTest_0 rfl ?_
  refine r_iconst (v := 0) dX2_hasTest_1 (by decide) ?_
  refine r_aload_n dX2_hasTest_2 rfl ?_
  refine r_geti fl_X2_19 dX2_hasTest_3 (kC0 hC) (lC0 hC) rfl ?_
  refine r_iconst (v := 1) dX2_hasTest_6 (by decide) ?_
  refine r_isub dX2_hasTest_7 ?_
  refine r_N3s cv_X2_46 dX2_hasTest_8 (c_within x 0 ((im k 2) - 1)) ⟨by decide, by decide⟩ (Nat.le_of_ble_eq_true rfl) ⟨Nat.le_refl _, Nat.le_refl _⟩ ?_
  exact r_zret dX2_hasTest_11 rfl (bI_nar _) rfl (Nat.le_refl _) (Nat.le_refl _)

set_option maxRecDepth 100000 in
set_option maxHeartbeats 4000000 in
theorem c_hasServant {im : IM} {pl it : Nat} {k : Nat} (hc : CA im k) (x : Int32) : MT YX2_hasServant 1 0 0 [.ref k, .int x] 137 im (RR pl it) (some (.int (bI (inB x 0 (im k 6 - 1)))), 137, im, RR pl it) := by
  obtain ⟨hC, W, T, S, hW, hW8, hT, hT6, hS, hS5⟩ := id hc
  refine mt_of (by decide +kernel) (Nat.le_of_ble_eq_true rfl) ?_
  show WW _ _ _ _ _ _ _ 0 [(0, .ref k), (1, .int x)] [] _ _ _
  refine r_iload_n dX2_hasServant_0 rfl ?_
  refine r_iconst (v := 0) dX2_hasServant_1 (by decide) ?_
  refine r_aload_n dX2_hasServant_2 rfl ?_
  refine r_geti fl_X2_31 dX2_hasServant_3 (kC0 hC) (lC0 hC) rfl ?_
  refine r_iconst (v := 1) dX2_hasServant_6 (by decide) ?_
  refine r_isub dX2_hasServant_7 ?_
  refine r_N3s cv_X2_46 dX2_hasServant_8 (c_within x 0 ((im k 6) - 1)) ⟨by decide, by decide⟩ (Nat.le_of_ble_eq_true rfl) ⟨Nat.le_refl _, Nat.le_refl _⟩ ?_
  exact r_zret dX2_hasServant_11 rfl (bI_nar _) rfl (Nat.le_refl _) (Nat.le_refl _)

set_option maxRecDepth 100000 in
set_option maxHeartbeats 4000000 in
theorem c_hasWays {im : IM} {pl it : Nat} {k : Nat} (hc : CA im k) (x : Int32) : MT YX2_hasWays 1 0 0 [.ref k, .int x] 137 im (RR pl it) (some (.int (bI (decide (x &&& (alS (im k 0) ^^^ (-1)) = 0)))), 137, im, RR pl it) := by
  obtain ⟨hC, W, T, S, hW, hW8, hT, hT6, hS, hS5⟩ := id hc
  refine mt_of (by decide +kernel) (Nat.le_of_ble_eq_true rfl) ?_
  show WW _ _ _ _ _ _ _ 0 [(0, .ref k), (1, .int x)] [] _ _ _
  refine r_iload_n dX2_hasWays_0 rfl ?_
  refine r_aload_n dX2_hasWays_1 rfl ?_
  refine r_V0s cv_X2_50 dX2_hasWays_2 (c_allWays hc) ⟨by decide, by decide⟩ (kC0 hC) (lC0 hC) cl_2 (Nat.le_of_ble_eq_true rfl) ⟨Nat.le_refl _, Nat.le_refl _⟩ ?_
  refine r_iconst (v := (-1)) dX2_hasWays_5 (by decide) ?_
  refine r_ixor dX2_hasWays_6 ?_
  refine r_iand dX2_hasWays_7 ?_
  refine r_if_ne (tgt := 15) dX2_hasWays_8 (by decide) (fun h8 => ?_) (fun h8 => ?_)
  · refine r_iconst (v := 0) dX2_hasWays_15 (by decide) ?_
    exact r_zret dX2_hasWays_16 rfl nar0 (by rw [bI_f (decide_eq_false h8)]) (Nat.le_refl _) (Nat.le_refl _)
  · refine r_iconst (v := 1) dX2_hasWays_11 (by decide) ?_
    refine r_goto (tgt := 16) dX2_hasWays_12 (by decide) ?_
    exact r_zret dX2_hasWays_16 rfl nar1 (by rw [bI_t (decide_eq_true h8)]) (Nat.le_refl _) (Nat.le_refl _)

theorem xor_m1 (x : Int32) : x ^^^ (-1) = ~~~x := by simp
theorem and_nor (a o r : Int32) : (a &&& (o ^^^ (-1))) &&& (r ^^^ (-1)) = a &&& ((o ||| r) ^^^ (-1)) := by
  rw [xor_m1, xor_m1, xor_m1]
  apply Int32.toBitVec_inj.mp
  simp only [Int32.toBitVec_and, Int32.toBitVec_not, Int32.toBitVec_or]
  ext i hi
  simp only [BitVec.getElem_and, BitVec.getElem_not, BitVec.getElem_or]
  cases a.toBitVec[i] <;> cases o.toBitVec[i] <;> cases r.toBitVec[i] <;> rfl
theorem and_n0 (a : Int32) : a = a &&& ((0 : Int32) ^^^ (-1)) := by
  rw [show (0 : Int32) ^^^ (-1) = -1 by decide]
  simp

set_option maxRecDepth 100000 in
set_option maxHeartbeats 4000000 in
theorem c_leftBy {im : IM} {pl it : Nat} {k : Nat} (hc : CA im k) (made : Int32) : MT YX2_leftBy 1 0 0 [.ref k, .int made] 137 im (RR pl it) (some (.int (lfS (im k 0) (im k 2) (im (k + 2)) made)), 137, im, RR pl it) := by
  obtain ⟨hC, W, T, S, hW, hW8, hT, hT6, hS, hS5⟩ := id hc
  refine mt_of (by decide +kernel) (Nat.le_of_ble_eq_true rfl) ?_
  show WW _ _ _ _ _ _ _ 0 [(0, .ref k), (1, .int made)] [] _ _ _
  refine r_aload_n dX2_leftBy_0 rfl ?_
  refine r_V0s cv_X2_50 dX2_leftBy_1 (c_allWays hc) ⟨by decide, by decide⟩ (kC0 hC) (lC0 hC) cl_2 (Nat.le_of_ble_eq_true rfl) ⟨Nat.le_refl _, Nat.le_refl _⟩ ?_
  refine r_istore_n dX2_leftBy_4 (by decide) ?_
  refine r_iconst (v := 0) dX2_leftBy_5 (by decide) ?_
  refine r_istore_n dX2_leftBy_6 (by decide) ?_
  refine r_lv (lv' := [(0, .ref k), (1, .int made), (2, .int (alS (im k 0) &&& (orF (im (k + 2)) made 0 ^^^ (-1)))), (3, .int (nI 0))]) (al_cons rfl (al_cons rfl (al_int rfl (and_n0 _) (al_int rfl (by exact (cI 0)) al_nil)))) ?_
  refine WW.loop (fun t => [(0, .ref k), (1, .int made), (2, .int (alS (im k 0) &&& (orF (im (k + 2)) made t ^^^ (-1)))), (3, .int (nI t))]) (fun _ => im) (N := T) ?_ ?_ 0 (Nat.zero_le _)
  · show WW _ _ _ _ _ _ _ 7 [(0, .ref k), (1, .int made), (2, .int (alS (im k 0) &&& (orF (im (k + 2)) made T ^^^ (-1)))), (3, .int (nI T))] _ _ _ _
    refine r_iload_n dX2_leftBy_7 rfl ?_
    refine r_aload_n dX2_leftBy_8 rfl ?_
    refine r_geti fl_X2_19 dX2_leftBy_9 (kC0 hC) (lC0 hC) rfl ?_
    refine r_icmp_ge_t (tgt := 40) dX2_leftBy_12 (by decide) (ix_le hT rfl (by omega) (by omega)) ?_
    refine r_iload_n dX2_leftBy_40 rfl ?_
    exact r_iret dX2_leftBy_41 rfl (by rw [lfS, hT, tn_nI (by omega)]) (Nat.le_refl _) (Nat.le_refl _)
  · intro t ht iht
    show WW _ _ _ _ _ _ _ 7 [(0, .ref k), (1, .int made), (2, .int (alS (im k 0) &&& (orF (im (k + 2)) made t ^^^ (-1)))), (3, .int (nI t))] _ _ _ _
    refine r_iload_n dX2_leftBy_7 rfl ?_
    refine r_aload_n dX2_leftBy_8 rfl ?_
    refine r_geti fl_X2_19 dX2_leftBy_9 (kC0 hC) (lC0 hC) rfl ?_
    refine r_icmp_ge_f (tgt := 40) dX2_leftBy_12 (by decide) (ix_nle hT rfl (by omega) (by omega)) ?_
    refine r_iload_n dX2_leftBy_15 rfl ?_
    refine r_iload_n dX2_leftBy_16 rfl ?_
    refine r_N2s cv_X2_54 dX2_leftBy_17 (c_has made (nI t)) ⟨by decide, by decide⟩ (Nat.le_of_ble_eq_true rfl) ⟨Nat.le_refl _, Nat.le_refl _⟩ ?_
    refine r_bz_eq (tgt := 34) dX2_leftBy_20 (by decide) (fun h20 => ?_) (fun h20 => ?_)
    · refine r_iinc dX2_leftBy_34 rfl (by decide) (ix_inc rfl) ?_
      refine r_goto (tgt := 7) dX2_leftBy_37 (by decide) ?_
      refine r_lv (lv' := [(0, .ref k), (1, .int made), (2, .int (alS (im k 0) &&& (orF (im (k + 2)) made (t + 1) ^^^ (-1)))), (3, .int (nI (t + 1)))]) (al_cons rfl (al_cons rfl (al_int rfl (by simp only [orF, and_nor, eq_self, Bool.false_eq_true, Bool.true_eq_false, if_true, if_false, reduceIte, h20]) (al_cons rfl al_nil)))) ?_
      exact iht
    · refine r_iload_n dX2_leftBy_23 rfl ?_
      refine r_aload_n dX2_leftBy_24 rfl ?_
      refine r_getr fl_X2_22 dX2_leftBy_25 (kC0 hC) (lC0 hC) rfl (rrC3 hC) ?_
      refine r_iload_n dX2_leftBy_28 rfl ?_
      refine r_iald (j := t) dX2_leftBy_29 (kC2 hC) (lC2 hC) rfl (by omega) (by decide) ?_
      refine r_iconst (v := (-1)) dX2_leftBy_30 (by decide) ?_
      refine r_ixor dX2_leftBy_31 ?_
      refine r_iand dX2_leftBy_32 ?_
      refine r_istore_n dX2_leftBy_33 (by decide) ?_
      refine r_iinc dX2_leftBy_34 rfl (by decide) (ix_inc rfl) ?_
      refine r_goto (tgt := 7) dX2_leftBy_37 (by decide) ?_
      refine r_lv (lv' := [(0, .ref k), (1, .int made), (2, .int (alS (im k 0) &&& (orF (im (k + 2)) made (t + 1) ^^^ (-1)))), (3, .int (nI (t + 1)))]) (al_cons rfl (al_cons rfl (al_int rfl (by simp only [orF, and_nor, eq_self, Bool.false_eq_true, Bool.true_eq_false, if_true, if_false, reduceIte, h20]) (al_cons rfl al_nil)))) ?_
      exact iht

set_option maxRecDepth 100000 in
set_option maxHeartbeats 4000000 in
theorem c_secretsOf {im : IM} {pl it : Nat} {k : Nat} (hc : CA im k) (made : Int32) : MT YX2_secretsOf 1 0 0 [.ref k, .int made] 137 im (RR pl it) (some (.int (orF (im (k + 3)) made (tn (im k 2)))), 137, im, RR pl it) := by
  obtain ⟨hC, W, T, S, hW, hW8, hT, hT6, hS, hS5⟩ := id hc
  refine mt_of (by decide +kernel) (Nat.le_of_ble_eq_true rfl) ?_
  show WW _ _ _ _ _ _ _ 0 [(0, .ref k), (1, .int made)] [] _ _ _
  refine r_iconst (v := 0) dX2_secretsOf_0 (by decide) ?_
  refine r_istore_n dX2_secretsOf_1 (by decide) ?_
  refine r_iconst (v := 0) dX2_secretsOf_2 (by decide) ?_
  refine r_istore_n dX2_secretsOf_3 (by decide) ?_
  refine r_lv (lv' := [(0, .ref k), (1, .int made), (2, .int (orF (im (k + 3)) made 0)), (3, .int (nI 0))]) (al_cons rfl (al_cons rfl (al_int rfl rfl (al_int rfl (by exact (cI 0)) al_nil)))) ?_
  refine WW.loop (fun t => [(0, .ref k), (1, .int made), (2, .int (orF (im (k + 3)) made t)), (3, .int (nI t))]) (fun _ => im) (N := T) ?_ ?_ 0 (Nat.zero_le _)
  · show WW _ _ _ _ _ _ _ 4 [(0, .ref k), (1, .int made), (2, .int (orF (im (k + 3)) made T)), (3, .int (nI T))] _ _ _ _
    refine r_iload_n dX2_secretsOf_4 rfl ?_
    refine r_aload_n dX2_secretsOf_5 rfl ?_
    refine r_geti fl_X2_19 dX2_secretsOf_6 (kC0 hC) (lC0 hC) rfl ?_
    refine r_icmp_ge_t (tgt := 35) dX2_secretsOf_9 (by decide) (ix_le hT rfl (by omega) (by omega)) ?_
    refine r_iload_n dX2_secretsOf_35 rfl ?_
    exact r_iret dX2_secretsOf_36 rfl (by rw [hT, tn_nI (by omega)]) (Nat.le_refl _) (Nat.le_refl _)
  · intro t ht iht
    show WW _ _ _ _ _ _ _ 4 [(0, .ref k), (1, .int made), (2, .int (orF (im (k + 3)) made t)), (3, .int (nI t))] _ _ _ _
    refine r_iload_n dX2_secretsOf_4 rfl ?_
    refine r_aload_n dX2_secretsOf_5 rfl ?_
    refine r_geti fl_X2_19 dX2_secretsOf_6 (kC0 hC) (lC0 hC) rfl ?_
    refine r_icmp_ge_f (tgt := 35) dX2_secretsOf_9 (by decide) (ix_nle hT rfl (by omega) (by omega)) ?_
    refine r_iload_n dX2_secretsOf_12 rfl ?_
    refine r_iload_n dX2_secretsOf_13 rfl ?_
    refine r_N2s cv_X2_54 dX2_secretsOf_14 (c_has made (nI t)) ⟨by decide, by decide⟩ (Nat.le_of_ble_eq_true rfl) ⟨Nat.le_refl _, Nat.le_refl _⟩ ?_
    refine r_bz_eq (tgt := 29) dX2_secretsOf_17 (by decide) (fun h17 => ?_) (fun h17 => ?_)
    · refine r_iinc dX2_secretsOf_29 rfl (by decide) (ix_inc rfl) ?_
      refine r_goto (tgt := 4) dX2_secretsOf_32 (by decide) ?_
      refine r_lv (lv' := [(0, .ref k), (1, .int made), (2, .int (orF (im (k + 3)) made (t + 1))), (3, .int (nI (t + 1)))]) (al_cons rfl (al_cons rfl (al_int rfl (by simp only [orF, eq_self, Bool.false_eq_true, Bool.true_eq_false, if_true, if_false, reduceIte, h17]) (al_cons rfl al_nil)))) ?_
      exact iht
    · refine r_iload_n dX2_secretsOf_20 rfl ?_
      refine r_aload_n dX2_secretsOf_21 rfl ?_
      refine r_getr fl_X2_25 dX2_secretsOf_22 (kC0 hC) (lC0 hC) rfl (rrC4 hC) ?_
      refine r_iload_n dX2_secretsOf_25 rfl ?_
      refine r_iald (j := t) dX2_secretsOf_26 (kC3 hC) (lC3 hC) rfl (by omega) (by decide) ?_
      refine r_ior dX2_secretsOf_27 ?_
      refine r_istore_n dX2_secretsOf_28 (by decide) ?_
      refine r_iinc dX2_secretsOf_29 rfl (by decide) (ix_inc rfl) ?_
      refine r_goto (tgt := 4) dX2_secretsOf_32 (by decide) ?_
      refine r_lv (lv' := [(0, .ref k), (1, .int made), (2, .int (orF (im (k + 3)) made (t + 1))), (3, .int (nI (t + 1)))]) (al_cons rfl (al_cons rfl (al_int rfl (by simp only [orF, eq_self, Bool.false_eq_true, Bool.true_eq_false, if_true, if_false, reduceIte, h17]) (al_cons rfl al_nil)))) ?_
      exact iht

set_option maxRecDepth 100000 in
set_option maxHeartbeats 4000000 in
theorem c_costOf {im : IM} {pl it : Nat} {k : Nat} (hc : CA im k) (made : Int32) : MT YX2_costOf 1 0 0 [.ref k, .int made] 137 im (RR pl it) (some (.int (smF (im (k + 4)) made (tn (im k 2)))), 137, im, RR pl it) := by
  obtain ⟨hC, W, T, S, hW, hW8, hT, hT6, hS, hS5⟩ := id hc
  refine mt_of (by decide +kernel) (Nat.le_of_ble_eq_true rfl) ?_
  show WW _ _ _ _ _ _ _ 0 [(0, .ref k), (1, .int made)] [] _ _ _
  refine r_iconst (v := 0) dX2_costOf_0 (by decide) ?_
  refine r_istore_n dX2_costOf_1 (by decide) ?_
  refine r_iconst (v := 0) dX2_costOf_2 (by decide) ?_
  refine r_istore_n dX2_costOf_3 (by decide) ?_
  refine r_lv (lv' := [(0, .ref k), (1, .int made), (2, .int (smF (im (k + 4)) made 0)), (3, .int (nI 0))]) (al_cons rfl (al_cons rfl (al_int rfl rfl (al_int rfl (by exact (cI 0)) al_nil)))) ?_
  refine WW.loop (fun t => [(0, .ref k), (1, .int made), (2, .int (smF (im (k + 4)) made t)), (3, .int (nI t))]) (fun _ => im) (N := T) ?_ ?_ 0 (Nat.zero_le _)
  · show WW _ _ _ _ _ _ _ 4 [(0, .ref k), (1, .int made), (2, .int (smF (im (k + 4)) made T)), (3, .int (nI T))] _ _ _ _
    refine r_iload_n dX2_costOf_4 rfl ?_
    refine r_aload_n dX2_costOf_5 rfl ?_
    refine r_geti fl_X2_19 dX2_costOf_6 (kC0 hC) (lC0 hC) rfl ?_
    refine r_icmp_ge_t (tgt := 35) dX2_costOf_9 (by decide) (ix_le hT rfl (by omega) (by omega)) ?_
    refine r_iload_n dX2_costOf_35 rfl ?_
    exact r_iret dX2_costOf_36 rfl (by rw [hT, tn_nI (by omega)]) (Nat.le_refl _) (Nat.le_refl _)
  · intro t ht iht
    show WW _ _ _ _ _ _ _ 4 [(0, .ref k), (1, .int made), (2, .int (smF (im (k + 4)) made t)), (3, .int (nI t))] _ _ _ _
    refine r_iload_n dX2_costOf_4 rfl ?_
    refine r_aload_n dX2_costOf_5 rfl ?_
    refine r_geti fl_X2_19 dX2_costOf_6 (kC0 hC) (lC0 hC) rfl ?_
    refine r_icmp_ge_f (tgt := 35) dX2_costOf_9 (by decide) (ix_nle hT rfl (by omega) (by omega)) ?_
    refine r_iload_n dX2_costOf_12 rfl ?_
    refine r_iload_n dX2_costOf_13 rfl ?_
    refine r_N2s cv_X2_54 dX2_costOf_14 (c_has made (nI t)) ⟨by decide, by decide⟩ (Nat.le_of_ble_eq_true rfl) ⟨Nat.le_refl _, Nat.le_refl _⟩ ?_
    refine r_bz_eq (tgt := 29) dX2_costOf_17 (by decide) (fun h17 => ?_) (fun h17 => ?_)
    · refine r_iinc dX2_costOf_29 rfl (by decide) (ix_inc rfl) ?_
      refine r_goto (tgt := 4) dX2_costOf_32 (by decide) ?_
      refine r_lv (lv' := [(0, .ref k), (1, .int made), (2, .int (smF (im (k + 4)) made (t + 1))), (3, .int (nI (t + 1)))]) (al_cons rfl (al_cons rfl (al_int rfl (by simp only [smF, eq_self, Bool.false_eq_true, Bool.true_eq_false, if_true, if_false, reduceIte, h17]) (al_cons rfl al_nil)))) ?_
      exact iht
    · refine r_iload_n dX2_costOf_20 rfl ?_
      refine r_aload_n dX2_costOf_21 rfl ?_
      refine r_getr fl_X2_28 dX2_costOf_22 (kC0 hC) (lC0 hC) rfl (rrC5 hC) ?_
      refine r_iload_n dX2_costOf_25 rfl ?_
      refine r_iald (j := t) dX2_costOf_26 (kC4 hC) (lC4 hC) rfl (by omega) (by decide) ?_
      refine r_iadd dX2_costOf_27 ?_
      refine r_istore_n dX2_costOf_28 (by decide) ?_
      refine r_iinc dX2_costOf_29 rfl (by decide) (ix_inc rfl) ?_
      refine r_goto (tgt := 4) dX2_costOf_32 (by decide) ?_
      refine r_lv (lv' := [(0, .ref k), (1, .int made), (2, .int (smF (im (k + 4)) made (t + 1))), (3, .int (nI (t + 1)))]) (al_cons rfl (al_cons rfl (al_int rfl (by simp only [smF, eq_self, Bool.false_eq_true, Bool.true_eq_false, if_true, if_false, reduceIte, h17]) (al_cons rfl al_nil)))) ?_
      exact iht

set_option maxRecDepth 100000 in
set_option maxHeartbeats 4000000 in
theorem c_likelyOf {im : IM} {pl it : Nat} {k : Nat} (hc : CA im k) (made : Int32) : MT YX2_likelyOf 1 0 0 [.ref k, .int made] 137 im (RR pl it) (some (.int (smF (im (k + 1)) made (tn (im k 0)))), 137, im, RR pl it) := by
  obtain ⟨hC, W, T, S, hW, hW8, hT, hT6, hS, hS5⟩ := id hc
  refine mt_of (by decide +kernel) (Nat.le_of_ble_eq_true rfl) ?_
  show WW _ _ _ _ _ _ _ 0 [(0, .ref k), (1, .int made)] [] _ _ _
  refine r_iconst (v := 0) dX2_likelyOf_0 (by decide) ?_
  refine r_istore_n dX2_likelyOf_1 (by decide) ?_
  refine r_iconst (v := 0) dX2_likelyOf_2 (by decide) ?_
  refine r_istore_n dX2_likelyOf_3 (by decide) ?_
  refine r_lv (lv' := [(0, .ref k), (1, .int made), (2, .int (smF (im (k + 1)) made 0)), (3, .int (nI 0))]) (al_cons rfl (al_cons rfl (al_int rfl rfl (al_int rfl (by exact (cI 0)) al_nil)))) ?_
  refine WW.loop (fun t => [(0, .ref k), (1, .int made), (2, .int (smF (im (k + 1)) made t)), (3, .int (nI t))]) (fun _ => im) (N := W) ?_ ?_ 0 (Nat.zero_le _)
  · show WW _ _ _ _ _ _ _ 4 [(0, .ref k), (1, .int made), (2, .int (smF (im (k + 1)) made W)), (3, .int (nI W))] _ _ _ _
    refine r_iload_n dX2_likelyOf_4 rfl ?_
    refine r_aload_n dX2_likelyOf_5 rfl ?_
    refine r_geti fl_X2_9 dX2_likelyOf_6 (kC0 hC) (lC0 hC) rfl ?_
    refine r_icmp_ge_t (tgt := 35) dX2_likelyOf_9 (by decide) (ix_le hW rfl (by omega) (by omega)) ?_
    refine r_iload_n dX2_likelyOf_35 rfl ?_
    exact r_iret dX2_likelyOf_36 rfl (by rw [hW, tn_nI (by omega)]) (Nat.le_refl _) (Nat.le_refl _)
  · intro t ht iht
    show WW _ _ _ _ _ _ _ 4 [(0, .ref k), (1, .int made), (2, .int (smF (im (k + 1)) made t)), (3, .int (nI t))] _ _ _ _
    refine r_iload_n dX2_likelyOf_4 rfl ?_
    refine r_aload_n dX2_likelyOf_5 rfl ?_
    refine r_geti fl_X2_9 dX2_likelyOf_6 (kC0 hC) (lC0 hC) rfl ?_
    refine r_icmp_ge_f (tgt := 35) dX2_likelyOf_9 (by decide) (ix_nle hW rfl (by omega) (by omega)) ?_
    refine r_iload_n dX2_likelyOf_12 rfl ?_
    refine r_iload_n dX2_likelyOf_13 rfl ?_
    refine r_N2s cv_X2_54 dX2_likelyOf_14 (c_has made (nI t)) ⟨by decide, by decide⟩ (Nat.le_of_ble_eq_true rfl) ⟨Nat.le_refl _, Nat.le_refl _⟩ ?_
    refine r_bz_eq (tgt := 29) dX2_likelyOf_17 (by decide) (fun h17 => ?_) (fun h17 => ?_)
    · refine r_iinc dX2_likelyOf_29 rfl (by decide) (ix_inc rfl) ?_
      refine r_goto (tgt := 4) dX2_likelyOf_32 (by decide) ?_
      refine r_lv (lv' := [(0, .ref k), (1, .int made), (2, .int (smF (im (k + 1)) made (t + 1))), (3, .int (nI (t + 1)))]) (al_cons rfl (al_cons rfl (al_int rfl (by simp only [smF, eq_self, Bool.false_eq_true, Bool.true_eq_false, if_true, if_false, reduceIte, h17]) (al_cons rfl al_nil)))) ?_
      exact iht
    · refine r_iload_n dX2_likelyOf_20 rfl ?_
      refine r_aload_n dX2_likelyOf_21 rfl ?_
      refine r_getr fl_X2_15 dX2_likelyOf_22 (kC0 hC) (lC0 hC) rfl (rrC1 hC) ?_
      refine r_iload_n dX2_likelyOf_25 rfl ?_
      refine r_iald (j := t) dX2_likelyOf_26 (kC1 hC) (lC1 hC) rfl (by omega) (by decide) ?_
      refine r_iadd dX2_likelyOf_27 ?_
      refine r_istore_n dX2_likelyOf_28 (by decide) ?_
      refine r_iinc dX2_likelyOf_29 rfl (by decide) (ix_inc rfl) ?_
      refine r_goto (tgt := 4) dX2_likelyOf_32 (by decide) ?_
      refine r_lv (lv' := [(0, .ref k), (1, .int made), (2, .int (smF (im (k + 1)) made (t + 1))), (3, .int (nI (t + 1)))]) (al_cons rfl (al_cons rfl (al_int rfl (by simp only [smF, eq_self, Bool.false_eq_true, Bool.true_eq_false, if_true, if_false, reduceIte, h17]) (al_cons rfl al_nil)))) ?_
      exact iht

set_option maxRecDepth 100000 in
set_option maxHeartbeats 4000000 in
theorem c_beliefIn {im : IM} {pl it : Nat} {k : Nat} (hc : CA im k) (x left : Int32) : MT YX2_beliefIn 2 0 0 [.ref k, .int x, .int left] 137 im (RR pl it) (some (.int (beS (im k 0) (im (k + 1)) x left)), 137, im, RR pl it) := by
  obtain ⟨hC, W, T, S, hW, hW8, hT, hT6, hS, hS5⟩ := id hc
  refine mt_of (by decide +kernel) (Nat.le_of_ble_eq_true rfl) ?_
  show WW _ _ _ _ _ _ _ 0 [(0, .ref k), (1, .int x), (2, .int left)] [] _ _ _
  refine r_aload_n dX2_beliefIn_0 rfl ?_
  refine r_iload_n dX2_beliefIn_1 rfl ?_
  refine r_V1s cv_X2_58 dX2_beliefIn_2 (c_likelyOf hc left) ⟨by decide, by decide⟩ (kC0 hC) (lC0 hC) cl_2 (Nat.le_of_ble_eq_true rfl) ⟨Nat.le_refl _, Nat.le_refl _⟩ ?_
  refine r_istore_n dX2_beliefIn_5 (by decide) ?_
  refine r_aload_n dX2_beliefIn_6 rfl ?_
  refine r_iload_n dX2_beliefIn_7 rfl ?_
  refine r_V1s cv_X2_62 dX2_beliefIn_8 (c_hasWay hc x) ⟨by decide, by decide⟩ (kC0 hC) (lC0 hC) cl_2 (Nat.le_of_ble_eq_true rfl) ⟨Nat.le_refl _, Nat.le_refl _⟩ ?_
  refine r_bz_eq (tgt := 26) dX2_beliefIn_11 (by decide) (fun h11 => ?_) (fun h11 => ?_)
  · refine r_iconst (v := 0) dX2_beliefIn_26 (by decide) ?_
    exact r_iret dX2_beliefIn_27 rfl (by simp only [beS, h11, eq_self, Bool.false_eq_true, Bool.true_eq_false, if_true, if_false, reduceIte]) (Nat.le_refl _) (Nat.le_refl _)
  · refine r_iload_n dX2_beliefIn_14 rfl ?_
    refine r_iload_n dX2_beliefIn_15 rfl ?_
    refine r_N2s cv_X2_54 dX2_beliefIn_16 (c_has left x) ⟨by decide, by decide⟩ (Nat.le_of_ble_eq_true rfl) ⟨Nat.le_refl _, Nat.le_refl _⟩ ?_
    refine r_bz_eq (tgt := 26) dX2_beliefIn_19 (by decide) (fun h19 => ?_) (fun h19 => ?_)
    · refine r_iconst (v := 0) dX2_beliefIn_26 (by decide) ?_
      exact r_iret dX2_beliefIn_27 rfl (by simp only [beS, h11, h19, eq_self, Bool.false_eq_true, Bool.true_eq_false, if_true, if_false, reduceIte]) (Nat.le_refl _) (Nat.le_refl _)
    · refine r_iload_n dX2_beliefIn_22 rfl ?_
      refine r_if_gt (tgt := 28) dX2_beliefIn_23 (by decide) (fun h23 => ?_) (fun h23 => ?_)
      · obtain ⟨jw, hjw, hj⟩ := inB_nat (W := W) (by rw [← hW]; exact h11) (by omega)
        have htw : tn x = jw := by rw [hj, tn_nI (by omega)]
        refine r_ldc2 dX2_beliefIn_28 kn_X2_66 ?_
        refine r_aload_n dX2_beliefIn_31 rfl ?_
        refine r_getr fl_X2_15 dX2_beliefIn_32 (kC0 hC) (lC0 hC) rfl (rrC1 hC) ?_
        refine r_iload_n dX2_beliefIn_35 rfl ?_
        refine r_iald (j := jw) dX2_beliefIn_36 (kC1 hC) (lC1 hC) hj (by omega) (by decide) ?_
        refine r_i2l dX2_beliefIn_37 ?_
        refine r_lmul dX2_beliefIn_38 ?_
        refine r_iload_n dX2_beliefIn_39 rfl ?_
        refine r_i2l dX2_beliefIn_40 ?_
        refine r_ldiv dX2_beliefIn_41 (fun q => fa_ngt h23 (fa_zero q)) ?_
        refine r_l2i dX2_beliefIn_42 ?_
        exact r_iret dX2_beliefIn_43 rfl (by simp only [beS, h11, h19, if_neg (fa_ngt h23), htw, eq_self, Bool.false_eq_true, Bool.true_eq_false, if_true, if_false, reduceIte]) (Nat.le_refl _) (Nat.le_refl _)
      · refine r_iconst (v := 0) dX2_beliefIn_26 (by decide) ?_
        exact r_iret dX2_beliefIn_27 rfl (by simp only [beS, h11, h19, if_pos (fa_nlt h23), eq_self, Bool.false_eq_true, Bool.true_eq_false, if_true, if_false, reduceIte]) (Nat.le_refl _) (Nat.le_refl _)

