theorem RR_I {o j : Nat} (h : o = 110 ∨ o = 115) : RR 10 3 o j = if j = 1 then some (o + 1) else none := by
  rcases h with rfl | rfl
  all_goals
    match j with
    | 0 => rfl
    | 1 => rfl
    | j + 2 => rw [if_neg (by omega)]; rfl

set_option maxRecDepth 100000 in
set_option maxHeartbeats 4000000 in
theorem i_img {o : Nat} {im : IM} {rm : RM} (h : o = 110 ∨ o = 115) (hi : ∀ j, im o j = 0) (hr : ∀ j, rm o j = none) : MT YX6_init 2 4 24 [.ref o] (o + 1) im rm (none, o + 5, oI im o (o + 5), oR rm o (o + 5)) := by
  have hk0 : kd o = (0, 6) := by rcases h with rfl | rfl <;> rfl
  have hk1 : kd (o + 1) = (0, 0) := by rcases h with rfl | rfl <;> rfl
  have hA : isA (o + 1) := by
    rcases h with rfl | rfl
    · exact isA_img (i := 0) (by omega)
    · exact isA_img (i := 1) (by omega)
  refine mt_of (by decide +kernel) (Nat.le_of_ble_eq_true rfl) ?_
  show WW _ _ _ _ _ _ _ 0 [(0, .ref o)] [] _ _ _
  refine r_aload_n dX6_init_0 rfl ?_
  refine r_objI oi_X6 dX6_init_1 (by decide) (Nat.le_of_ble_eq_true rfl) ?_
  refine r_aload_n dX6_init_4 rfl ?_
  refine r_iconst (v := 0) dX6_init_5 (by decide) ?_
  refine r_pz fl_X6_7 dX6_init_6 hk0 (by omega) rfl ⟨nar0, rfl⟩ ?_
  refine r_aload_n dX6_init_9 rfl ?_
  refine q_new (kc2 := 1) (ks2 := 9) (n2 := o + 2) ck_X6_13 dX6_init_10 hk1 rfl rfl rfl (by decide) (by decide) ?_
  refine r_dup dX6_init_13 rfl ?_
  refine q_callJ (kc2 := 4) (ks2 := 24) (n2 := o + 5) (i_aff (o := o + 1) hA (fun j => by rw [upR_at, if_pos rfl]) (fun j => if_pos rfl)) rfl cv_X6_15 dX6_init_14 ⟨by decide, by decide⟩ (Nat.le_of_ble_eq_true rfl) rfl rfl rfl (by decide) (by decide) ?_
  refine r_putFr (a := o + 1) fl_X6_16 dX6_init_17 hk0 (by omega) rfl (fun _ _ _ h => by cases h; rfl) rfl (fun _ => ⟨rfl, rfl⟩) ?_
  refine r_aload_n dX6_init_20 rfl ?_
  refine r_iconst (v := 0) dX6_init_21 (by decide) ?_
  refine r_pi fl_X6_20 dX6_init_22 hk0 (by omega) rfl ?_
  refine r_pic (im' := oI im o (o + 5)) (rm' := oR rm o (o + 5)) ?_ ?_
  · intro k hk
    have r0 : ∀ j, RR 10 3 o j = _ := fun j => RR_I h
    have i0 : ∀ k j, k ≠ 0 → k ≠ 1 → k ≠ 120 → IM0 k j = 0 := fun k j a b c => IM0_0 a b c
    rcases (show k < o ∨ k = o ∨ o < k by omega) with q | q | q
    · constructor <;> funext j <;> simp only [oI, st_at, upR_at, oR, upQ, upN] <;> grind (splits := 40)
    · constructor <;> funext j <;> simp only [oI, st_at, upR_at, oR, upQ, upN] <;> grind (splits := 40)
    · constructor <;> funext j <;> simp only [oI, st_at, upR_at, oR, upQ, upN] <;> grind (splits := 40)
  · exact r_vret dX6_init_25 rfl rfl (by decide) (by decide)

theorem RR_1 {j : Nat} : RR 10 3 1 j = if j = 0 then some 2 else if j = 4 then some 3 else none := by
  match j with
  | 0 => rfl
  | 1 => rfl
  | 2 => rfl
  | 3 => rfl
  | 4 => rfl
  | j + 5 => rw [if_neg (by omega), if_neg (by omega)]; rfl

set_option maxRecDepth 100000 in
set_option maxHeartbeats 4000000 in
theorem i_rd {im : IM} {rm : RM} (hi : ∀ j, im 1 j = 0) (hr : ∀ j, rm 1 j = none) : MT YX7_init 2 8 287 [.ref 1] 2 im rm (none, 10, oI im 1 10, oR rm 1 10) := by
  refine mt_of (by decide +kernel) (Nat.le_of_ble_eq_true rfl) ?_
  show WW _ _ _ _ _ _ _ 0 [(0, .ref 1)] [] _ _ _
  refine r_aload_n dX7_init_0 rfl ?_
  refine r_objI oi_X7 dX7_init_1 (by decide) (Nat.le_of_ble_eq_true rfl) ?_
  refine r_aload_n dX7_init_4 rfl ?_
  refine r_sipush (v := 240) dX7_init_5 (by decide) ?_
  refine q_newi (kc2 := 1) (ks2 := 240) (n2 := 3) dX7_init_8 rfl (cI 240) (by decide) rfl rfl rfl (by decide) (by decide) ?_
  refine r_putFr (a := 2) fl_X7_9 dX7_init_10 rfl (by omega) rfl (fun _ _ _ h => by cases h; rfl) rfl (fun _ => ⟨rfl, rfl⟩) ?_
  refine r_aload_n dX7_init_13 rfl ?_
  refine r_iconst (v := 0) dX7_init_14 (by decide) ?_
  refine r_pi fl_X7_15 dX7_init_15 rfl (by omega) rfl ?_
  refine r_aload_n dX7_init_18 rfl ?_
  refine r_iconst (v := 0) dX7_init_19 (by decide) ?_
  refine r_pi fl_X7_19 dX7_init_20 rfl (by omega) rfl ?_
  refine r_aload_n dX7_init_23 rfl ?_
  refine r_iconst (v := 0) dX7_init_24 (by decide) ?_
  refine r_pi fl_X7_22 dX7_init_25 rfl (by omega) rfl ?_
  refine r_aload_n dX7_init_28 rfl ?_
  refine q_new (kc2 := 2) (ks2 := 251) (n2 := 4) ck_X7_25 dX7_init_29 rfl rfl rfl rfl (by decide) (by decide) ?_
  refine r_dup dX7_init_32 rfl ?_
  refine q_callJ (kc2 := 8) (ks2 := 287) (n2 := 10) (i_cas (o := 3) isC_3 (fun j => by rw [upR_at, if_pos rfl]) (fun j => if_pos rfl)) rfl cv_X7_27 dX7_init_33 ⟨by decide, by decide⟩ (Nat.le_of_ble_eq_true rfl) rfl rfl rfl (by decide) (by decide) ?_
  refine r_putr (a := 3) fl_X7_28 dX7_init_36 rfl (by omega) rfl ?_
  refine r_aload_n dX7_init_39 rfl ?_
  refine r_iconst (v := 0) dX7_init_40 (by decide) ?_
  refine r_pz fl_X7_32 dX7_init_41 rfl (by omega) rfl ⟨nar0, rfl⟩ ?_
  refine r_aload_n dX7_init_44 rfl ?_
  refine r_iconst (v := 0) dX7_init_45 (by decide) ?_
  refine r_pi fl_X7_36 dX7_init_46 rfl (by omega) rfl ?_
  refine r_aload_n dX7_init_49 rfl ?_
  refine r_iconst (v := 0) dX7_init_50 (by decide) ?_
  refine r_pi fl_X7_39 dX7_init_51 rfl (by omega) rfl ?_
  refine r_aload_n dX7_init_54 rfl ?_
  refine r_iconst (v := 0) dX7_init_55 (by decide) ?_
  refine r_pi fl_X7_42 dX7_init_56 rfl (by omega) rfl ?_
  refine r_aload_n dX7_init_59 rfl ?_
  refine r_iconst (v := (-1)) dX7_init_60 (by decide) ?_
  refine r_pi fl_X7_45 dX7_init_61 rfl (by omega) rfl ?_
  refine r_pic (im' := oI im 1 10) (rm' := oR rm 1 10) ?_ ?_
  · intro k hk
    have r0 : ∀ j, RR 10 3 1 j = _ := fun j => RR_1
    have r1 : ∀ j, RR 10 3 2 j = none := fun j => RR_none (Or.inl rfl)
    have i0 : ∀ j, IM0 1 j = if j = 9 then -1 else 0 := fun j => by unfold IM0; grind
    have i1 : ∀ j, IM0 2 j = 0 := fun j => IM0_0 (by omega) (by omega) (by omega)
    rcases (show k < 1 ∨ k = 1 ∨ k = 2 ∨ 2 < k by omega) with q | q | q | q
    · constructor <;> funext j <;> simp only [oI, st_at, upR_at, oR, upQ, upN] <;> grind (splits := 40)
    · constructor <;> funext j <;> simp only [oI, st_at, upR_at, oR, upQ, upN] <;> grind (splits := 40)
    · constructor <;> funext j <;> simp only [oI, st_at, upR_at, oR, upQ, upN] <;> grind (splits := 40)
    · constructor <;> funext j <;> simp only [oI, st_at, upR_at, oR, upQ, upN] <;> grind (splits := 40)
  · exact r_vret dX7_init_64 rfl rfl (by decide) (by decide)

theorem RR_21 {j : Nat} : RR 10 3 21 j = if j = 0 then some 22 else none := by
  match j with
  | 0 => rfl
  | j + 1 => rw [if_neg (by omega)]; rfl
theorem RR_22 {j : Nat} : RR 10 3 22 j = if j < 20 then some (23 + 4 * j) else none := rfl
def hR (rm : RM) (i : Nat) : RM := fun k j => if k = 21 ∨ (23 ≤ k ∧ k < 23 + 4 * i) ∨ (k = 22 ∧ j < i) then RR 10 3 k j else if k = 22 then none else rm k j

set_option maxRecDepth 100000 in
set_option maxHeartbeats 4000000 in
theorem hist_loop {im : IM} {rm : RM} : ∀ m i, i + m = 20 → WW YX5_init 2 81 500 (none, 103, oI im 21 103, oR rm 21 103) (1 + 4 * i) (20 + 24 * i) 25 [(1, .int (nI i)), (0, .ref 21)] [] (23 + 4 * i) (oI im 21 (23 + 4 * i)) (hR rm i)
  | 0, i, hi => by
    have hi : i = 20 := by omega
    subst hi
    refine r_iload_n dX5_init_25 rfl ?_
    refine r_bipush (v := 20) dX5_init_26 (by decide) ?_
    refine r_icmp_ge_t (tgt := 50) dX5_init_28 (by decide) (ix_le (cI 20) (rfl : nI 20 = nI 20) (by omega) (by omega)) ?_
    refine r_pic (im' := oI im 21 103) (rm' := oR rm 21 103) ?_ ?_
    · intro k hk
      refine ⟨rfl, ?_⟩
      have r0 : ∀ j, RR 10 3 22 j = _ := fun j => RR_22
      funext j
      simp only [hR, oR]
      grind
    · exact r_vret dX5_init_50 rfl rfl (by decide) (by decide)
  | m + 1, i, hi => by
    have ih := hist_loop (im := im) (rm := rm) m (i + 1) (by omega)
    have hA : isA (23 + 4 * i) := isA_past (by omega)
    refine r_iload_n dX5_init_25 rfl ?_
    refine r_bipush (v := 20) dX5_init_26 (by decide) ?_
    refine r_icmp_ge_f (tgt := 50) dX5_init_28 (by decide) (ix_nle (cI 20) (rfl : nI i = nI i) (by omega) (by omega)) ?_
    refine r_aload_n dX5_init_31 rfl ?_
    refine r_getr (a := 22) fl_X5_11 dX5_init_32 rfl (by omega) rfl ?_ ?_
    · unfold hR
      rw [if_pos (Or.inl rfl)]
      rfl
    refine r_iload_n dX5_init_35 rfl ?_
    refine q_new (kc2 := 2 + 4 * i) (ks2 := 29 + 24 * i) (n2 := 23 + 4 * i + 1) ck_X5_9 dX5_init_36 (kA0 hA) (by omega) (show 20 + 24 * i + 9 = _ by omega) rfl (by omega) (by omega) ?_
    refine r_dup dX5_init_39 rfl ?_
    refine q_callJ (kc2 := 1 + 4 * (i + 1)) (ks2 := 20 + 24 * (i + 1)) (n2 := 23 + 4 * (i + 1)) (i_aff (o := 23 + 4 * i) hA (fun j => by rw [upR_at, if_pos rfl]) (fun j => if_pos rfl)) rfl cv_X5_24 dX5_init_40 ⟨by decide, by decide⟩ (Nat.le_of_ble_eq_true rfl) (by omega) (by omega) (by omega) (by omega) (by omega) ?_
    refine r_aast (j := i) dX5_init_43 (rfl : kd 22 = (3, 20)) (Or.inl ⟨rfl, rfl⟩) (by omega) (kA0 hA) (by omega) rfl (by omega) (by decide) ?_
    refine r_iinc dX5_init_44 rfl (by decide) (ix_inc rfl) ?_
    refine r_goto (tgt := 25) dX5_init_47 (by decide) ?_
    refine r_lv (lv' := [(1, .int (nI (i + 1))), (0, .ref 21)]) (al_cons rfl (al_cons rfl al_nil)) ?_
    refine r_pic (im' := oI im 21 (23 + 4 * (i + 1))) (rm' := hR rm (i + 1)) ?_ ih
    intro k hk
    have r0 : ∀ j, RR 10 3 22 j = _ := fun j => RR_22
    have i0 : ∀ k j, k ≠ 0 → k ≠ 1 → k ≠ 120 → IM0 k j = 0 := fun k j a b c => IM0_0 a b c
    rcases (show k < 21 ∨ k = 21 ∨ k = 22 ∨ (23 ≤ k ∧ k < 23 + 4 * i) ∨ 23 + 4 * i ≤ k by omega) with q | q | q | q | q
    all_goals
      constructor
      · funext j
        simp only [oI, upR_at]
        grind (splits := 40)
      · funext j
        simp only [hR, oR, upQ, upN]
        grind (splits := 40)

set_option maxRecDepth 100000 in
set_option maxHeartbeats 4000000 in
theorem i_hist {im : IM} {rm : RM} (hi : ∀ j, im 21 j = 0) (hr : ∀ j, rm 21 j = none) : MT YX5_init 2 81 500 [.ref 21] 22 im rm (none, 103, oI im 21 103, oR rm 21 103) := by
  refine mt_of (by decide +kernel) (Nat.le_of_ble_eq_true rfl) ?_
  show WW _ _ _ _ _ _ _ 0 [(0, .ref 21)] [] _ _ _
  refine r_aload_n dX5_init_0 rfl ?_
  refine r_objI oi_X5 dX5_init_1 (by decide) (Nat.le_of_ble_eq_true rfl) ?_
  refine r_aload_n dX5_init_4 rfl ?_
  refine r_bipush (v := 20) dX5_init_5 (by decide) ?_
  refine q_newq (kc2 := 1) (ks2 := 20) (n2 := 23) dX5_init_7 ck_X5_9 (Or.inl ⟨rfl, rfl⟩) rfl (cI 20) (by decide) rfl rfl rfl (by decide) (by decide) ?_
  refine r_putFr (a := 22) fl_X5_11 dX5_init_10 rfl (by omega) rfl (fun _ _ _ h => by cases h; rfl) rfl (fun _ => ⟨rfl, rfl⟩) ?_
  refine r_aload_n dX5_init_13 rfl ?_
  refine r_iconst (v := 0) dX5_init_14 (by decide) ?_
  refine r_pi fl_X5_17 dX5_init_15 rfl (by omega) rfl ?_
  refine r_aload_n dX5_init_18 rfl ?_
  refine r_iconst (v := 0) dX5_init_19 (by decide) ?_
  refine r_pi fl_X5_21 dX5_init_20 rfl (by omega) rfl ?_
  refine r_iconst (v := 0) dX5_init_23 (by decide) ?_
  refine r_istore_n dX5_init_24 (by decide) ?_
  refine r_lv (lv' := [(1, .int (nI 0)), (0, .ref 21)]) (al_int rfl rfl (al_cons rfl al_nil)) ?_
  refine r_pic (im' := oI im 21 (23 + 4 * 0)) (rm' := hR rm 0) ?_ (hist_loop 20 0 rfl)
  intro k hk
  have r0 : ∀ j, RR 10 3 22 j = _ := fun j => RR_22
  have r1 : ∀ j, RR 10 3 21 j = _ := fun j => RR_21
  have i0 : ∀ k j, k ≠ 0 → k ≠ 1 → k ≠ 120 → IM0 k j = 0 := fun k j a b c => IM0_0 a b c
  rcases (show k < 21 ∨ k = 21 ∨ k = 22 by omega) with q | q | q
  · constructor <;> funext j <;> simp only [oI, st_at, upR_at, hR, upQ, upN] <;> grind (splits := 40)
  · constructor <;> funext j <;> simp only [oI, st_at, upR_at, hR, upQ, upN] <;> grind (splits := 40)
  · constructor <;> funext j <;> simp only [oI, st_at, upR_at, hR, upQ, upN] <;> grind (splits := 40)
