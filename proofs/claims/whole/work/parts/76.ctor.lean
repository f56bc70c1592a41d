set_option maxRecDepth 100000 in
set_option maxHeartbeats 4000000 in
theorem i_aff {o : Nat} {im : IM} {rm : RM} (h : isA o) (hi : ∀ j, im o j = 0) (hr : ∀ j, rm o j = none) : MT YX0_init 1 3 15 [.ref o] (o + 1) im rm (none, o + 4, oI im o (o + 4), oR rm o (o + 4)) := by
  refine mt_of (by decide +kernel) (Nat.le_of_ble_eq_true rfl) ?_
  show WW _ _ _ _ _ _ _ 0 [(0, .ref o)] [] _ _ _
  refine r_aload_n dX0_init_0 rfl ?_
  refine r_objI oi_X0 dX0_init_1 (by decide) (Nat.le_of_ble_eq_true rfl) ?_
  refine r_aload_n dX0_init_4 rfl ?_
  refine r_iconst (v := 0) dX0_init_5 (by decide) ?_
  refine r_pi fl_X0_9 dX0_init_6 (kA0 h) (by omega) rfl ?_
  refine r_aload_n dX0_init_9 rfl ?_
  refine r_iconst (v := 0) dX0_init_10 (by decide) ?_
  refine r_pi fl_X0_15 dX0_init_11 (kA0 h) (by omega) rfl ?_
  refine r_aload_n dX0_init_14 rfl ?_
  refine r_iconst (v := 0) dX0_init_15 (by decide) ?_
  refine r_pz fl_X0_18 dX0_init_16 (kA0 h) (by omega) rfl ⟨nar0, rfl⟩ ?_
  refine r_aload_n dX0_init_19 rfl ?_
  refine r_iconst (v := 0) dX0_init_20 (by decide) ?_
  refine r_pz fl_X0_22 dX0_init_21 (kA0 h) (by omega) rfl ⟨nar0, rfl⟩ ?_
  refine r_aload_n dX0_init_24 rfl ?_
  refine r_iconst (v := 0) dX0_init_25 (by decide) ?_
  refine r_pi fl_X0_25 dX0_init_26 (kA0 h) (by omega) rfl ?_
  refine r_aload_n dX0_init_29 rfl ?_
  refine r_iconst (v := 0) dX0_init_30 (by decide) ?_
  refine r_pi fl_X0_28 dX0_init_31 (kA0 h) (by omega) rfl ?_
  refine r_aload_n dX0_init_34 rfl ?_
  refine r_iconst (v := 5) dX0_init_35 (by decide) ?_
  refine q_newi (kc2 := 1) (ks2 := 5) (n2 := o + 2) dX0_init_36 (kA1 h) (cI 5) (by decide) rfl rfl rfl (by decide) (by decide) ?_
  refine r_putFr (a := o + 1) fl_X0_31 dX0_init_38 (kA0 h) (by omega) rfl (fun _ _ _ h => by cases h; rfl) rfl (fun _ => ⟨rfl, rfl⟩) ?_
  refine r_aload_n dX0_init_41 rfl ?_
  refine r_iconst (v := 5) dX0_init_42 (by decide) ?_
  refine q_newi (kc2 := 2) (ks2 := 10) (n2 := o + 3) dX0_init_43 (kA2 h) (cI 5) (by decide) rfl rfl rfl (by decide) (by decide) ?_
  refine r_putFr (a := o + 2) fl_X0_35 dX0_init_45 (kA0 h) (by omega) rfl (fun _ _ _ h => by cases h; rfl) rfl (fun _ => ⟨rfl, rfl⟩) ?_
  refine r_aload_n dX0_init_48 rfl ?_
  refine r_iconst (v := 5) dX0_init_49 (by decide) ?_
  refine q_newi (kc2 := 3) (ks2 := 15) (n2 := o + 4) dX0_init_50 (kA3 h) (cI 5) (by decide) rfl rfl rfl (by decide) (by decide) ?_
  refine r_putFr (a := o + 3) fl_X0_38 dX0_init_52 (kA0 h) (by omega) rfl (fun _ _ _ h => by cases h; rfl) rfl (fun _ => ⟨rfl, rfl⟩) ?_
  refine r_pic (im' := oI im o (o + 4)) (rm' := oR rm o (o + 4)) ?_ ?_
  · intro k hk
    have hm := isA_mod h
    have r0 : ∀ j, RR 10 3 o j = _ := fun j => RR_A h
    have r1 : ∀ j, RR 10 3 (o + 1) j = none := fun j => RR_none (Or.inl (by rw [kA1 h]))
    have r2 : ∀ j, RR 10 3 (o + 2) j = none := fun j => RR_none (Or.inl (by rw [kA2 h]))
    have r3 : ∀ j, RR 10 3 (o + 3) j = none := fun j => RR_none (Or.inl (by rw [kA3 h]))
    have i0 : ∀ k j, k ≠ 0 → k ≠ 1 → k ≠ 120 → IM0 k j = 0 := fun k j a b c => IM0_0 a b c
    rcases (show k < o ∨ k = o ∨ k = o + 1 ∨ k = o + 2 ∨ k = o + 3 by omega) with q | q | q | q | q
    · constructor <;> funext j <;> simp only [oI, st_at, upR_at, oR, upQ, upN] <;> grind (splits := 40)
    · constructor <;> funext j <;> simp only [oI, st_at, upR_at, oR, upQ, upN] <;> grind (splits := 40)
    · constructor <;> funext j <;> simp only [oI, st_at, upR_at, oR, upQ, upN] <;> grind (splits := 40)
    · constructor <;> funext j <;> simp only [oI, st_at, upR_at, oR, upQ, upN] <;> grind (splits := 40)
    · constructor <;> funext j <;> simp only [oI, st_at, upR_at, oR, upQ, upN] <;> grind (splits := 40)
  · exact r_vret dX0_init_55 rfl rfl (by decide) (by decide)

set_option maxRecDepth 100000 in
set_option maxHeartbeats 4000000 in
theorem i_cas {o : Nat} {im : IM} {rm : RM} (h : isC o) (hi : ∀ j, im o j = 0) (hr : ∀ j, rm o j = none) : MT YX2_init 1 6 36 [.ref o] (o + 1) im rm (none, o + 7, oI im o (o + 7), oR rm o (o + 7)) := by
  refine mt_of (by decide +kernel) (Nat.le_of_ble_eq_true rfl) ?_
  show WW _ _ _ _ _ _ _ 0 [(0, .ref o)] [] _ _ _
  refine r_aload_n dX2_init_0 rfl ?_
  refine r_objI oi_X2 dX2_init_1 (by decide) (Nat.le_of_ble_eq_true rfl) ?_
  refine r_aload_n dX2_init_4 rfl ?_
  refine r_iconst (v := 0) dX2_init_5 (by decide) ?_
  refine r_pi fl_X2_9 dX2_init_6 (kC0 h) (by omega) rfl ?_
  refine r_aload_n dX2_init_9 rfl ?_
  refine r_bipush (v := 8) dX2_init_10 (by decide) ?_
  refine q_newi (kc2 := 1) (ks2 := 8) (n2 := o + 2) dX2_init_12 (kC1 h) (cI 8) (by decide) rfl rfl rfl (by decide) (by decide) ?_
  refine r_putFr (a := o + 1) fl_X2_15 dX2_init_14 (kC0 h) (by omega) rfl (fun _ _ _ h => by cases h; rfl) rfl (fun _ => ⟨rfl, rfl⟩) ?_
  refine r_aload_n dX2_init_17 rfl ?_
  refine r_iconst (v := 0) dX2_init_18 (by decide) ?_
  refine r_pi fl_X2_19 dX2_init_19 (kC0 h) (by omega) rfl ?_
  refine r_aload_n dX2_init_22 rfl ?_
  refine r_bipush (v := 6) dX2_init_23 (by decide) ?_
  refine q_newi (kc2 := 2) (ks2 := 14) (n2 := o + 3) dX2_init_25 (kC2 h) (cI 6) (by decide) rfl rfl rfl (by decide) (by decide) ?_
  refine r_putFr (a := o + 2) fl_X2_22 dX2_init_27 (kC0 h) (by omega) rfl (fun _ _ _ h => by cases h; rfl) rfl (fun _ => ⟨rfl, rfl⟩) ?_
  refine r_aload_n dX2_init_30 rfl ?_
  refine r_bipush (v := 6) dX2_init_31 (by decide) ?_
  refine q_newi (kc2 := 3) (ks2 := 20) (n2 := o + 4) dX2_init_33 (kC3 h) (cI 6) (by decide) rfl rfl rfl (by decide) (by decide) ?_
  refine r_putFr (a := o + 3) fl_X2_25 dX2_init_35 (kC0 h) (by omega) rfl (fun _ _ _ h => by cases h; rfl) rfl (fun _ => ⟨rfl, rfl⟩) ?_
  refine r_aload_n dX2_init_38 rfl ?_
  refine r_bipush (v := 6) dX2_init_39 (by decide) ?_
  refine q_newi (kc2 := 4) (ks2 := 26) (n2 := o + 5) dX2_init_41 (kC4 h) (cI 6) (by decide) rfl rfl rfl (by decide) (by decide) ?_
  refine r_putFr (a := o + 4) fl_X2_28 dX2_init_43 (kC0 h) (by omega) rfl (fun _ _ _ h => by cases h; rfl) rfl (fun _ => ⟨rfl, rfl⟩) ?_
  refine r_aload_n dX2_init_46 rfl ?_
  refine r_iconst (v := 0) dX2_init_47 (by decide) ?_
  refine r_pi fl_X2_31 dX2_init_48 (kC0 h) (by omega) rfl ?_
  refine r_aload_n dX2_init_51 rfl ?_
  refine r_iconst (v := 5) dX2_init_52 (by decide) ?_
  refine q_newi (kc2 := 5) (ks2 := 31) (n2 := o + 6) dX2_init_53 (kC5 h) (cI 5) (by decide) rfl rfl rfl (by decide) (by decide) ?_
  refine r_putFr (a := o + 5) fl_X2_34 dX2_init_55 (kC0 h) (by omega) rfl (fun _ _ _ h => by cases h; rfl) rfl (fun _ => ⟨rfl, rfl⟩) ?_
  refine r_aload_n dX2_init_58 rfl ?_
  refine r_iconst (v := 5) dX2_init_59 (by decide) ?_
  refine q_newi (kc2 := 6) (ks2 := 36) (n2 := o + 7) dX2_init_60 (kC6 h) (cI 5) (by decide) rfl rfl rfl (by decide) (by decide) ?_
  refine r_putFr (a := o + 6) fl_X2_37 dX2_init_62 (kC0 h) (by omega) rfl (fun _ _ _ h => by cases h; rfl) rfl (fun _ => ⟨rfl, rfl⟩) ?_
  refine r_aload_n dX2_init_65 rfl ?_
  refine r_iconst (v := 0) dX2_init_66 (by decide) ?_
  refine r_pi fl_X2_40 dX2_init_67 (kC0 h) (by omega) rfl ?_
  refine r_aload_n dX2_init_70 rfl ?_
  refine r_iconst (v := 0) dX2_init_71 (by decide) ?_
  refine r_pi fl_X2_43 dX2_init_72 (kC0 h) (by omega) rfl ?_
  refine r_pic (im' := oI im o (o + 7)) (rm' := oR rm o (o + 7)) ?_ ?_
  · intro k hk
    have hm : o = 3 ∨ o = 10 := h
    have r0 : ∀ j, RR 10 3 o j = _ := fun j => RR_C h
    have r1 : ∀ j, RR 10 3 (o + 1) j = none := fun j => RR_none (Or.inl (by rw [kC1 h]))
    have r2 : ∀ j, RR 10 3 (o + 2) j = none := fun j => RR_none (Or.inl (by rw [kC2 h]))
    have r3 : ∀ j, RR 10 3 (o + 3) j = none := fun j => RR_none (Or.inl (by rw [kC3 h]))
    have r4 : ∀ j, RR 10 3 (o + 4) j = none := fun j => RR_none (Or.inl (by rw [kC4 h]))
    have r5 : ∀ j, RR 10 3 (o + 5) j = none := fun j => RR_none (Or.inl (by rw [kC5 h]))
    have r6 : ∀ j, RR 10 3 (o + 6) j = none := fun j => RR_none (Or.inl (by rw [kC6 h]))
    have i0 : ∀ k j, k ≠ 0 → k ≠ 1 → k ≠ 120 → IM0 k j = 0 := fun k j a b c => IM0_0 a b c
    rcases (show k < o ∨ k = o ∨ k = o + 1 ∨ k = o + 2 ∨ k = o + 3 ∨ k = o + 4 ∨ k = o + 5 ∨ k = o + 6 by omega) with q | q | q | q | q | q | q | q
    · constructor <;> funext j <;> simp only [oI, st_at, upR_at, oR, upQ, upN] <;> grind (splits := 40)
    · constructor <;> funext j <;> simp only [oI, st_at, upR_at, oR, upQ, upN] <;> grind (splits := 40)
    · constructor <;> funext j <;> simp only [oI, st_at, upR_at, oR, upQ, upN] <;> grind (splits := 40)
    · constructor <;> funext j <;> simp only [oI, st_at, upR_at, oR, upQ, upN] <;> grind (splits := 40)
    · constructor <;> funext j <;> simp only [oI, st_at, upR_at, oR, upQ, upN] <;> grind (splits := 40)
    · constructor <;> funext j <;> simp only [oI, st_at, upR_at, oR, upQ, upN] <;> grind (splits := 40)
    · constructor <;> funext j <;> simp only [oI, st_at, upR_at, oR, upQ, upN] <;> grind (splits := 40)
    · constructor <;> funext j <;> simp only [oI, st_at, upR_at, oR, upQ, upN] <;> grind (splits := 40)
  · exact r_vret dX2_init_75 rfl rfl (by decide) (by decide)

theorem RR_106 {j : Nat} : RR 10 3 106 j = if j = 0 then some 107 else none := by
  match j with
  | 0 => rfl
  | j + 1 => rw [if_neg (by omega)]; rfl
set_option maxRecDepth 100000 in
set_option maxHeartbeats 4000000 in
theorem i_book {im : IM} {rm : RM} (hi : ∀ j, im 106 j = 0) (hr : ∀ j, rm 106 j = none) : MT YX1_init 1 1 15 [.ref 106] 107 im rm (none, 108, oI im 106 108, oR rm 106 108) := by
  refine mt_of (by decide +kernel) (Nat.le_of_ble_eq_true rfl) ?_
  show WW _ _ _ _ _ _ _ 0 [(0, .ref 106)] [] _ _ _
  refine r_aload_n dX1_init_0 rfl ?_
  refine r_objI oi_X1 dX1_init_1 (by decide) (Nat.le_of_ble_eq_true rfl) ?_
  refine r_aload_n dX1_init_4 rfl ?_
  refine r_bipush (v := 15) dX1_init_5 (by decide) ?_
  refine q_newi (kc2 := 1) (ks2 := 15) (n2 := 108) dX1_init_7 rfl (cI 15) (by decide) rfl rfl rfl (by decide) (by decide) ?_
  refine r_putFr (a := 107) fl_X1_9 dX1_init_9 rfl (by omega) rfl (fun _ _ _ h => by cases h; rfl) rfl (fun _ => ⟨rfl, rfl⟩) ?_
  refine r_aload_n dX1_init_12 rfl ?_
  refine r_iconst (v := 0) dX1_init_13 (by decide) ?_
  refine r_pi fl_X1_15 dX1_init_14 rfl (by omega) rfl ?_
  refine r_pic (im' := oI im 106 108) (rm' := oR rm 106 108) ?_ ?_
  · intro k hk
    have i0 : ∀ k j, k ≠ 0 → k ≠ 1 → k ≠ 120 → IM0 k j = 0 := fun k j a b c => IM0_0 a b c
    have r0 : ∀ j, RR 10 3 106 j = _ := fun j => RR_106
    have r1 : ∀ j, RR 10 3 107 j = none := fun j => RR_none (Or.inl rfl)
    rcases (show k < 106 ∨ k = 106 ∨ k = 107 by omega) with q | q | q
    · constructor <;> funext j <;> simp only [oI, st_at, upR_at, oR, upQ, upN] <;> grind (splits := 40)
    · constructor <;> funext j <;> simp only [oI, st_at, upR_at, oR, upQ, upN] <;> grind (splits := 40)
    · constructor <;> funext j <;> simp only [oI, st_at, upR_at, oR, upQ, upN] <;> grind (splits := 40)
  · exact r_vret dX1_init_17 rfl rfl (by decide) (by decide)

theorem RR_108 {j : Nat} : RR 10 3 108 j = none := rfl
set_option maxRecDepth 100000 in
set_option maxHeartbeats 4000000 in
theorem i_draws {im : IM} {rm : RM} (hi : ∀ j, im 108 j = 0) (hr : ∀ j, rm 108 j = none) : MT YX3_init 1 0 0 [.ref 108] 109 im rm (none, 109, oI im 108 109, oR rm 108 109) := by
  refine mt_of (by decide +kernel) (Nat.le_of_ble_eq_true rfl) ?_
  show WW _ _ _ _ _ _ _ 0 [(0, .ref 108)] [] _ _ _
  refine r_aload_n dX3_init_0 rfl ?_
  refine r_objI oi_X3 dX3_init_1 (by decide) (Nat.le_of_ble_eq_true rfl) ?_
  refine r_aload_n dX3_init_4 rfl ?_
  refine r_iconst (v := 0) dX3_init_5 (by decide) ?_
  refine r_pi fl_X3_7 dX3_init_6 rfl (by omega) rfl ?_
  refine r_pic (im' := oI im 108 109) (rm' := oR rm 108 109) ?_ ?_
  · intro k hk
    have i0 : ∀ k j, k ≠ 0 → k ≠ 1 → k ≠ 120 → IM0 k j = 0 := fun k j a b c => IM0_0 a b c
    have r0 : ∀ j, RR 10 3 108 j = none := fun j => RR_108
    rcases (show k < 108 ∨ k = 108 by omega) with q | q
    · constructor <;> funext j <;> simp only [oI, st_at, upR_at, oR, upQ, upN] <;> grind (splits := 40)
    · constructor <;> funext j <;> simp only [oI, st_at, upR_at, oR, upQ, upN] <;> grind (splits := 40)
  · exact r_vret dX3_init_9 rfl rfl (by decide) (by decide)

theorem RR_103 {j : Nat} : RR 10 3 103 j = if j = 0 then some 104 else if j = 1 then some 105 else none := by
  match j with
  | 0 => rfl
  | 1 => rfl
  | j + 2 => rw [if_neg (by omega), if_neg (by omega)]; rfl
set_option maxRecDepth 100000 in
set_option maxHeartbeats 4000000 in
theorem i_hear {im : IM} {rm : RM} (hi : ∀ j, im 103 j = 0) (hr : ∀ j, rm 103 j = none) : MT YX4_init 1 2 12 [.ref 103] 104 im rm (none, 106, oI im 103 106, oR rm 103 106) := by
  refine mt_of (by decide +kernel) (Nat.le_of_ble_eq_true rfl) ?_
  show WW _ _ _ _ _ _ _ 0 [(0, .ref 103)] [] _ _ _
  refine r_aload_n dX4_init_0 rfl ?_
  refine r_objI oi_X4 dX4_init_1 (by decide) (Nat.le_of_ble_eq_true rfl) ?_
  refine r_aload_n dX4_init_4 rfl ?_
  refine r_bipush (v := 6) dX4_init_5 (by decide) ?_
  refine q_newi (kc2 := 1) (ks2 := 6) (n2 := 105) dX4_init_7 rfl (cI 6) (by decide) rfl rfl rfl (by decide) (by decide) ?_
  refine r_putFr (a := 104) fl_X4_9 dX4_init_9 rfl (by omega) rfl (fun _ _ _ h => by cases h; rfl) rfl (fun _ => ⟨rfl, rfl⟩) ?_
  refine r_aload_n dX4_init_12 rfl ?_
  refine r_bipush (v := 6) dX4_init_13 (by decide) ?_
  refine q_newz (kc2 := 2) (ks2 := 12) (n2 := 106) dX4_init_15 rfl (cI 6) (by decide) rfl rfl rfl (by decide) (by decide) ?_
  refine r_putFr (a := 105) fl_X4_15 dX4_init_17 rfl (by omega) rfl (fun _ _ _ h => by cases h; rfl) rfl (fun _ => ⟨rfl, rfl⟩) ?_
  refine r_aload_n dX4_init_20 rfl ?_
  refine r_iconst (v := 0) dX4_init_21 (by decide) ?_
  refine r_pi fl_X4_19 dX4_init_22 rfl (by omega) rfl ?_
  refine r_pic (im' := oI im 103 106) (rm' := oR rm 103 106) ?_ ?_
  · intro k hk
    have i0 : ∀ k j, k ≠ 0 → k ≠ 1 → k ≠ 120 → IM0 k j = 0 := fun k j a b c => IM0_0 a b c
    have r0 : ∀ j, RR 10 3 103 j = _ := fun j => RR_103
    have r1 : ∀ j, RR 10 3 104 j = none := fun j => RR_none (Or.inl rfl)
    have r2 : ∀ j, RR 10 3 105 j = none := fun j => RR_none (Or.inr rfl)
    rcases (show k < 103 ∨ k = 103 ∨ k = 104 ∨ k = 105 by omega) with q | q | q | q
    · constructor <;> funext j <;> simp only [oI, st_at, upR_at, oR, upQ, upN] <;> grind (splits := 40)
    · constructor <;> funext j <;> simp only [oI, st_at, upR_at, oR, upQ, upN] <;> grind (splits := 40)
    · constructor <;> funext j <;> simp only [oI, st_at, upR_at, oR, upQ, upN] <;> grind (splits := 40)
    · constructor <;> funext j <;> simp only [oI, st_at, upR_at, oR, upQ, upN] <;> grind (splits := 40)
  · exact r_vret dX4_init_25 rfl rfl (by decide) (by decide)
