def sI (n : Nat) : IM := fun k j => if k < n then IM0 k j else 0
def sR (t n : Nat) : RM := fun k j => if k = 0 then (if j < t then RR 10 3 0 j else none) else if k < n then RR 10 3 k j else none
def gR (i : Nat) : RM := fun k j => if k = 109 then (if j < i then RR 10 3 109 j else none) else sR 9 (110 + 5 * i) k j
theorem step_IR {t m s : Nat} (hm : 1 ≤ m) (ht : RR 10 3 0 t = some m) : ∀ k, k < m + s → oI (upR (sI m) m (fun _ => 0)) m (m + s) k = sI (m + s) k ∧ upQ (oR (upN (sR t m) m) m (m + s)) 0 t (some m) k = sR (t + 1) (m + s) k := by
  intro k hk
  constructor
  · funext j
    simp only [oI, sI, upR_at]
    grind
  · funext j
    simp only [oR, sR, upQ, upN]
    grind
theorem RR_109 {j : Nat} : RR 10 3 109 j = if j < 2 then some (110 + 5 * j) else none := rfl
theorem RR_0 : RR 10 3 0 0 = none ∧ RR 10 3 0 8 = some 109 := ⟨rfl, rfl⟩
theorem step_img {i : Nat} (hi : i < 2) : ∀ k, k < 110 + 5 * i + 5 → oI (upR (sI (110 + 5 * i)) (110 + 5 * i) (fun _ => 0)) (110 + 5 * i) (110 + 5 * i + 5) k = sI (110 + 5 * (i + 1)) k ∧ upQ (oR (upN (gR i) (110 + 5 * i)) (110 + 5 * i) (110 + 5 * i + 5)) 109 i (some (110 + 5 * i)) k = gR (i + 1) k := by
  intro k hk
  have r0 : ∀ j, RR 10 3 109 j = _ := fun j => RR_109
  constructor
  · funext j
    simp only [oI, sI, upR_at]
    grind
  · funext j
    simp only [oR, gR, sR, upQ, upN]
    grind

set_option maxRecDepth 100000 in
set_option maxHeartbeats 4000000 in
theorem i_tw : MT YX8_init 3 119 960 [.ref 0] 1 (fun _ _ => 0) (fun _ _ => none) (none, 120, sI 120, sR 9 120) := by
  refine mt_of (by decide +kernel) (Nat.le_of_ble_eq_true rfl) ?_
  show WW _ _ _ _ _ _ _ 0 [(0, .ref 0)] [] _ _ _
  refine r_aload_n dX8_init_0 rfl ?_
  refine r_objI oi_X8 dX8_init_1 (by decide) (Nat.le_of_ble_eq_true rfl) ?_
  refine r_aload_n dX8_init_4 rfl ?_
  refine r_iconst (v := (-1)) dX8_init_5 (by decide) ?_
  refine r_pi fl_X8_9 dX8_init_6 rfl (by omega) rfl ?_
  refine r_pic (im' := sI 1) (rm' := sR 1 1) ?_ ?_
  · intro k hk
    have r0 := RR_0
    constructor
    · funext j
      simp only [sI, IM0, st_at]
      grind
    · funext j
      simp only [sR]
      grind
  refine r_aload_n dX8_init_9 rfl ?_
  refine q_new (kc2 := 1) (ks2 := 10) (n2 := 2) ck_X8_13 dX8_init_10 rfl rfl rfl rfl (by decide) (by decide) ?_
  refine r_dup dX8_init_13 rfl ?_
  refine q_callJ (kc2 := 9) (ks2 := 297) (n2 := 10) (i_rd (fun j => by rw [upR_at, if_pos rfl]) (fun j => if_pos rfl)) rfl cv_X8_15 dX8_init_14 ⟨by decide, by decide⟩ (Nat.le_of_ble_eq_true rfl) rfl rfl rfl (by decide) (by decide) ?_
  refine r_putFr (a := 1) fl_X8_16 dX8_init_17 rfl (by omega) rfl (fun _ _ _ h => by cases h; rfl) rfl (fun _ => ⟨rfl, rfl⟩) ?_
  refine r_pic (im' := sI 10) (rm' := sR 2 10) (step_IR (t := 1) (m := 1) (s := 9) (by decide) rfl) ?_
  refine r_aload_n dX8_init_20 rfl ?_
  refine q_new (kc2 := 10) (ks2 := 308) (n2 := 11) ck_X8_20 dX8_init_21 rfl rfl rfl rfl (by decide) (by decide) ?_
  refine r_dup dX8_init_24 rfl ?_
  refine q_callJ (kc2 := 16) (ks2 := 344) (n2 := 17) (i_cas (o := 10) isC_10 (fun j => by rw [upR_at, if_pos rfl]) (fun j => if_pos rfl)) rfl cv_X8_22 dX8_init_25 ⟨by decide, by decide⟩ (Nat.le_of_ble_eq_true rfl) rfl rfl rfl (by decide) (by decide) ?_
  refine r_putr (a := 10) fl_X8_23 dX8_init_28 rfl (by omega) rfl ?_
  refine r_pic (im' := sI 17) (rm' := sR 3 17) (step_IR (t := 2) (m := 10) (s := 7) (by decide) rfl) ?_
  refine r_aload_n dX8_init_31 rfl ?_
  refine q_new (kc2 := 17) (ks2 := 353) (n2 := 18) ck_X8_27 dX8_init_32 rfl rfl rfl rfl (by decide) (by decide) ?_
  refine r_dup dX8_init_35 rfl ?_
  refine q_callJ (kc2 := 20) (ks2 := 368) (n2 := 21) (i_aff (o := 17) isA_17 (fun j => by rw [upR_at, if_pos rfl]) (fun j => if_pos rfl)) rfl cv_X8_29 dX8_init_36 ⟨by decide, by decide⟩ (Nat.le_of_ble_eq_true rfl) rfl rfl rfl (by decide) (by decide) ?_
  refine r_putFr (a := 17) fl_X8_30 dX8_init_39 rfl (by omega) rfl (fun _ _ _ h => by cases h; rfl) rfl (fun _ => ⟨rfl, rfl⟩) ?_
  refine r_pic (im' := sI 21) (rm' := sR 4 21) (step_IR (t := 3) (m := 17) (s := 4) (by decide) rfl) ?_
  refine r_aload_n dX8_init_42 rfl ?_
  refine q_new (kc2 := 21) (ks2 := 371) (n2 := 22) ck_X8_34 dX8_init_43 rfl rfl rfl rfl (by decide) (by decide) ?_
  refine r_dup dX8_init_46 rfl ?_
  refine q_callI (kc2 := 102) (ks2 := 871) (n2 := 103) (i_hist (fun j => by rw [upR_at, if_pos rfl]) (fun j => if_pos rfl)) rfl cv_X8_36 dX8_init_47 ⟨by decide, by decide⟩ (Nat.le_of_ble_eq_true rfl) rfl rfl rfl (by decide) (by decide) ?_
  refine r_putFr (a := 21) fl_X8_37 dX8_init_50 rfl (by omega) rfl (fun _ _ _ h => by cases h; rfl) rfl (fun _ => ⟨rfl, rfl⟩) ?_
  refine r_pic (im' := sI 103) (rm' := sR 5 103) (step_IR (t := 4) (m := 21) (s := 82) (by decide) rfl) ?_
  refine r_aload_n dX8_init_53 rfl ?_
  refine q_new (kc2 := 103) (ks2 := 874) (n2 := 104) ck_X8_41 dX8_init_54 rfl rfl rfl rfl (by decide) (by decide) ?_
  refine r_dup dX8_init_57 rfl ?_
  refine q_callJ (kc2 := 105) (ks2 := 886) (n2 := 106) (i_hear (fun j => by rw [upR_at, if_pos rfl]) (fun j => if_pos rfl)) rfl cv_X8_43 dX8_init_58 ⟨by decide, by decide⟩ (Nat.le_of_ble_eq_true rfl) rfl rfl rfl (by decide) (by decide) ?_
  refine r_putFr (a := 103) fl_X8_44 dX8_init_61 rfl (by omega) rfl (fun _ _ _ h => by cases h; rfl) rfl (fun _ => ⟨rfl, rfl⟩) ?_
  refine r_pic (im' := sI 106) (rm' := sR 6 106) (step_IR (t := 5) (m := 103) (s := 3) (by decide) rfl) ?_
  refine r_aload_n dX8_init_64 rfl ?_
  refine q_new (kc2 := 106) (ks2 := 888) (n2 := 107) ck_X8_48 dX8_init_65 rfl rfl rfl rfl (by decide) (by decide) ?_
  refine r_dup dX8_init_68 rfl ?_
  refine q_callJ (kc2 := 107) (ks2 := 903) (n2 := 108) (i_book (fun j => by rw [upR_at, if_pos rfl]) (fun j => if_pos rfl)) rfl cv_X8_50 dX8_init_69 ⟨by decide, by decide⟩ (Nat.le_of_ble_eq_true rfl) rfl rfl rfl (by decide) (by decide) ?_
  refine r_putFr (a := 106) fl_X8_51 dX8_init_72 rfl (by omega) rfl (fun _ _ _ h => by cases h; rfl) rfl (fun _ => ⟨rfl, rfl⟩) ?_
  refine r_pic (im' := sI 108) (rm' := sR 7 108) (step_IR (t := 6) (m := 106) (s := 2) (by decide) rfl) ?_
  refine r_aload_n dX8_init_75 rfl ?_
  refine q_new (kc2 := 108) (ks2 := 904) (n2 := 109) ck_X8_55 dX8_init_76 rfl rfl rfl rfl (by decide) (by decide) ?_
  refine r_dup dX8_init_79 rfl ?_
  refine q_callJ (kc2 := 108) (ks2 := 904) (n2 := 109) (i_draws (fun j => by rw [upR_at, if_pos rfl]) (fun j => if_pos rfl)) rfl cv_X8_57 dX8_init_80 ⟨by decide, by decide⟩ (Nat.le_of_ble_eq_true rfl) rfl rfl rfl (by decide) (by decide) ?_
  refine r_putFr (a := 108) fl_X8_58 dX8_init_83 rfl (by omega) rfl (fun _ _ _ h => by cases h; rfl) rfl (fun _ => ⟨rfl, rfl⟩) ?_
  refine r_pic (im' := sI 109) (rm' := sR 8 109) (step_IR (t := 7) (m := 108) (s := 1) (by decide) rfl) ?_
  refine r_aload_n dX8_init_86 rfl ?_
  refine r_iconst (v := 2) dX8_init_87 (by decide) ?_
  refine q_newq (kc2 := 109) (ks2 := 906) (n2 := 110) dX8_init_88 ck_X8_62 (Or.inr ⟨rfl, rfl⟩) rfl (cI 2) (by decide) rfl rfl rfl (by decide) (by decide) ?_
  refine r_putFr (a := 109) fl_X8_64 dX8_init_91 rfl (by omega) rfl (fun _ _ _ h => by cases h; rfl) rfl (fun _ => ⟨rfl, rfl⟩) ?_
  refine r_pic (im' := sI 110) (rm' := gR 0) ?_ ?_
  · intro k hk
    have r0 := RR_0.2
    constructor
    · funext j
      have i0 : ∀ k j, k ≠ 0 → k ≠ 1 → k ≠ 120 → IM0 k j = 0 := fun k j a b c => IM0_0 a b c
      simp only [sI, upR_at]
      grind
    · funext j
      simp only [gR, sR, upQ, upN]
      grind
  refine r_iconst (v := 0) dX8_init_94 (by decide) ?_
  refine r_istore_n dX8_init_95 (by decide) ?_
  refine r_iload_n dX8_init_96 rfl ?_
  refine r_iconst (v := 2) dX8_init_97 (by decide) ?_
  refine r_icmp_ge_f (tgt := 120) dX8_init_98 (by decide) (by decide) ?_
  refine r_aload_n dX8_init_101 rfl ?_
  refine r_getr (a := 109) fl_X8_64 dX8_init_102 rfl (by omega) rfl rfl ?_
  refine r_iload_n dX8_init_105 rfl ?_
  refine q_new (kc2 := 110) (ks2 := 909) (n2 := 111) ck_X8_62 dX8_init_106 rfl rfl rfl rfl (by decide) (by decide) ?_
  refine r_dup dX8_init_109 rfl ?_
  refine q_callJ (kc2 := 114) (ks2 := 933) (n2 := 115) (i_img (o := 110) (Or.inl rfl) (fun j => by rw [upR_at, if_pos rfl]) (fun j => if_pos rfl)) rfl cv_X8_68 dX8_init_110 ⟨by decide, by decide⟩ (Nat.le_of_ble_eq_true rfl) rfl rfl rfl (by decide) (by decide) ?_
  refine r_aast (j := 0) dX8_init_113 (rfl : kd 109 = (4, 2)) (Or.inr ⟨rfl, rfl⟩) (by omega) (rfl : kd 110 = (0, 6)) (by omega) (cI 0) (by omega) (by decide) ?_
  refine r_pic (im' := sI 115) (rm' := gR 1) (step_img (i := 0) (by decide)) ?_
  refine r_iinc (v := 1) dX8_init_114 rfl (by decide) (by decide) ?_
  refine r_goto (tgt := 96) dX8_init_117 (by decide) ?_
  refine r_iload_n dX8_init_96 rfl ?_
  refine r_iconst (v := 2) dX8_init_97 (by decide) ?_
  refine r_icmp_ge_f (tgt := 120) dX8_init_98 (by decide) (by decide) ?_
  refine r_aload_n dX8_init_101 rfl ?_
  refine r_getr (a := 109) fl_X8_64 dX8_init_102 rfl (by omega) rfl rfl ?_
  refine r_iload_n dX8_init_105 rfl ?_
  refine q_new (kc2 := 115) (ks2 := 936) (n2 := 116) ck_X8_62 dX8_init_106 rfl rfl rfl rfl (by decide) (by decide) ?_
  refine r_dup dX8_init_109 rfl ?_
  refine q_callJ (kc2 := 119) (ks2 := 960) (n2 := 120) (i_img (o := 115) (Or.inr rfl) (fun j => by rw [upR_at, if_pos rfl]) (fun j => if_pos rfl)) rfl cv_X8_68 dX8_init_110 ⟨by decide, by decide⟩ (Nat.le_of_ble_eq_true rfl) rfl rfl rfl (by decide) (by decide) ?_
  refine r_aast (j := 1) dX8_init_113 (rfl : kd 109 = (4, 2)) (Or.inr ⟨rfl, rfl⟩) (by omega) (rfl : kd 115 = (0, 6)) (by omega) (cI 1) (by omega) (by decide) ?_
  refine r_pic (im' := sI 120) (rm' := gR 2) (step_img (i := 1) (by decide)) ?_
  refine r_iinc (v := 2) dX8_init_114 rfl (by decide) (by decide) ?_
  refine r_goto (tgt := 96) dX8_init_117 (by decide) ?_
  refine r_iload_n dX8_init_96 rfl ?_
  refine r_iconst (v := 2) dX8_init_97 (by decide) ?_
  refine r_icmp_ge_t (tgt := 120) dX8_init_98 (by decide) (by decide) ?_
  refine r_pic (im' := sI 120) (rm' := sR 9 120) ?_ ?_
  · intro k hk
    have r0 : ∀ j, RR 10 3 109 j = _ := fun j => RR_109
    refine ⟨rfl, ?_⟩
    funext j
    simp only [gR, sR]
    grind
  · exact r_vret dX8_init_120 rfl rfl (by decide) (by decide)

theorem RR_120 {j : Nat} : RR 10 3 120 j = if j = 0 then some 121 else if j = 3 then some 122 else if j = 4 then some 123 else if j = 5 then some 124 else if j = 6 then some 125 else if j = 7 then some 126 else if j = 8 then some 127 else if j = 9 then some 128 else if j = 10 then some 129 else if j = 11 then some 130 else if j = 12 then some 131 else if j = 14 then some 132 else if j = 15 then some 133 else if j = 16 then some 134 else if j = 18 then some 135 else if j = 20 then some 136 else none := by
  match j with
  | 0 => rfl
  | 1 => rfl
  | 2 => rfl
  | 3 => rfl
  | 4 => rfl
  | 5 => rfl
  | 6 => rfl
  | 7 => rfl
  | 8 => rfl
  | 9 => rfl
  | 10 => rfl
  | 11 => rfl
  | 12 => rfl
  | 13 => rfl
  | 14 => rfl
  | 15 => rfl
  | 16 => rfl
  | 17 => rfl
  | 18 => rfl
  | 19 => rfl
  | 20 => rfl
  | j + 21 => rw [if_neg (by omega), if_neg (by omega), if_neg (by omega), if_neg (by omega), if_neg (by omega), if_neg (by omega), if_neg (by omega), if_neg (by omega), if_neg (by omega), if_neg (by omega), if_neg (by omega), if_neg (by omega), if_neg (by omega), if_neg (by omega), if_neg (by omega), if_neg (by omega)]; rfl

theorem RR_hi {k j : Nat} (h : 121 ≤ k) (h2 : k < 137) : RR 10 3 k j = none := by
  have key : ∀ i : Fin 16, (kd (121 + i.1)).1 = 1 ∨ (kd (121 + i.1)).1 = 2 := by decide +kernel
  have := key ⟨k - 121, by omega⟩
  rw [show 121 + (k - 121) = k by omega] at this
  exact RR_none this
theorem RR_00 {j : Nat} : RR 10 3 0 j = if j < 9 then RR 10 3 0 j else none := by
  split
  · rfl
  · next h =>
    obtain ⟨i, rfl⟩ : ∃ i, j = i + 9 := ⟨j - 9, by omega⟩
    rfl

set_option maxRecDepth 100000 in
set_option maxHeartbeats 4000000 in
theorem i_md : MT YX9_init 1 16 836 [.ref 120] 121 (sI 120) (sR 9 120) (none, 137, IM0, RR 10 3) := by
  refine mt_of (by decide +kernel) (Nat.le_of_ble_eq_true rfl) ?_
  show WW _ _ _ _ _ _ _ 0 [(0, .ref 120)] [] _ _ _
  refine r_aload_n dX9_init_0 rfl ?_
  refine r_objI oi_X9 dX9_init_1 (by decide) (Nat.le_of_ble_eq_true rfl) ?_
  refine r_aload_n dX9_init_4 rfl ?_
  refine r_sipush (v := 240) dX9_init_5 (by decide) ?_
  refine q_newi (kc2 := 1) (ks2 := 240) (n2 := 122) dX9_init_8 rfl (cI 240) (by decide) rfl rfl rfl (by decide) (by decide) ?_
  refine r_putFr (a := 121) fl_X9_7 dX9_init_10 rfl (by omega) rfl (fun _ _ _ h => by cases h; rfl) rfl (fun _ => ⟨rfl, rfl⟩) ?_
  refine r_aload_n dX9_init_13 rfl ?_
  refine r_iconst (v := (-1)) dX9_init_14 (by decide) ?_
  refine r_pi fl_X9_13 dX9_init_15 rfl (by omega) rfl ?_
  refine r_aload_n dX9_init_18 rfl ?_
  refine r_iconst (v := 5) dX9_init_19 (by decide) ?_
  refine q_newi (kc2 := 2) (ks2 := 245) (n2 := 123) dX9_init_20 rfl (cI 5) (by decide) rfl rfl rfl (by decide) (by decide) ?_
  refine r_putFr (a := 122) fl_X9_17 dX9_init_22 rfl (by omega) rfl (fun _ _ _ h => by cases h; rfl) rfl (fun _ => ⟨rfl, rfl⟩) ?_
  refine r_aload_n dX9_init_25 rfl ?_
  refine r_bipush (v := 8) dX9_init_26 (by decide) ?_
  refine q_newi (kc2 := 3) (ks2 := 253) (n2 := 124) dX9_init_28 rfl (cI 8) (by decide) rfl rfl rfl (by decide) (by decide) ?_
  refine r_putFr (a := 123) fl_X9_20 dX9_init_30 rfl (by omega) rfl (fun _ _ _ h => by cases h; rfl) rfl (fun _ => ⟨rfl, rfl⟩) ?_
  refine r_aload_n dX9_init_33 rfl ?_
  refine r_bipush (v := 18) dX9_init_34 (by decide) ?_
  refine q_newi (kc2 := 4) (ks2 := 271) (n2 := 125) dX9_init_36 rfl (cI 18) (by decide) rfl rfl rfl (by decide) (by decide) ?_
  refine r_putFr (a := 124) fl_X9_23 dX9_init_38 rfl (by omega) rfl (fun _ _ _ h => by cases h; rfl) rfl (fun _ => ⟨rfl, rfl⟩) ?_
  refine r_aload_n dX9_init_41 rfl ?_
  refine r_bipush (v := 10) dX9_init_42 (by decide) ?_
  refine q_newi (kc2 := 5) (ks2 := 281) (n2 := 126) dX9_init_44 rfl (cI 10) (by decide) rfl rfl rfl (by decide) (by decide) ?_
  refine r_putFr (a := 125) fl_X9_26 dX9_init_46 rfl (by omega) rfl (fun _ _ _ h => by cases h; rfl) rfl (fun _ => ⟨rfl, rfl⟩) ?_
  refine r_aload_n dX9_init_49 rfl ?_
  refine r_iconst (v := 5) dX9_init_50 (by decide) ?_
  refine q_newi (kc2 := 6) (ks2 := 286) (n2 := 127) dX9_init_51 rfl (cI 5) (by decide) rfl rfl rfl (by decide) (by decide) ?_
  refine r_putFr (a := 126) fl_X9_29 dX9_init_53 rfl (by omega) rfl (fun _ _ _ h => by cases h; rfl) rfl (fun _ => ⟨rfl, rfl⟩) ?_
  refine r_aload_n dX9_init_56 rfl ?_
  refine r_bipush (v := 8) dX9_init_57 (by decide) ?_
  refine q_newi (kc2 := 7) (ks2 := 294) (n2 := 128) dX9_init_59 rfl (cI 8) (by decide) rfl rfl rfl (by decide) (by decide) ?_
  refine r_putFr (a := 127) fl_X9_32 dX9_init_61 rfl (by omega) rfl (fun _ _ _ h => by cases h; rfl) rfl (fun _ => ⟨rfl, rfl⟩) ?_
  refine r_aload_n dX9_init_64 rfl ?_
  refine r_bipush (v := 18) dX9_init_65 (by decide) ?_
  refine q_newi (kc2 := 8) (ks2 := 312) (n2 := 129) dX9_init_67 rfl (cI 18) (by decide) rfl rfl rfl (by decide) (by decide) ?_
  refine r_putFr (a := 128) fl_X9_35 dX9_init_69 rfl (by omega) rfl (fun _ _ _ h => by cases h; rfl) rfl (fun _ => ⟨rfl, rfl⟩) ?_
  refine r_aload_n dX9_init_72 rfl ?_
  refine r_bipush (v := 10) dX9_init_73 (by decide) ?_
  refine q_newi (kc2 := 9) (ks2 := 322) (n2 := 130) dX9_init_75 rfl (cI 10) (by decide) rfl rfl rfl (by decide) (by decide) ?_
  refine r_putFr (a := 129) fl_X9_38 dX9_init_77 rfl (by omega) rfl (fun _ _ _ h => by cases h; rfl) rfl (fun _ => ⟨rfl, rfl⟩) ?_
  refine r_aload_n dX9_init_80 rfl ?_
  refine r_bipush (v := 21) dX9_init_81 (by decide) ?_
  refine q_newi (kc2 := 10) (ks2 := 343) (n2 := 131) dX9_init_83 rfl (cI 21) (by decide) rfl rfl rfl (by decide) (by decide) ?_
  refine r_putFr (a := 130) fl_X9_41 dX9_init_85 rfl (by omega) rfl (fun _ _ _ h => by cases h; rfl) rfl (fun _ => ⟨rfl, rfl⟩) ?_
  refine r_aload_n dX9_init_88 rfl ?_
  refine r_sipush (v := 420) dX9_init_89 (by decide) ?_
  refine q_newi (kc2 := 11) (ks2 := 763) (n2 := 132) dX9_init_92 rfl (cI 420) (by decide) rfl rfl rfl (by decide) (by decide) ?_
  refine r_putFr (a := 131) fl_X9_44 dX9_init_94 rfl (by omega) rfl (fun _ _ _ h => by cases h; rfl) rfl (fun _ => ⟨rfl, rfl⟩) ?_
  refine r_aload_n dX9_init_97 rfl ?_
  refine r_bipush (v := 42) dX9_init_98 (by decide) ?_
  refine q_newi (kc2 := 12) (ks2 := 805) (n2 := 133) dX9_init_100 rfl (cI 42) (by decide) rfl rfl rfl (by decide) (by decide) ?_
  refine r_putFr (a := 132) fl_X9_47 dX9_init_102 rfl (by omega) rfl (fun _ _ _ h => by cases h; rfl) rfl (fun _ => ⟨rfl, rfl⟩) ?_
  refine r_aload_n dX9_init_105 rfl ?_
  refine r_iconst (v := 2) dX9_init_106 (by decide) ?_
  refine q_newi (kc2 := 13) (ks2 := 807) (n2 := 134) dX9_init_107 rfl (cI 2) (by decide) rfl rfl rfl (by decide) (by decide) ?_
  refine r_putFr (a := 133) fl_X9_50 dX9_init_109 rfl (by omega) rfl (fun _ _ _ h => by cases h; rfl) rfl (fun _ => ⟨rfl, rfl⟩) ?_
  refine r_aload_n dX9_init_112 rfl ?_
  refine r_iconst (v := 2) dX9_init_113 (by decide) ?_
  refine q_newz (kc2 := 14) (ks2 := 809) (n2 := 135) dX9_init_114 rfl (cI 2) (by decide) rfl rfl rfl (by decide) (by decide) ?_
  refine r_putFr (a := 134) fl_X9_53 dX9_init_116 rfl (by omega) rfl (fun _ _ _ h => by cases h; rfl) rfl (fun _ => ⟨rfl, rfl⟩) ?_
  refine r_aload_n dX9_init_119 rfl ?_
  refine r_bipush (v := 12) dX9_init_120 (by decide) ?_
  refine q_newi (kc2 := 15) (ks2 := 821) (n2 := 136) dX9_init_122 rfl (cI 12) (by decide) rfl rfl rfl (by decide) (by decide) ?_
  refine r_putFr (a := 135) fl_X9_57 dX9_init_124 rfl (by omega) rfl (fun _ _ _ h => by cases h; rfl) rfl (fun _ => ⟨rfl, rfl⟩) ?_
  refine r_aload_n dX9_init_127 rfl ?_
  refine r_bipush (v := 15) dX9_init_128 (by decide) ?_
  refine q_newi (kc2 := 16) (ks2 := 836) (n2 := 137) dX9_init_130 rfl (cI 15) (by decide) rfl rfl rfl (by decide) (by decide) ?_
  refine r_putFr (a := 136) fl_X9_60 dX9_init_132 rfl (by omega) rfl (fun _ _ _ h => by cases h; rfl) rfl (fun _ => ⟨rfl, rfl⟩) ?_
  refine r_pic (im' := IM0) (rm' := RR 10 3) ?_ ?_
  · intro k hk
    have r0 : ∀ j, RR 10 3 0 j = _ := fun j => RR_00
    have r2 : ∀ j, 121 ≤ k → k < 137 → RR 10 3 k j = none := fun j a b => RR_hi a b
    have i0 : ∀ k j, k ≠ 0 → k ≠ 1 → k ≠ 120 → IM0 k j = 0 := fun k j a b c => IM0_0 a b c
    have i1 : ∀ j, IM0 120 j = if j = 2 then -1 else 0 := fun j => by unfold IM0; grind
    by_cases q1 : k < 120
    · constructor
      · funext j
        simp only [st_at, upR_at]
        repeat rw [if_neg (by omega)]
        unfold sI
        rw [if_pos q1]
      · funext j
        simp only [upQ, upN]
        repeat rw [if_neg (by omega)]
        unfold sR
        by_cases z : k = 0
        · subst z
          rw [if_pos rfl]
          exact RR_00.symm
        · rw [if_neg z, if_pos q1]
    · by_cases q : k = 120
      · subst q
        constructor
        · funext j
          rw [i1]
          simp only [st_at, upR_at, sI]
          simp
        · funext j
          rw [RR_120]
          simp only [upQ, upN, sR]
          simp
          match j with
          | 0 => rfl
          | 1 => rfl
          | 2 => rfl
          | 3 => rfl
          | 4 => rfl
          | 5 => rfl
          | 6 => rfl
          | 7 => rfl
          | 8 => rfl
          | 9 => rfl
          | 10 => rfl
          | 11 => rfl
          | 12 => rfl
          | 13 => rfl
          | 14 => rfl
          | 15 => rfl
          | 16 => rfl
          | 17 => rfl
          | 18 => rfl
          | 19 => rfl
          | 20 => rfl
          | j + 21 =>
            repeat rw [if_neg (by omega)]
      · constructor
        · funext j
          rw [i0 k j (by omega) (by omega) (by omega)]
          simp only [st_at, upR_at, sI]
          simp [q, q1]
        · funext j
          rw [r2 j (by omega) (by omega)]
          simp only [upQ, upN, sR]
          simp [q, q1]
          intros
          omega
  · exact r_vret dX9_init_135 rfl rfl (by decide) (by decide)
