/-- the text, told to both -/
def TXR (X M : IM) : Prop := X 2 = M 121 ∧ X 0 0 = M 120 2 ∧ ∃ L, X 1 1 = nI L ∧ M 120 1 = nI L ∧ L ≤ 240 ∧ ∀ j, j < L → inB (M 121 j) 0 255 = true
/-- what was heard -/
def HSR (X M : IM) : Prop := ∃ B, X 103 2 = nI B ∧ M 120 19 = nI B ∧ B ≤ 6 ∧ ∀ j, j < B → X 104 j = M 135 (2 * j) ∧ X 105 j = M 135 (2 * j + 1) ∧ inB (M 135 (2 * j)) 0 59 = true ∧ b01 (M 135 (2 * j + 1))
/-- the book -/
def BKR (X M : IM) : Prop := ∃ B, X 106 1 = nI B ∧ M 120 21 = nI B ∧ B ≤ 15 ∧ ∀ j, j < B → X 107 j = M 136 j
/-- the draws -/
def DRR (X M : IM) : Prop := ∃ n, X 108 0 = nI n ∧ M 120 17 = nI n ∧ n < 2147483648
/-- the images -/
def IR (X M : IM) (S D : Nat) : Prop := ∀ i, i < 2 → X (110 + 5 * i) 0 = M 134 i ∧ b01 (M 134 i) ∧ (¬ M 134 i = 0 → AR X (111 + 5 * i) (fun j => M 132 (21 * i + j)) S D ∧ X (110 + 5 * i) 2 = M 133 i ∧ ∃ n, M 133 i = nI n ∧ n < 2147483648)
/-- both objects are alike -/
def Rel (X M : IM) (pl it : Nat) : Prop := isC pl ∧ isC it ∧ pl ≠ it ∧ HZ X ∧ TXR X M ∧ HSR X M ∧ BKR X M ∧ DRR X M ∧ ∃ W T S D, CR X M pl W T S D ∧ AR X 17 (M 130) S D ∧ HR X M S D ∧ IR X M S D
theorem TXR.congr {X M X' M' : IM} (h : TXR X M) (h1 : X' 2 = X 2) (h2 : X' 0 = X 0) (h6 : X' 1 = X 1) (h3 : M' 121 = M 121) (h4 : M' 120 1 = M 120 1) (h5 : M' 120 2 = M 120 2) : TXR X' M' := by
  unfold TXR at *
  rw [h1, h2, h3, h4, h5, h6]
  exact h
theorem HSR.congr {X M X' M' : IM} (h : HSR X M) (h1 : X' 103 = X 103) (h2 : X' 104 = X 104) (h3 : X' 105 = X 105) (h4 : M' 120 19 = M 120 19) (h5 : M' 135 = M 135) : HSR X' M' := by
  unfold HSR at *
  rw [h1, h2, h3, h4, h5]
  exact h
theorem BKR.congr {X M X' M' : IM} (h : BKR X M) (h1 : X' 106 = X 106) (h2 : X' 107 = X 107) (h4 : M' 120 21 = M 120 21) (h5 : M' 136 = M 136) : BKR X' M' := by
  unfold BKR at *
  rw [h1, h2, h4, h5]
  exact h
theorem DRR.congr {X M X' M' : IM} (h : DRR X M) (h1 : X' 108 = X 108) (h4 : M' 120 17 = M 120 17) : DRR X' M' := by
  unfold DRR at *
  rw [h1, h4]
  exact h
theorem IR.congr {X M X' M' : IM} {S D : Nat} (h : IR X M S D) (hS : S ≤ 5) (h1 : ∀ r, 110 ≤ r → r ≤ 119 → X' r = X r) (h2 : M' 132 = M 132) (h3 : M' 133 = M 133) (h4 : M' 134 = M 134) : IR X' M' S D := by
  intro i hi
  obtain ⟨a, b, c⟩ := h i hi
  rw [h1 (110 + 5 * i) (by omega) (by omega), h3, h4]
  refine ⟨a, b, fun q => ?_⟩
  obtain ⟨d, e, f⟩ := c q
  exact ⟨d.congr hS (fun r g1 g2 => h1 r (by omega) (by omega)) (fun j _ => by rw [h2]), e, f⟩
theorem CR.congr {X M X' M' : IM} {pl W T S D : Nat} (h : CR X M pl W T S D) (h1 : ∀ r, pl ≤ r → r ≤ pl + 6 → X' r = X r) (h2 : ∀ r, 122 ≤ r → r ≤ 125 → M' r = M r) : CR X' M' pl W T S D := by
  unfold CR at *
  rw [h1 pl (by omega) (by omega), h1 (pl + 1) (by omega) (by omega), h1 (pl + 2) (by omega) (by omega), h1 (pl + 3) (by omega) (by omega), h1 (pl + 4) (by omega) (by omega), h1 (pl + 5) (by omega) (by omega), h1 (pl + 6) (by omega) (by omega), h2 122 (by omega) (by omega), h2 123 (by omega) (by omega), h2 124 (by omega) (by omega), h2 125 (by omega) (by omega)]
  exact h
/-- feed -/
theorem fd_sim {X M : IM} (h : TXR X M) (c : Int32) : fdV X c = fdVm M c ∧ TXR (fdX X c) (fdM M c) := by
  obtain ⟨t1, t2, L, h1, h2, h3, h4⟩ := id h
  unfold fdV fdVm fdX fdM
  cases q : inB c 0 255 with
  | false =>
    rw [if_pos rfl, if_pos rfl, if_pos rfl, if_pos rfl]
    exact ⟨rfl, h⟩
  | true =>
    simp only [Bool.true_eq_false, if_false]
    rw [h1, h2]
    by_cases e : L = 240
    · subst e
      have z1 : ¬ nI 240 < 240 := by decide
      have z2 : nI 240 = 240 := rfl
      rw [if_neg z1, if_neg z1, if_pos z2, if_pos z2]
      exact ⟨rfl, h⟩
    · have z1 : nI L < 240 := (nI_ltI (b := 240) (by omega) (by omega)).mpr (by omega)
      have z2 : ¬ nI L = 240 := fun z => e ((nI_eq (b := 240) (by omega) (by omega)).mp z)
      rw [if_pos z1, if_pos z1, if_neg z2, if_neg z2, tn_nI (by omega)]
      refine ⟨rfl, ?_, ?_, L + 1, ?_, ?_, by omega, ?_⟩
      · funext j
        rw [st_row (k := 1) (by decide), st_row (k := 120) (by decide), st_at1, st_at1, t1]
      · rw [st_ne (by omega), st_row (by decide), st_ne (by omega), st_row (by decide)]
        exact t2
      · rw [st_same]
        exact nI_1 L
      · rw [st_same]
        exact nI_1 L
      · intro j hj
        rw [st_row (by decide), st_at1]
        split
        · exact q
        · exact h4 j (by omega)
/-- write -/
theorem wr_sim {X M : IM} {pl W : Nat} (hW : W ≤ 8) (hx : X pl 0 = nI W) (hm : M 122 0 = nI W) (h : BKR X M) (x : Int32) :
    (if decide (x &&& (alS (X pl 0) ^^^ (-1)) = 0) = false then (-1000000001) else if X 106 1 < 15 then X 106 1 + 1 else (-1000000004)) = wrVm M x ∧ BKR (if decide (x &&& (alS (X pl 0) ^^^ (-1)) = 0) = false then X else bkX X x) (wrM M x) := by
  obtain ⟨B, h1, h2, h3, h4⟩ := id h
  unfold wrVm wrM bkX
  rw [hx, hm, ways_eq hW]
  cases q : inB x 0 (alS (nI W)) with
  | false =>
    rw [if_pos rfl, if_pos rfl, if_pos rfl, if_pos rfl]
    exact ⟨rfl, h⟩
  | true =>
    simp only [Bool.true_eq_false, if_false]
    rw [h1, h2]
    by_cases e : B = 15
    · subst e
      have z1 : ¬ nI 15 < 15 := by decide
      have z2 : nI 15 = 15 := rfl
      rw [if_neg z1, if_neg z1, if_pos z2, if_pos z2]
      exact ⟨rfl, h⟩
    · have z1 : nI B < 15 := (nI_ltI (b := 15) (by omega) (by omega)).mpr (by omega)
      have z2 : ¬ nI B = 15 := fun z => e ((nI_eq (b := 15) (by omega) (by omega)).mp z)
      rw [if_pos z1, if_pos z1, if_neg z2, if_neg z2, tn_nI (by omega)]
      refine ⟨rfl, B + 1, ?_, ?_, by omega, ?_⟩
      · rw [st_same]
        exact nI_1 B
      · rw [st_same]
        exact nI_1 B
      · intro j hj
        rw [st_row (k := 106) (by decide), st_row (k := 120) (by decide), st_at1, st_at1]
        split
        · rfl
        · exact h4 j (by omega)
/-- tear -/
theorem tr_sim {X M : IM} (h : HSR X M) (h' : BKR X M) : X 103 2 + X 106 1 = M 120 19 + M 120 21 ∧ HSR (st (st X 103 2 0) 106 1 0) (st (st M 120 19 0) 120 21 0) ∧ BKR (st (st X 103 2 0) 106 1 0) (st (st M 120 19 0) 120 21 0) := by
  obtain ⟨B, h1, h2, h3, h4⟩ := h
  obtain ⟨C, k1, k2, k3, k4⟩ := h'
  refine ⟨by rw [h1, h2, k1, k2], ⟨0, ?_, ?_, by omega, fun j hj => absurd hj (by omega)⟩, ⟨0, ?_, ?_, by omega, fun j hj => absurd hj (by omega)⟩⟩
  · rw [st_row (by decide), st_same]
    rfl
  · rw [st_ne (by omega), st_same]
    rfl
  · rw [st_same]
    rfl
  · rw [st_same]
    rfl
/-- seed -/
theorem sd_sim {X M : IM} (h : DRR X M) (x : Int32) : (if 0 ≤ x then X 108 0 else (-1000000002)) = (if 0 ≤ x then M 120 17 else (-1000000002)) ∧ DRR (if 0 ≤ x then st X 108 0 x else X) (if 0 ≤ x then st M 120 17 x else M) := by
  obtain ⟨n, h1, h2, h3⟩ := id h
  by_cases q : 0 ≤ x
  · rw [if_pos q, if_pos q, if_pos q, if_pos q, h1, h2]
    have h0 : (0 : Int32).toInt ≤ x.toInt := Int32.le_iff_toInt_le.mp q
    rw [show (0 : Int32).toInt = 0 from rfl] at h0
    have hlt : x.toInt < 2147483648 := x.toInt_lt
    refine ⟨rfl, x.toInt.toNat, ?_, ?_, by omega⟩
    · rw [st_same]
      apply Int32.toInt_inj.mp
      rw [nI_toInt (by omega)]
      omega
    · rw [st_same]
      apply Int32.toInt_inj.mp
      rw [nI_toInt (by omega)]
      omega
  · rw [if_neg q, if_neg q, if_neg q, if_neg q]
    exact ⟨rfl, h⟩
