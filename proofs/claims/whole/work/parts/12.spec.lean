def inB (x a c : Int32) : Bool := !(decide (x < a)) && !(decide (c < x))
def hasB (s k : Int32) : Bool := decide ((s >>> (k &&& 31)) &&& 1 = 1)
def mnI (x y : Int32) : Int32 := if y < x then y else x
def mxI (x y : Int32) : Int32 := if x < y then y else x
def us (x y : Int32) : Int32 := (x.toUInt32 >>> (y.toUInt32 &&& Int32.toUInt32 31)).toInt32
def bc1 (x : Int32) : Int32 := x - (us x 1 &&& 1431655765)
def bc2 (x : Int32) : Int32 := (x &&& 858993459) + (us x 2 &&& 858993459)
def bc3 (x : Int32) : Int32 := (x + us x 4) &&& 252645135
def bc4 (x : Int32) : Int32 := x + us x 8
def bc5 (x : Int32) : Int32 := x + us x 16
def bcI (x : Int32) : Int32 := bc5 (bc4 (bc3 (bc2 (bc1 x)))) &&& 63
def alS (W : Int32) : Int32 := (1 <<< (W &&& 31)) - 1
def fdI (f : Nat → Int32 → Int32) (a : Int32) : Nat → Int32
  | 0 => a
  | t + 1 => f t (fdI f a t)
def orF (row : Nat → Int32) (made : Int32) : Nat → Int32
  | 0 => 0
  | t + 1 => if hasB made (nI t) = true then orF row made t ||| row t else orF row made t
def smF (row : Nat → Int32) (made : Int32) : Nat → Int32
  | 0 => 0
  | t + 1 => if hasB made (nI t) = true then smF row made t + row t else smF row made t
def lfS (W T : Int32) (row : Nat → Int32) (made : Int32) : Int32 := alS W &&& (orF row made (tn T) ^^^ (-1))
def beS (W : Int32) (row : Nat → Int32) (w left : Int32) : Int32 :=
  if inB w 0 (W - 1) = false then 0 else if hasB left w = false then 0 else if smF row left (tn W) ≤ 0 then 0 else ((1000000 : Int64) * (row (tn w)).toInt64 / (smF row left (tn W)).toInt64).toInt32
/-- a castle's counts -/
def CA (im : IM) (k : Nat) : Prop := isC k ∧ ∃ W T S : Nat, im k 0 = nI W ∧ W ≤ 8 ∧ im k 2 = nI T ∧ T ≤ 6 ∧ im k 6 = nI S ∧ S ≤ 5
theorem inB_nat {w : Int32} {W : Nat} (h : inB w 0 (nI W - 1) = true) (hW : W ≤ 240) : ∃ j : Nat, j < W ∧ w = nI j := by
  unfold inB at h
  simp only [Bool.and_eq_true, Bool.not_eq_true', decide_eq_false_iff_not] at h
  obtain ⟨h1, h2⟩ := h
  obtain ⟨j, hj, rfl⟩ := nI_of h1
  refine ⟨j, ?_, rfl⟩
  apply Nat.lt_of_not_le
  intro h3
  apply h2
  by_cases h0 : W = 0
  · subst h0
    show (0 : Int32) - 1 < nI j
    rw [Int32.lt_iff_toInt_lt, nI_toInt hj]
    show (-1 : Int) < _
    omega
  · obtain ⟨V, rfl⟩ : ∃ V, W = V + 1 := ⟨W - 1, by omega⟩
    rw [nI_pred]
    exact nI_lt (by omega) hj
theorem fa_nlt {x : Int32} (h : ¬ 0 < x) : x ≤ 0 := by
  rw [Int32.le_iff_toInt_le]
  rw [Int32.lt_iff_toInt_lt] at h
  omega
theorem fa_ngt {x : Int32} (h : 0 < x) : ¬ x ≤ 0 := by
  rw [Int32.le_iff_toInt_le]
  rw [Int32.lt_iff_toInt_lt] at h
  omega
theorem fa_zero {x : Int32} (h : x.toInt64 = 0) : x ≤ 0 := by
  have h2 : x.toInt64.toInt = (0 : Int64).toInt := by rw [h]
  rw [Int32.toInt_toInt64] at h2
  rw [Int32.le_iff_toInt_le, h2]
  decide
