theorem shl_nI : ∀ T, T < 31 → (1 : Int32) <<< (nI T &&& 31) = nI (2 ^ T) := by decide +kernel
def wlX (im : IM) (pl : Nat) : Int32 := lfS (im pl 0) (im pl 2) (im (pl + 2)) (im 17 4)
def adF (a : Int32) (row : Nat → Int32) : Nat → Int32
  | 0 => a
  | t + 1 => adF a row t + row t
def spX (im : IM) (pl : Nat) : Int32 := mnI (adF (smF (im (pl + 4)) (im 17 4) (tn (im pl 2))) (im 19) (tn (im pl 6))) 999999
def lrF (says : Nat → Int32) (w : Int32) : Nat → Int32
  | 0 => 0
  | s + 1 => if hasB (says s) w = true then lrF says w s else lrF says w s ||| (1 <<< (nI s &&& 31))
def lrX (im : IM) (pl : Nat) (w : Int32) : Int32 := lrF (im 18) w (tn (im pl 6))
/-- the way of fewest liars: (best, fewest) behind so many ways -/
def wfF (left : Int32) (cnt : Int32 → Int32) : Nat → Int32 × Int32
  | 0 => (0, 6)
  | w + 1 => if hasB left (nI w) = true ∧ ¬ (wfF left cnt w).2 ≤ cnt (nI w) then (nI w, cnt (nI w)) else wfF left cnt w
def wfX (im : IM) (pl : Nat) : Int32 := (wfF (wlX im pl) (fun w => bcI (lrX im pl w)) (tn (im pl 0))).1
def ctF (L S C : Int32 → Int32) (ways secrets : Int32) : Nat → Int32 × Int32
  | 0 => (-1, 0)
  | t + 1 => if ways &&& L (nI t) = 0 ∧ S (nI t) &&& (secrets ^^^ (-1)) = 0 ∧ ((ctF L S C ways secrets t).1 = -1 ∨ ¬ (ctF L S C ways secrets t).2 ≤ C (nI t)) then (nI t, C (nI t)) else ctF L S C ways secrets t
def cyX (im : IM) (pl : Nat) (s : Int32) : Int32 := smF (im (pl + 4)) (s &&& (im 17 4 ^^^ (-1))) (tn (im pl 2))
def ctX (im : IM) (pl : Nat) (ways secrets : Int32) : Int32 := (ctF (fun s => lfS (im pl 0) (im pl 2) (im (pl + 2)) s) (fun s => orF (im (pl + 3)) s (tn (im pl 2))) (cyX im pl) ways secrets (2 ^ tn (im pl 2))).1
def nxF (made left : Int32) (lik : Int32 → Int32) (rules costs : Nat → Int32) : Nat → Int32 × Int32
  | 0 => (-1, lik left)
  | t + 1 => if hasB made (nI t) = true then nxF made left lik rules costs t else
      if lik (left &&& (rules t ^^^ (-1))) < (nxF made left lik rules costs t).2 ∨ (¬ (nxF made left lik rules costs t).1 = -1 ∧ lik (left &&& (rules t ^^^ (-1))) = (nxF made left lik rules costs t).2 ∧ ¬ costs (tn (nxF made left lik rules costs t).1) ≤ costs t) then (nI t, lik (left &&& (rules t ^^^ (-1)))) else nxF made left lik rules costs t
theorem nxF_b (made left : Int32) (lik : Int32 → Int32) (rules costs : Nat → Int32) : ∀ t, (nxF made left lik rules costs t).1 = -1 ∨ ∃ j : Nat, j < t ∧ (nxF made left lik rules costs t).1 = nI j
  | 0 => Or.inl rfl
  | t + 1 => by
    have ih := nxF_b made left lik rules costs t
    have up : (nxF made left lik rules costs t).1 = -1 ∨ ∃ j : Nat, j < t + 1 ∧ (nxF made left lik rules costs t).1 = nI j := by
      rcases ih with h | ⟨j, h1, h2⟩
      · exact Or.inl h
      · exact Or.inr ⟨j, by omega, h2⟩
    rw [nxF]
    split
    · exact up
    · split
      · exact Or.inr ⟨t, by omega, rfl⟩
      · exact up
def nxX (im : IM) (pl : Nat) : Int32 := (nxF (im 17 4) (wlX im pl) (fun s => smF (im (pl + 1)) s (tn (im pl 0))) (im (pl + 2)) (im (pl + 4)) (tn (im pl 2))).1
def ofS (im : IM) (pl : Nat) (v c left : Int32) : Int32 := mxI ((v.toInt64 * (beS (im pl 0) (im (pl + 1)) 0 left).toInt64 / (1000000 : Int64)).toInt32 - c) 0
def scF (q : Int32) : Nat → Int32
  | 0 => 1000000
  | t + 1 => scF q t * (100 - q) / 100
def rfD (im : IM) (pl : Nat) (n : Int32) : Int32 := if inB n 1 60 = false then (-1000000002) else if decide (0 < im pl 0) = false then (-1000000003) else if im 17 0 ≤ 9000 then 0 else (-1000000004)
theorem inB_natL {w : Int32} {a b : Nat} (h : inB w (nI a) (nI b) = true) (hb : b < 2147483648) (ha : a < 2147483648) : ∃ j : Nat, a ≤ j ∧ j ≤ b ∧ w = nI j := by
  unfold inB at h
  simp only [Bool.and_eq_true, Bool.not_eq_true', decide_eq_false_iff_not] at h
  obtain ⟨h1, h2⟩ := h
  have hw : w.toInt ≤ b := by
    rw [Int32.lt_iff_toInt_lt, nI_toInt hb] at h2
    omega
  have hv : (a : Int) ≤ w.toInt := by
    rw [Int32.lt_iff_toInt_lt, nI_toInt ha] at h1
    omega
  refine ⟨w.toInt.toNat, by omega, by omega, ?_⟩
  apply Int32.toInt_inj.mp
  rw [nI_toInt (by omega)]
  omega
def tdX (im : IM) (pl : Nat) (w : Int32) : Int32 :=
  if w = nI 0 then im pl 0 else if w = nI 1 then im pl 2 else if w = nI 2 then im pl 6 else if w = nI 3 then im 1 1 else if w = nI 4 then im pl 9 else if w = nI 5 then im pl 10 else if w = nI 6 then im 17 0 else if w = nI 7 then im 17 1
  else if w = nI 8 then (if im 17 2 = 0 then 0 else 1) else if w = nI 9 then (if im 17 3 = 0 then 0 else 1) else if w = nI 10 then im 17 4 else if w = nI 11 then wlX im pl else if w = nI 12 then orF (im (pl + 3)) (im 17 4) (tn (im pl 2)) else if w = nI 13 then im 17 5
  else if w = nI 14 then spX im pl else if w = nI 15 then im 103 2 else if w = nI 16 then im 106 1 else if w = nI 17 then im 21 2 else (-1000000002)
theorem td_out {x : Int32} (h : x.toInt < ((0 : Nat) : Int) ∨ ((0 + 18 - 1 : Nat) : Int) < x.toInt) : x ≠ nI 0 ∧ x ≠ nI 1 ∧ x ≠ nI 2 ∧ x ≠ nI 3 ∧ x ≠ nI 4 ∧ x ≠ nI 5 ∧ x ≠ nI 6 ∧ x ≠ nI 7 ∧ x ≠ nI 8 ∧ x ≠ nI 9 ∧ x ≠ nI 10 ∧ x ≠ nI 11 ∧ x ≠ nI 12 ∧ x ≠ nI 13 ∧ x ≠ nI 14 ∧ x ≠ nI 15 ∧ x ≠ nI 16 ∧ x ≠ nI 17 := by
  have key : ∀ c : Nat, c < 18 → x ≠ nI c := fun c hc e => by
    subst e
    rw [nI_toInt (by omega)] at h
    omega
  exact ⟨key 0 (by omega), key 1 (by omega), key 2 (by omega), key 3 (by omega), key 4 (by omega), key 5 (by omega), key 6 (by omega), key 7 (by omega), key 8 (by omega), key 9 (by omega), key 10 (by omega), key 11 (by omega), key 12 (by omega), key 13 (by omega), key 14 (by omega), key 15 (by omega), key 16 (by omega), key 17 (by omega)⟩
theorem td_out4 {x : Int32} (h : x.toInt < ((0 : Nat) : Int) ∨ ((0 + 4 - 1 : Nat) : Int) < x.toInt) : x ≠ nI 0 ∧ x ≠ nI 1 ∧ x ≠ nI 2 ∧ x ≠ nI 3 := by
  have key : ∀ c : Nat, c < 4 → x ≠ nI c := fun c hc e => by
    subst e
    rw [nI_toInt (by omega)] at h
    omega
  exact ⟨key 0 (by omega), key 1 (by omega), key 2 (by omega), key 3 (by omega)⟩
theorem nI_lit (a b : Nat) : (nI a = nI b) = (a % 4294967296 = b % 4294967296) := by
  apply propext
  unfold nI
  rw [← Int32.toBitVec_inj]
  constructor
  · intro h
    have h2 := congrArg BitVec.toNat h
    simpa using h2
  · intro h
    apply BitVec.eq_of_toNat_eq
    simpa using h
