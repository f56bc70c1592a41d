/-- the text: skip blanks, digits -/
def skF (tx : Nat → Int32) (L : Nat) : Nat → Nat → Nat
  | 0, p => p
  | f + 1, p => if p < L ∧ tx p = 32 then skF tx L f (p + 1) else p
def sk (tx : Nat → Int32) (L p : Nat) : Nat := skF tx L (L - p) p
theorem sk_go {tx : Nat → Int32} {L p : Nat} (h : p < L) (h2 : tx p = 32) : sk tx L p = sk tx L (p + 1) := by
  unfold sk
  rw [show L - p = (L - (p + 1)) + 1 by omega, skF, if_pos ⟨h, h2⟩]
theorem sk_at {tx : Nat → Int32} {L p : Nat} (h : ¬ (p < L ∧ tx p = 32)) : sk tx L p = p := by
  unfold sk
  cases L - p with
  | zero => rfl
  | succ f => rw [skF, if_neg h]
theorem sk_stop (tx : Nat → Int32) (L : Nat) : ∀ p, ¬ (sk tx L p < L ∧ tx (sk tx L p) = 32) ∧ p ≤ sk tx L p ∧ (p ≤ L → sk tx L p ≤ L) := by
  have key : ∀ m p, L - p = m → ¬ (sk tx L p < L ∧ tx (sk tx L p) = 32) ∧ p ≤ sk tx L p ∧ (p ≤ L → sk tx L p ≤ L) := by
    intro m
    induction m with
    | zero =>
      intro p hp
      rw [sk_at (by omega)]
      exact ⟨by omega, Nat.le_refl _, fun h => h⟩
    | succ m ih =>
      intro p hp
      by_cases h : p < L ∧ tx p = 32
      · rw [sk_go h.1 h.2]
        obtain ⟨h1, h2, h3⟩ := ih (p + 1) (by omega)
        exact ⟨h1, by omega, fun _ => h3 (by omega)⟩
      · rw [sk_at h]
        exact ⟨h, Nat.le_refl _, fun h => h⟩
  exact fun p => key _ p rfl
theorem sk_sk (tx : Nat → Int32) (L p : Nat) : sk tx L (sk tx L p) = sk tx L p := sk_at (sk_stop tx L p).1
def ndF (tx : Nat → Int32) (L : Nat) : Nat → Nat → Nat
  | 0, p => p
  | f + 1, p => if p < L ∧ inB (tx p) 48 57 = true then ndF tx L f (p + 1) else p
def nd (tx : Nat → Int32) (L p : Nat) : Nat := ndF tx L (L - p) p
theorem nd_go {tx : Nat → Int32} {L p : Nat} (h : p < L) (h2 : inB (tx p) 48 57 = true) : nd tx L p = nd tx L (p + 1) := by
  unfold nd
  rw [show L - p = (L - (p + 1)) + 1 by omega, ndF, if_pos ⟨h, h2⟩]
theorem nd_at {tx : Nat → Int32} {L p : Nat} (h : ¬ (p < L ∧ inB (tx p) 48 57 = true)) : nd tx L p = p := by
  unfold nd
  cases L - p with
  | zero => rfl
  | succ f => rw [ndF, if_neg h]
theorem nd_le (tx : Nat → Int32) (L : Nat) : ∀ p, p ≤ nd tx L p ∧ (p ≤ L → nd tx L p ≤ L) := by
  have key : ∀ m p, L - p = m → p ≤ nd tx L p ∧ (p ≤ L → nd tx L p ≤ L) := by
    intro m
    induction m with
    | zero =>
      intro p hp
      rw [nd_at (by omega)]
      exact ⟨Nat.le_refl _, fun h => h⟩
    | succ m ih =>
      intro p hp
      by_cases h : p < L ∧ inB (tx p) 48 57 = true
      · rw [nd_go h.1 h.2]
        obtain ⟨h2, h3⟩ := ih (p + 1) (by omega)
        exact ⟨by omega, fun _ => h3 (by omega)⟩
      · rw [nd_at h]
        exact ⟨Nat.le_refl _, fun h => h⟩
  exact fun p => key _ p rfl
/-- the number behind so many figures (four at most) -/
def vX (tx : Nat → Int32) (p : Nat) : Nat → Int32
  | 0 => 0
  | t + 1 => if t ≤ 3 then vX tx p t * 10 + tx (p + t) - 48 else vX tx p t
def lxX (im : IM) : Int32 := if im 1 2 ≤ im 1 3 then -1 else im 2 (tn (im 1 3))
def skX (im : IM) : IM := st im 1 3 (nI (sk (im 2) (tn (im 1 2)) (tn (im 1 3))))
def rfX (im : IM) (k a : Int32) : IM := st (st im 1 8 k) 1 9 a
def tkF (im : IM) (c : Int32) : Bool × IM := if lxX im = c then (true, skX (st im 1 3 (im 1 3 + 1))) else (false, rfX im 1 (im 1 3))
def dgX (im : IM) (t : Nat) : IM := st (st (st im 1 7 (im 1 3)) 1 6 (vX (im 2) (tn (im 1 3)) t)) 1 3 (nI (tn (im 1 3) + t))
def dgN (im : IM) : Nat := nd (im 2) (tn (im 1 2)) (tn (im 1 3)) - tn (im 1 3)
def rnF (im : IM) (lo hi : Int32) : Bool × IM :=
  if inB (lxX im) 48 57 = false then (false, rfX im 1 (im 1 3)) else if 3 < dgN im then (false, rfX (dgX im (dgN im)) 2 (im 1 3)) else if inB (vX (im 2) (tn (im 1 3)) (dgN im)) lo hi = false then (false, rfX (dgX im (dgN im)) 2 (im 1 3)) else (true, skX (dgX im (dgN im)))
/-- the reader's places -/
def RD (im : IM) : Prop := ∃ L p : Nat, im 1 2 = nI L ∧ L ≤ 240 ∧ im 1 3 = nI p ∧ p ≤ L
theorem rfX_row {im : IM} {k a : Int32} {r : Nat} (h : r ≠ 1) : rfX im k a r = im r := by unfold rfX; rw [st_row h, st_row h]
theorem skX_row {im : IM} {r : Nat} (h : r ≠ 1) : skX im r = im r := by unfold skX; rw [st_row h]
theorem dgX_row {im : IM} {t r : Nat} (h : r ≠ 1) : dgX im t r = im r := by unfold dgX; rw [st_row h, st_row h, st_row h]
theorem tkF_row {im : IM} {c : Int32} {r : Nat} (h : r ≠ 1) : (tkF im c).2 r = im r := by
  unfold tkF
  split
  · show skX _ r = _
    rw [skX_row h, st_row h]
  · exact rfX_row h
theorem rnF_row {im : IM} {lo hi : Int32} {r : Nat} (h : r ≠ 1) : (rnF im lo hi).2 r = im r := by
  unfold rnF
  split
  · exact rfX_row h
  · split
    · show rfX _ _ _ r = _
      rw [rfX_row h, dgX_row h]
    · split
      · show rfX _ _ _ r = _
        rw [rfX_row h, dgX_row h]
      · show skX _ r = _
        rw [skX_row h, dgX_row h]
theorem lxX_lt {im : IM} {L p : Nat} (hL : im 1 2 = nI L) (hL2 : L ≤ 240) (hp : im 1 3 = nI p) (hp2 : p ≤ L) : lxX im = if p < L then im 2 p else -1 := by
  unfold lxX
  rw [hL, hp, tn_nI (by omega)]
  by_cases h : p < L
  · rw [if_neg (nI_ge h (by omega)), if_pos h]
  · rw [if_pos (nI_le (by omega) (by omega)), if_neg h]
