/-- the reference's counts -/
def MA (im : IM) : Prop := ∃ W T S : Nat, im 122 0 = nI W ∧ W ≤ 8 ∧ im 122 1 = nI T ∧ T ≤ 6 ∧ im 122 2 = nI S ∧ S ≤ 5
def ruM (im : IM) : Nat → Int32 := fun t => im 124 (3 * t)
def shM (im : IM) : Nat → Int32 := fun t => im 124 (3 * t + 1)
def coM (im : IM) : Nat → Int32 := fun t => im 124 (3 * t + 2)
def saM (im : IM) : Nat → Int32 := fun s => im 130 (6 + 3 * s)
def goM (im : IM) : Nat → Int32 := fun s => im 130 (6 + 3 * s + 1)
def siM (im : IM) : Nat → Int32 := fun s => im 130 (6 + 3 * s + 2)
def or0 (x : Int32) : x ||| 0 = x := by simp
def ad0 (x : Int32) : x + 0 = x := by simp
def onF (s : Int32) : Nat → Int32
  | 0 => 0
  | k + 1 => onF s k + ((s >>> (nI k &&& 31)) &&& 1)
def lfM (im : IM) (made : Int32) : Int32 := lfS (im 122 0) (im 122 1) (ruM im) made
def gtV (x : Int32) : Int32 := if x ≤ 999999 then x else 999999
def spM (im : IM) : Int32 := gtV (adF (smF (coM im) (im 130 4) (tn (im 122 1))) (goM im) (tn (im 122 2)))
def cyT (im : IM) (f a t b n : Nat) : IM := fun k j => if k = t ∧ b ≤ j ∧ j < b + n then im f (a + (j - b)) else im k j
theorem cyT_in {im : IM} {f a t b : Nat} : im = cyT im f a t b 0 := by
  funext k j
  simp only [cyT]
  grind
theorem cyT_go {im : IM} {f a t b n : Nat} (h : f ≠ t) : st (cyT im f a t b n) t (b + n) (im f (a + n)) = cyT im f a t b (n + 1) := by
  funext k j
  simp only [st_at, cyT]
  grind
theorem cyT_off {im : IM} {f a t b n k j : Nat} (h : k ≠ t) : cyT im f a t b n k j = im k j := by
  simp only [cyT, h, false_and, if_false]
def shT (im : IM) (t : Nat) : IM := fun k j => if k = 131 ∧ j < t then im 131 (j + 21) else im k j
theorem shT_in {im : IM} : im = shT im 0 := by
  funext k j
  simp only [shT]
  grind
theorem shT_go {im : IM} {t : Nat} : st (shT im t) 131 t (im 131 (t + 21)) = shT im (t + 1) := by
  funext k j
  simp only [st_at, shT]
  grind
def HDm (im : IM) : Prop := ∃ E : Nat, im 120 13 = nI E ∧ E ≤ 20
def ntM (im : IM) : IM := if im 120 13 = 20 then st (cyT (st (shT im 399) 120 13 (im 120 13 - 1)) 130 0 131 399 21) 120 13 20 else st (cyT im 130 0 131 (21 * tn (im 120 13)) 21) 120 13 (im 120 13 + 1)
def geM (im : IM) (s : Nat) (m : Int32) : IM := st im 130 (6 + 3 * s + 1) (gtV (goM im s + m))
def psS (im : IM) (s : Nat) : Int32 := if hasB (im 130 5) (nI s) = true then (if siM im s + 1 = im 122 4 then 0 else siM im s + 1) else siM im s
def psG (im : IM) (s : Nat) : Int32 := if hasB (im 130 5) (nI s) = true then (if siM im s + 1 = im 122 4 then gtV (goM im s + im 122 3) else goM im s) else goM im s
def psT (im : IM) (t : Nat) : IM := fun k j => if k = 130 ∧ j = 0 then im 130 0 + 1 else if k = 130 ∧ j = 1 then im 130 1 + im 130 2 else if k = 130 ∧ 6 ≤ j ∧ j < 6 + 3 * t ∧ j % 3 = 1 then psG im (j / 3 - 2) else if k = 130 ∧ 6 ≤ j ∧ j < 6 + 3 * t ∧ j % 3 = 2 then psS im (j / 3 - 2) else im k j
def psX (im : IM) : IM := psT im (tn (im 122 2))
theorem psT_in {im : IM} : st (st im 130 0 (im 130 0 + 1)) 130 1 (im 130 1 + im 130 2) = psT im 0 := by
  funext k j
  simp only [st_at, psT]
  grind
theorem psT_n {im : IM} {t : Nat} (h : hasB (im 130 5) (nI t) = false) : psT im t = psT im (t + 1) := by
  have h1 : psG im t = im 130 (6 + 3 * t + 1) := by simp only [psG, h, Bool.false_eq_true, if_false, goM]
  have h2 : psS im t = im 130 (6 + 3 * t + 2) := by simp only [psS, h, Bool.false_eq_true, if_false, siM]
  funext k j
  simp only [psT]
  by_cases hk : k = 130
  · subst hk
    by_cases e1 : j = 6 + 3 * t + 1
    · subst e1
      have a1 : (6 + 3 * t + 1) / 3 - 2 = t := by omega
      rw [a1, h1]
      simp (config := { decide := true }) only [show (6 + 3 * t + 1) % 3 = 1 by omega, show ¬ 6 + 3 * t + 1 < 6 + 3 * t by omega, show ¬ 6 + 3 * t + 1 = 0 by omega, show ¬ 6 + 3 * t + 1 = 1 by omega, show 6 + 3 * t + 1 < 6 + 3 * (t + 1) by omega, show 6 ≤ 6 + 3 * t + 1 by omega, true_and, and_true, false_and, and_false, if_true, if_false, ite_self]
    · by_cases e2 : j = 6 + 3 * t + 2
      · subst e2
        have a1 : (6 + 3 * t + 2) / 3 - 2 = t := by omega
        rw [a1, h2]
        simp (config := { decide := true }) only [show (6 + 3 * t + 2) % 3 = 2 by omega, show ¬ 6 + 3 * t + 2 < 6 + 3 * t by omega, show ¬ 6 + 3 * t + 2 = 0 by omega, show ¬ 6 + 3 * t + 2 = 1 by omega, show 6 + 3 * t + 2 < 6 + 3 * (t + 1) by omega, show 6 ≤ 6 + 3 * t + 2 by omega, true_and, and_true, false_and, and_false, if_true, if_false, ite_self]
      · have e3 : (6 ≤ j ∧ j < 6 + 3 * t ∧ j % 3 = 1) ↔ (6 ≤ j ∧ j < 6 + 3 * (t + 1) ∧ j % 3 = 1) := by omega
        have e4 : (6 ≤ j ∧ j < 6 + 3 * t ∧ j % 3 = 2) ↔ (6 ≤ j ∧ j < 6 + 3 * (t + 1) ∧ j % 3 = 2) := by omega
        simp only [true_and, e3, e4]
  · simp only [hk, false_and, if_false]
theorem psT_at {im : IM} {t : Nat} {x y : Int32} (h1 : psG im t = y) (h2 : psS im t = x) : st (st (psT im t) 130 (6 + 3 * t + 2) x) 130 (6 + 3 * t + 1) y = psT im (t + 1) := by
  funext k j
  simp only [st_at, psT]
  by_cases hk : k = 130
  · subst hk
    by_cases e1 : j = 6 + 3 * t + 1
    · subst e1
      have a1 : (6 + 3 * t + 1) / 3 - 2 = t := by omega
      rw [a1, h1]
      simp (config := { decide := true }) only [show (6 + 3 * t + 1) % 3 = 1 by omega, show ¬ 6 + 3 * t + 1 = 0 by omega, show ¬ 6 + 3 * t + 1 = 1 by omega, show 6 + 3 * t + 1 < 6 + 3 * (t + 1) by omega, show 6 ≤ 6 + 3 * t + 1 by omega, true_and, and_true, false_and, and_false, if_true, if_false]
    · by_cases e2 : j = 6 + 3 * t + 2
      · subst e2
        have a1 : (6 + 3 * t + 2) / 3 - 2 = t := by omega
        rw [a1, h2]
        simp (config := { decide := true }) only [show ¬ 6 + 3 * t + 2 = 6 + 3 * t + 1 by omega, show (6 + 3 * t + 2) % 3 = 2 by omega, show ¬ 6 + 3 * t + 2 = 0 by omega, show ¬ 6 + 3 * t + 2 = 1 by omega, show 6 + 3 * t + 2 < 6 + 3 * (t + 1) by omega, show 6 ≤ 6 + 3 * t + 2 by omega, true_and, and_true, false_and, and_false, if_true, if_false]
      · have e3 : (6 ≤ j ∧ j < 6 + 3 * t ∧ j % 3 = 1) ↔ (6 ≤ j ∧ j < 6 + 3 * (t + 1) ∧ j % 3 = 1) := by omega
        have e4 : (6 ≤ j ∧ j < 6 + 3 * t ∧ j % 3 = 2) ↔ (6 ≤ j ∧ j < 6 + 3 * (t + 1) ∧ j % 3 = 2) := by omega
        simp only [true_and, e3, e4, e1, e2, if_false]
  · simp only [hk, false_and, if_false]
theorem psT_row {im : IM} {t k : Nat} (h : k ≠ 130) : psT im t k = im k := by
  funext j
  simp only [psT, h, false_and, if_false]
theorem psT_hi {im : IM} {t j : Nat} (h : 6 + 3 * t ≤ j) : psT im t 130 j = im 130 j := by
  simp only [psT]
  rw [if_neg (by omega), if_neg (by omega), if_neg (by omega), if_neg (by omega)]
theorem psT_lo {im : IM} {t j : Nat} (h : 2 ≤ j) (h2 : j < 6) : psT im t 130 j = im 130 j := by
  simp only [psT]
  rw [if_neg (by omega), if_neg (by omega), if_neg (by omega), if_neg (by omega)]
theorem st_same2 {im : IM} {k j : Nat} {x : Int32} (h : im k j = x) : st im k j x = im := by
  funext a i
  rw [st_at]
  split
  · next q => rw [q.1, q.2, h]
  · rfl
def icB (im : IM) : Bool := !(decide (im 122 0 ≤ 0))
def brM (im : IM) (n : Int32) : Int32 := if inB n 1 60 = false then (-1000000002) else if icB im = false then (-1000000003) else if im 130 0 ≤ 9000 then 0 else (-1000000004)
theorem brM_nat {im : IM} {n : Int32} (h : brM im n = 0) : ∃ j : Nat, 1 ≤ j ∧ j ≤ 60 ∧ n = nI j := by
  unfold brM at h
  by_cases h1 : inB n 1 60 = false
  · rw [if_pos h1] at h
    exact absurd h (by decide)
  · exact inB_natL (a := 1) (b := 60) (show inB n 1 60 = true by simpa using h1) (by omega) (by omega)
def cbB (im : IM) (t : Int32) : Bool := !(hasB (im 130 4) t) && (decide (im 130 2 = 1) && (decide (im 130 3 = 0) || decide (shM im (tn t) = 0)))
def hrM (im : IM) (s : Nat) (x is : Int32) : IM := st (st im 130 5 (hrV (im 130 5) x is)) 130 (6 + 3 * s + 2) 0
def beM (im : IM) (w left : Int32) : Int32 := if hasB left w = true then ((1000000 : Int64) * (im 123 (tn w)).toInt64 / (smF (im 123) left (tn (im 122 0))).toInt64).toInt32 else 0
def lrM (im : IM) (w : Int32) : Int32 := lrF (saM im) w (tn (im 122 2))
def csM (im : IM) (s : Int32) : Int32 := smF (coM im) (s &&& (im 130 4 ^^^ (-1))) (tn (im 122 1))
def swM (im : IM) (s : Int32) : Int32 := orF (shM im) s (tn (im 122 1))
def tdM (im : IM) (w : Int32) : Int32 :=
  if w = nI 0 then im 122 0 else if w = nI 1 then im 122 1 else if w = nI 2 then im 122 2 else if w = nI 3 then im 120 1 else if w = nI 4 then im 122 3 else if w = nI 5 then im 122 4 else if w = nI 6 then im 130 0 else if w = nI 7 then im 130 1
  else if w = nI 8 then im 130 2 else if w = nI 9 then im 130 3 else if w = nI 10 then im 130 4 else if w = nI 11 then lfM im (im 130 4) else if w = nI 12 then swM im (im 130 4) else if w = nI 13 then im 130 5
  else if w = nI 14 then spM im else if w = nI 15 then im 120 19 else if w = nI 16 then im 120 21 else if w = nI 17 then im 120 13 else (-1000000002)
/-- least liars of the reference: the best behind so many ways (from 1 on) -/
def llF (left : Int32) (cnt : Int32 → Int32) : Nat → Int32
  | 0 => 0
  | w + 1 => if hasB left (nI (w + 1)) = true ∧ ¬ cnt (llF left cnt w) ≤ cnt (nI (w + 1)) then nI (w + 1) else llF left cnt w
def roF (L S C : Int32 → Int32) (ways secrets : Int32) : Nat → Int32
  | 0 => -1
  | t + 1 => if L (nI t) &&& ways = 0 ∧ S (nI t) &&& (secrets ^^^ (-1)) = 0 ∧ (roF L S C ways secrets t = -1 ∨ ¬ C (roF L S C ways secrets t) ≤ C (nI t)) then nI t else roF L S C ways secrets t
def nmF (made left : Int32) (lik : Int32 → Int32) (rules costs : Nat → Int32) : Nat → Int32 × Int32
  | 0 => (-1, 0)
  | t + 1 => if hasB made (nI t) = false ∧ ¬ left &&& rules t = 0 ∧ ((nmF made left lik rules costs t).1 = -1 ∨ lik (left &&& (rules t ^^^ (-1))) < (nmF made left lik rules costs t).2 ∨ (lik (left &&& (rules t ^^^ (-1))) = (nmF made left lik rules costs t).2 ∧ ¬ costs (tn (nmF made left lik rules costs t).1) ≤ costs t)) then (nI t, lik (left &&& (rules t ^^^ (-1)))) else nmF made left lik rules costs t
theorem nmF_b (made left : Int32) (lik : Int32 → Int32) (rules costs : Nat → Int32) : ∀ t, (nmF made left lik rules costs t).1 = -1 ∨ ∃ j : Nat, j < t ∧ (nmF made left lik rules costs t).1 = nI j
  | 0 => Or.inl rfl
  | t + 1 => by
    have ih := nmF_b made left lik rules costs t
    rw [nmF]
    split
    · exact Or.inr ⟨t, by omega, rfl⟩
    · rcases ih with h | ⟨j, h1, h2⟩
      · exact Or.inl h
      · exact Or.inr ⟨j, by omega, h2⟩
def omS (im : IM) (v c left : Int32) : Int32 := if 0 ≤ (v.toInt64 * (beM im 0 left).toInt64 / (1000000 : Int64)).toInt32 - c then (v.toInt64 * (beM im 0 left).toInt64 / (1000000 : Int64)).toInt32 - c else 0
def gbS (r n e : Int32) : Int32 := if n < r then 0 else if (n - r) - (n - r) / e * e = 0 then 1 else 0
/-- heard: behind so many -/
def hfF (h : Nat → Int32) (r e : Int32) : Nat → Bool
  | 0 => true
  | t + 1 => hfF h r e t && decide (gbS r (h (2 * t)) e = h (2 * t + 1))
def psF (h : Nat → Int32) (e : Int32) (n : Nat) : Nat → Int32
  | 0 => 0
  | t + 1 => if hfF h (nI t) e n = true then psF h e n t ||| (1 <<< (nI t &&& 31)) else psF h e n t
def ymF (s n e : Int32) : Nat → Int32
  | 0 => 0
  | t + 1 => if hasB s (nI t) = true then ymF s n e t + gbS (nI t) n e else ymF s n e t
def mmV (x a : Int32) : Int32 := if x ≤ a - x then a - x else x
def bmF (s a e : Int32) (D : Nat) : Nat → Int32 × Int32
  | 0 => (-1, a)
  | n + 1 => if (bmF s a e D n).2 ≤ mmV (ymF s (nI n) e D) a then bmF s a e D n else (nI n, mmV (ymF s (nI n) e D) a)
def dmS (s : Int32) : Int32 := ((s.toInt64 * (1103515245 : Int64) + (12345 : Int64)) &&& (2147483647 : Int64)).toInt32
def dmV (s n : Int32) : Int32 := s / 65536 - s / 65536 / n * n
