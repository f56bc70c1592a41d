def b01 (x : Int32) : Prop := x = 0 ∨ x = 1
theorem b01_nar {x : Int32} (h : b01 x) : narrow .boolean (.int x) = .int x ∧ fits .boolean (.int x) = true := by
  rcases h with rfl | rfl
  · exact ⟨nar0, rfl⟩
  · exact ⟨nar1, rfl⟩
theorem b01_bI (b : Bool) : b01 (bI b) := by cases b <;> first | exact Or.inl rfl | exact Or.inr rfl
theorem lt_of_nI {x y : Int32} {a b : Nat} (hx : x = nI a) (hy : y = nI b) (h : x < y) (ha : a < 2147483648) (hb : b < 2147483648) : a < b := by
  rw [hx, hy] at h
  exact (nI_ltI ha hb).mp h
theorem ge_of_nI {x y : Int32} {a b : Nat} (hx : x = nI a) (hy : y = nI b) (h : ¬ x < y) (ha : a < 2147483648) (hb : b < 2147483648) : b ≤ a := by
  rw [hx, hy] at h
  exact Nat.le_of_not_lt (fun q => h ((nI_ltI ha hb).mpr q))
theorem le_of_nI {x y : Int32} {a b : Nat} (hx : x = nI a) (hy : y = nI b) (h : x ≤ y) (ha : a < 2147483648) (hb : b < 2147483648) : a ≤ b := by
  rw [hx, hy] at h
  exact (nI_leI ha hb).mp h
theorem gt_of_nI {x y : Int32} {a b : Nat} (hx : x = nI a) (hy : y = nI b) (h : ¬ x ≤ y) (ha : a < 2147483648) (hb : b < 2147483648) : b < a := by
  rw [hx, hy] at h
  exact Nat.lt_of_not_le (fun q => h ((nI_leI ha hb).mpr q))
theorem isA_apart {a b : Nat} (ha : isA a) (hb : isA b) (h : a ≠ b) : a + 4 ≤ b ∨ b + 4 ≤ a := by
  have key : (affL.all fun a => affL.all fun b => decide (a ≠ b → a + 4 ≤ b ∨ b + 4 ≤ a)) = true := by decide +kernel
  have h1 := List.all_eq_true.mp (List.all_eq_true.mp key a ha) b hb
  exact of_decide_eq_true h1 h
theorem isA_ge {a : Nat} (ha : isA a) : 17 ≤ a ∧ a + 4 ≤ 120 ∧ (a + 4 ≤ 21 ∨ 23 ≤ a) ∧ (a + 4 ≤ 103 ∨ 111 ≤ a) := affAll (P := fun a => 17 ≤ a ∧ a + 4 ≤ 120 ∧ (a + 4 ≤ 21 ∨ 23 ≤ a) ∧ (a + 4 ≤ 103 ∨ 111 ≤ a)) (by decide +kernel) ha
/-- a copy of one state of affairs over another, t servants of it -/
def cpT (im : IM) (a b t : Nat) : IM := fun k j => if k = a ∧ j < 6 then im b j else if k = a + 1 ∧ j < t then im (b + 1) j else if k = a + 2 ∧ j < t then im (b + 2) j else if k = a + 3 ∧ j < t then im (b + 3) j else im k j
def cpA (im : IM) (a b : Nat) : IM := cpT im a b 5
theorem cpT_in {im : IM} {a b : Nat} : st (st (st (st (st (st im a 0 (im b 0)) a 1 (im b 1)) a 2 (im b 2)) a 3 (im b 3)) a 4 (im b 4)) a 5 (im b 5) = cpT im a b 0 := by
  funext k j
  simp only [st_at, cpT]
  grind
theorem cpT_go {im : IM} {a b t : Nat} : st (st (st (cpT im a b t) (a + 1) t (im (b + 1) t)) (a + 2) t (im (b + 2) t)) (a + 3) t (im (b + 3) t) = cpT im a b (t + 1) := by
  funext k j
  simp only [st_at, cpT]
  grind
theorem cpT_off {im : IM} {a b t k j : Nat} (h : k < a ∨ a + 4 ≤ k) : cpT im a b t k j = im k j := by
  simp only [cpT]
  grind
/-- what is so begins anew -/
def bgT (im : IM) (c t : Nat) : IM := fun k j => if k = 17 ∧ j < 6 then (if j = 2 ∨ j = 3 then bI (decide (0 < im c 0)) else 0) else if k = 18 ∧ j < t then im (c + 5) j else if k = 19 ∧ j < t then 0 else if k = 20 ∧ j < t then 0 else im k j
/-- a day: since, got of a servant -/
def pdS (im : IM) (c j : Nat) : Int32 := if hasB (im 17 5) (nI j) = true then (if im 20 j + 1 < im c 10 then im 20 j + 1 else 0) else im 20 j
def pdG (im : IM) (c j : Nat) : Int32 := if hasB (im 17 5) (nI j) = true then (if im 20 j + 1 < im c 10 then im 19 j else mnI (im 19 j + im c 9) 999999) else im 19 j
def pdT (im : IM) (c t : Nat) : IM := fun k j => if k = 17 ∧ j = 0 then im 17 0 + 1 else if k = 17 ∧ j = 1 then (if im 17 2 = 0 then im 17 1 else im 17 1 + 1) else if k = 19 ∧ j < t then pdG im c j else if k = 20 ∧ j < t then pdS im c j else im k j
def pdX (im : IM) (c : Nat) : IM := pdT im c (tn (im c 6))
def cmB (im : IM) (c : Nat) (t : Int32) : Bool := !(decide (im 17 2 = 0)) && (inB t 0 (im c 2 - 1) && (!(hasB (im 17 4) t) && (decide (im 17 3 = 0) || decide (im (c + 3) (tn t) = 0))))
def hrV (h s is : Int32) : Int32 := if is = 0 then h &&& ((1 <<< (s &&& 31)) ^^^ (-1)) else h ||| (1 <<< (s &&& 31))
def shX (im : IM) (s is : Int32) : IM := if inB s 0 4 = true then st (st im 17 5 (hrV (im 17 5) s is)) 20 (tn s) 0 else im
def giX (im : IM) (s m : Int32) : IM := if inB s 0 4 = true then st im 19 (tn s) (mnI (im 19 (tn s) + m) 999999) else im
/-- the ring -/
def rmX (im : IM) : IM := st (st (cpA im (23 + 4 * tn (im 21 1)) 17) 21 1 (nI ((tn (im 21 1) + 1) % 20))) 21 2 (mnI (im 21 2 + 1) 20)
def rcX (im : IM) : IM := if im 21 2 = 0 then im else cpA (st (st im 21 1 (nI ((tn (im 21 1) + 19) % 20))) 21 2 (im 21 2 - 1)) 17 (23 + 4 * ((tn (im 21 1) + 19) % 20))
def bkX (im : IM) (x : Int32) : IM := if im 106 1 < 15 then st (st im 107 (tn (im 106 1)) x) 106 1 (im 106 1 + 1) else im
def foF (row : Nat → Int32) (x : Int32) : Nat → Nat → Int32
  | _, 0 => -1
  | t, m + 1 => if row t = x then foF row x (t + 1) m else nI t
def drS (s : Int32) : Int32 := ((s.toInt64 * (1103515245 : Int64) + (12345 : Int64)) - (s.toInt64 * (1103515245 : Int64) + (12345 : Int64)) / (2147483648 : Int64) * (2147483648 : Int64)).toInt32
def drV (s n : Int32) : Int32 := if n ≤ 0 then 0 else s / 65536 - s / 65536 / n * n
def hsX (im : IM) (x g : Int32) : IM := if im 103 2 < 6 then st (st (st im 104 (tn (im 103 2)) x) 105 (tn (im 103 2)) g) 103 2 (im 103 2 + 1) else im
def gmB (n r e : Int32) : Bool := !(decide (e ≤ 0)) && decide (n - n / e * e = r)
def ftF (d c : Nat → Int32) (r e : Int32) : Nat → Bool
  | 0 => true
  | t + 1 => ftF d c r e t && decide (bI (gmB (d t) r e) = c t)
def fgF (d c : Nat → Int32) (e : Int32) (h : Nat) : Nat → Int32
  | 0 => 0
  | t + 1 => if ftF d c (nI t) e h = true then fgF d c e h t ||| (1 <<< (nI t &&& 31)) else fgF d c e h t
def ysF (s n e : Int32) : Nat → Int32
  | 0 => 0
  | t + 1 => if (hasB s (nI t) && gmB n (nI t) e) = true then ysF s n e t + 1 else ysF s n e t
def gpS (s n e : Int32) : Int32 := mxI (ysF s n e (tn e)) (bcI s - ysF s n e (tn e))
/-- the best question: (best, least) behind n of them -/
def bqF (s e : Int32) : Nat → Int32 × Int32
  | 0 => (-1, bcI s)
  | n + 1 => if (bqF s e n).2 ≤ gpS s (nI n) e then bqF s e n else (nI n, gpS s (nI n) e)
