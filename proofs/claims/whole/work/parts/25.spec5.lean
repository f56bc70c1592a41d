def dwX (im : IM) (pl : Nat) : IM :=
  if drV (drS (im 108 0)) 8 = 0 ∧ ¬ im pl 2 ≤ 0 then (if cmB im pl (drV (drS (drS (im 108 0))) (im pl 2)) = true then st (st im 108 0 (drS (drS (im 108 0)))) 17 4 (im 17 4 ||| (1 <<< (drV (drS (drS (im 108 0))) (im pl 2) &&& 31))) else st im 108 0 (drS (drS (im 108 0))))
  else if drV (drS (im 108 0)) 8 = 1 ∧ ¬ im pl 6 ≤ 0 then shX (st im 108 0 (drS (drS (im 108 0)))) (drV (drS (drS (im 108 0))) (im pl 6)) (if hasB (im 17 5) (drV (drS (drS (im 108 0))) (im pl 6)) = true then 0 else 1)
  else if drV (drS (im 108 0)) 8 = 2 then st (st im 108 0 (drS (im 108 0))) 17 3 (if im 17 3 = 0 then 1 else 0)
  else st im 108 0 (drS (im 108 0))
theorem shX_row {im : IM} {s is : Int32} {k : Nat} (h : k ≠ 17) (h2 : k ≠ 20) : shX im s is k = im k := by
  unfold shX
  split
  · rw [st_row h2, st_row h]
  · rfl
theorem dwX_row {im : IM} {pl k : Nat} (h : k ≠ 108) (h1 : k ≠ 17) (h2 : k ≠ 20) : dwX im pl k = im k := by
  unfold dwX
  split
  · split
    · rw [st_row h1, st_row h]
    · rw [st_row h]
  · split
    · rw [shX_row h1 h2, st_row h]
    · split
      · rw [st_row h1, st_row h]
      · rw [st_row h]
theorem cmB_108 {im : IM} {pl : Nat} {t x : Int32} (hC : isC pl) : cmB (st im 108 0 x) pl t = cmB im pl t := by
  have h : pl = 3 ∨ pl = 10 := hC
  unfold cmB
  rw [st_row (by decide), st_row (by omega), st_row (by omega)]
def itV (pl : Nat) : Nat → IM → IM
  | 0, im => im
  | t + 1, im => pdX (dwX (itV pl t im) pl) pl
theorem itV_row {im : IM} {pl k : Nat} (h : k ≠ 108) (h1 : k ≠ 17) (h2 : k ≠ 20) (h3 : k ≠ 19) : ∀ t, itV pl t im k = im k
  | 0 => rfl
  | t + 1 => (pdX_row ⟨h1, h3, h2⟩).trans ((dwX_row h h1 h2).trans (itV_row h h1 h2 h3 t))
def dfX (im : IM) (pl : Nat) (n : Int32) : IM := if rfD im pl n = 0 then itV pl (tn n) (rmX im) else im
def dfV (im : IM) (pl : Nat) (n : Int32) : Int32 := if rfD im pl n = 0 then lfS (im pl 0) (im pl 2) (im (pl + 2)) (itV pl (tn n) (rmX im) 17 4) else rfD im pl n
def bnX (im : IM) (pl : Nat) : IM := st (st (st (st (st (bgT im pl 5) 21 2 0) 103 2 0) 106 1 0) 110 0 0) 115 0 0
