theorem ftF_mono {d c : Nat → Int32} {r e : Int32} {t : Nat} (h : ftF d c r e t = false) : ∀ m, ftF d c r e (t + m) = false
  | 0 => h
  | m + 1 => by
    show (ftF d c r e (t + m) && _) = false
    rw [ftF_mono h m]
    rfl
def rdX (im : IM) (c : Int32) : IM := if im 1 1 < 240 then st (st im 2 (tn (im 1 1)) c) 1 1 (im 1 1 + 1) else im
def fdX (im : IM) (c : Int32) : IM := if inB c 0 255 = false then im else if im 1 1 < 240 then st (st im 2 (tn (im 1 1)) c) 1 1 (im 1 1 + 1) else im
def fdV (im : IM) (c : Int32) : Int32 := if inB c 0 255 = false then (-1000000002) else if im 1 1 < 240 then im 1 1 + 1 else (-1000000004)
def HL (im : IM) : Prop := ∃ L : Nat, im 1 1 = nI L ∧ L ≤ 240
def HD (im : IM) (pl : Nat) : Prop := ∃ D : Nat, im pl 10 = nI D ∧ D ≤ 30
/-- the flags of all affairs -/
def HZ (im : IM) : Prop := ∀ a, isA a → b01 (im a 2) ∧ b01 (im a 3)
def mkX (im : IM) (pl : Nat) (x : Int32) : IM := if inB x 0 (im pl 2 - 1) = false then im else if cmB im pl x = false then im else st (rmX im) 17 4 (im 17 4 ||| (1 <<< (x &&& 31)))
def mkV (im : IM) (pl : Nat) (x : Int32) : Int32 := if inB x 0 (im pl 2 - 1) = false then (-1000000001) else if cmB im pl x = false then (-1000000003) else lfS (im pl 0) (im pl 2) (im (pl + 2)) (im 17 4 ||| (1 <<< (x &&& 31)))
def slX (im : IM) (pl : Nat) (x : Int32) : IM := if decide (0 < im pl 0) = false then im else st (rmX im) 17 3 x
def slV (im : IM) (pl : Nat) : Int32 := if decide (0 < im pl 0) = false then (-1000000003) else (if im 17 3 = 0 then 0 else 1)
def smX (im : IM) (pl : Nat) : IM := if decide (0 < im pl 0) = false then im else if im 17 2 = 0 then im else st (rmX im) 17 2 0
def smV (im : IM) (pl : Nat) : Int32 := if decide (0 < im pl 0) = false then (-1000000003) else if im 17 2 = 0 then (-1000000003) else im 17 1
def hiX (im : IM) (pl : Nat) (x is : Int32) : IM := if inB x 0 (im pl 6 - 1) = false then im else shX (rmX im) x is
def hiV (im : IM) (pl : Nat) (x : Int32) : Int32 := if inB x 0 (im pl 6 - 1) = false then (-1000000001) else bI (hasB (im 17 5) x)
def byV (im : IM) (pl : Nat) (x w m : Int32) : Int32 := if inB x 0 (im pl 6 - 1) = false then (-1000000001) else if decide (w &&& (alS (im pl 0) ^^^ (-1)) = 0) = false then (-1000000001) else if w = 0 then (-1000000001) else if inB m 0 9999 = false then (-1000000002) else if im (pl + 6) (tn x) ≤ m then mnI (im 19 (tn x) + m) 999999 else (-1000000003)
def byX (im : IM) (pl : Nat) (x w m : Int32) : IM := if inB x 0 (im pl 6 - 1) = false then im else if decide (w &&& (alS (im pl 0) ^^^ (-1)) = 0) = false then im else if w = 0 then im else if inB m 0 9999 = false then im else if im (pl + 6) (tn x) ≤ m then giX (st (rmX im) 18 (tn x) w) x m else im
theorem rmX_off {im : IM} {k j : Nat} (hE : HE im) (h : k < 21 ∨ 103 ≤ k) : rmX im k j = im k j := by
  obtain ⟨E, hE, h20⟩ := hE
  unfold rmX cpA
  rw [st_ne (by omega), st_ne (by omega), hE, tn_nI (by omega)]
  exact cpT_off (by omega)
theorem rmX_row {im : IM} {k : Nat} (hE : HE im) (h : k < 21 ∨ 103 ≤ k) : rmX im k = im k := funext fun j => rmX_off hE h
/-- the days, one behind another -/
def itD (c : Nat) : Nat → IM → IM
  | 0, im => im
  | t + 1, im => pdX (itD c t im) c
theorem pdX_row {im : IM} {c k : Nat} (h : k ≠ 17 ∧ k ≠ 19 ∧ k ≠ 20) : pdX im c k = im k := by
  funext j
  unfold pdX pdT
  simp only [h.1, h.2.1, h.2.2, false_and, if_false]
theorem itD_row {im : IM} {c k : Nat} (h : k ≠ 17 ∧ k ≠ 19 ∧ k ≠ 20) : ∀ t, itD c t im k = im k
  | 0 => rfl
  | t + 1 => (pdX_row h).trans (itD_row h t)
theorem isC_lt {c : Nat} (h : isC c) : c = 3 ∨ c = 10 := h
def dyX (im : IM) (pl : Nat) (n : Int32) : IM := if rfD im pl n = 0 then itD pl (tn n) (rmX im) else im
def dyV (im : IM) (pl : Nat) (n : Int32) : Int32 := if rfD im pl n = 0 then itD pl (tn n) (rmX im) 17 0 else rfD im pl n
theorem rfD_nat {im : IM} {pl : Nat} {n : Int32} (h : rfD im pl n = 0) : ∃ j : Nat, 1 ≤ j ∧ j ≤ 60 ∧ n = nI j := by
  unfold rfD at h
  by_cases h1 : inB n 1 60 = false
  · rw [if_pos h1] at h
    exact absurd h (by decide)
  · exact inB_natL (a := 1) (b := 60) (show inB n 1 60 = true by simpa using h1) (by omega) (by omega)
def unV (im : IM) : Int32 := if im 21 2 = 0 then (-1000000003) else im 21 2 - 1
def kpX (im : IM) (i : Int32) : IM := if inB i 0 1 = false then im else st (st (cpA (st im (110 + 5 * tn i) 0 1) (111 + 5 * tn i) 17) (110 + 5 * tn i) 2 (im 108 0)) 21 2 0
def gbV (im : IM) (i : Int32) : Int32 := if inB i 0 1 = false then (-1000000001) else if im (110 + 5 * tn i) 0 = 0 then (-1000000003) else 1
def gbX (im : IM) (i : Int32) : IM := if inB i 0 1 = false then im else if im (110 + 5 * tn i) 0 = 0 then im else st (st (cpA im 17 (111 + 5 * tn i)) 108 0 (im (110 + 5 * tn i) 2)) 21 2 0
theorem isA_img {i : Nat} (h : i < 2) : isA (111 + 5 * i) := by
  have h1 : ∀ i, i < 2 → 111 + 5 * i ∈ affL := by decide +kernel
  exact h1 i h
theorem kd_img {i : Nat} (h : i < 2) : kd (110 + 5 * i) = (0, 6) := by
  have h1 : ∀ i, i < 2 → kd (110 + 5 * i) = (0, 6) := by decide +kernel
  exact h1 i h
theorem ln_img {i : Nat} (h : i < 2) : 110 + 5 * i < 137 := by omega
theorem rr_img {pl it i : Nat} (h : i < 2) : RR pl it 109 i = some (110 + 5 * i) := by
  unfold RR
  rw [if_neg (by decide), if_neg (by decide), if_neg (by decide), if_neg (by decide), if_neg (by decide), if_neg (by decide), if_neg (by decide), if_neg (by decide), if_pos rfl, if_pos h]
theorem rr_imgA {pl it i : Nat} (h : i < 2) : RR pl it (110 + 5 * i) 1 = some (111 + 5 * i) := by
  have h1 : ∀ i, i < 2 → RR pl it (110 + 5 * i) 1 = some (111 + 5 * i) := fun i hi => by
    match i, hi with
    | 0, _ => rfl
    | 1, _ => rfl
    | i + 2, hi => omega
  exact h1 i h
