theorem st_st (im : IM) (k j : Nat) (x y : Int32) : st (st im k j x) k j y = st im k j y := by
  funext a i
  simp only [st_at]
  split <;> rfl
theorem psT_l {im : IM} {t : Nat} (h : hasB (im 130 5) (nI t) = true) (h2 : ¬ siM im t + 1 = im 122 4) : st (psT im t) 130 (6 + 3 * t + 2) (siM im t + 1) = psT im (t + 1) := by
  have e1 : psG im t = goM im t := by simp only [psG, h, h2, if_true, if_false]
  have e2 : psS im t = siM im t + 1 := by simp only [psS, h, h2, if_true, if_false]
  have e3 := psT_at (im := im) (t := t) e1 e2
  rw [st_same2 (x := goM im t) (by rw [st_ne (by omega)]; exact psT_hi (by omega))] at e3
  exact e3
theorem psT_p {im : IM} {t : Nat} (h : hasB (im 130 5) (nI t) = true) (h2 : siM im t + 1 = im 122 4) : st (st (st (psT im t) 130 (6 + 3 * t + 2) (siM im t + 1)) 130 (6 + 3 * t + 2) 0) 130 (6 + 3 * t + 1) (gtV (goM im t + im 122 3)) = psT im (t + 1) := by
  have e1 : psG im t = gtV (goM im t + im 122 3) := by simp only [psG, h, h2, if_true]
  have e2 : psS im t = 0 := by simp only [psS, h, h2, if_true]
  rw [st_st]
  exact psT_at (im := im) (t := t) e1 e2
theorem psX_row {im : IM} {k : Nat} (h : k ≠ 130) : psX im k = im k := psT_row h
def itM : Nat → IM → IM
  | 0, im => im
  | t + 1, im => psX (itM t im)
theorem itM_row {im : IM} {k : Nat} (h : k ≠ 130) : ∀ t, itM t im k = im k
  | 0 => rfl
  | t + 1 => (psX_row h).trans (itM_row h t)
theorem ntM_row {im : IM} {k : Nat} (h : k ≠ 131) (h2 : k ≠ 120) : ntM im k = im k := by
  funext j
  unfold ntM
  split
  · rw [st_row h2, cyT_off h, st_row h2]
    simp only [shT, h, false_and, if_false]
  · rw [st_row h2, cyT_off h]
theorem ntM_120 {im : IM} {j : Nat} (h : j ≠ 13) : ntM im 120 j = im 120 j := by
  unfold ntM
  split
  · rw [st_ne (by omega), cyT_off (by decide), st_ne (by omega)]
    simp only [shT]
    rw [if_neg (by omega)]
  · rw [st_ne (by omega), cyT_off (by decide)]
theorem MA.keep {im im' : IM} (h : MA im) (h0 : im' 122 = im 122) : MA im' := by
  obtain ⟨W, T, S, hW, hW8, hT, hT6, hS, hS5⟩ := h
  exact ⟨W, T, S, by rw [h0]; exact hW, hW8, by rw [h0]; exact hT, hT6, by rw [h0]; exact hS, hS5⟩
def dyM (im : IM) (n : Int32) : IM := if brM im n = 0 then itM (tn n) (ntM im) else im
def dyVm (im : IM) (n : Int32) : Int32 := if brM im n = 0 then itM (tn n) (ntM im) 130 0 else brM im n
def mkM (im : IM) (x : Int32) : IM := if inB x 0 (im 122 1 - 1) = false then im else if cbB im x = false then im else st (ntM im) 130 4 (im 130 4 ||| (1 <<< (x &&& 31)))
def mkVm (im : IM) (x : Int32) : Int32 := if inB x 0 (im 122 1 - 1) = false then (-1000000001) else if cbB im x = false then (-1000000003) else lfM im (im 130 4 ||| (1 <<< (x &&& 31)))
def slM (im : IM) (x : Int32) : IM := if icB im = false then im else st (ntM im) 130 3 (if x = 0 then 0 else 1)
def slVm (im : IM) : Int32 := if icB im = false then (-1000000003) else im 130 3
def smM (im : IM) : IM := if im 130 2 = 0 then im else st (ntM im) 130 2 0
def smVm (im : IM) : Int32 := if im 130 2 = 0 then (-1000000003) else im 130 1
def hiM (im : IM) (x is : Int32) : IM := if inB x 0 (im 122 2 - 1) = false then im else hrM (ntM im) (tn x) x is
def hiVm (im : IM) (x : Int32) : Int32 := if inB x 0 (im 122 2 - 1) = false then (-1000000001) else (im 130 5 >>> (x &&& 31)) &&& 1
def byVm (im : IM) (x w m : Int32) : Int32 := if inB x 0 (im 122 2 - 1) = false then (-1000000001) else if inB w 0 (alS (im 122 0)) = false then (-1000000001) else if w = 0 then (-1000000001) else if inB m 0 9999 = false then (-1000000002) else if im 125 (2 * tn x + 1) ≤ m then gtV (goM im (tn x) + m) else (-1000000003)
def byM (im : IM) (x w m : Int32) : IM := if inB x 0 (im 122 2 - 1) = false then im else if inB w 0 (alS (im 122 0)) = false then im else if w = 0 then im else if inB m 0 9999 = false then im else if im 125 (2 * tn x + 1) ≤ m then geM (st (ntM im) 130 (6 + 3 * tn x) w) (tn x) m else im
theorem dm_nat (s : Int32) : ∃ a : Nat, a < 2147483648 ∧ dmS s = nI a := by
  unfold dmS
  have key : ∀ x : Int64, ∃ a : Nat, a < 2147483648 ∧ (x &&& (2147483647 : Int64)).toInt32 = nI a := by
    intro x
    refine ⟨x.toBitVec.toNat % 2147483648, by omega, ?_⟩
    apply Int32.toBitVec_inj.mp
    apply BitVec.eq_of_toNat_eq
    have h1 : (x &&& (2147483647 : Int64)).toInt32.toBitVec.toNat = (x &&& (2147483647 : Int64)).toBitVec.toNat % 4294967296 := by
      show ((x &&& (2147483647 : Int64)).toBitVec.signExtend 32).toNat = _
      rw [BitVec.signExtend_eq_setWidth_of_le _ (by decide), BitVec.toNat_setWidth]
    have h2 : (x &&& (2147483647 : Int64)).toBitVec.toNat = x.toBitVec.toNat % 2147483648 := by
      rw [Int64.toBitVec_and, BitVec.toNat_and]
      exact Nat.and_two_pow_sub_one_eq_mod x.toBitVec.toNat 31
    have h3 : (nI (x.toBitVec.toNat % 2147483648)).toBitVec.toNat = x.toBitVec.toNat % 2147483648 := pk_tn (by omega)
    rw [h1, h2, h3]
    omega
  exact key _
theorem dm_lt (s : Int32) {T : Nat} (h0 : 0 < T) (h : T < 1000) : ∃ j : Nat, j < T ∧ dmV (dmS s) (nI T) = nI j := by
  obtain ⟨a, ha, e⟩ := dm_nat s
  refine ⟨a / 65536 % T, Nat.mod_lt _ h0, ?_⟩
  unfold dmV
  rw [e, show (65536 : Int32) = nI 65536 from rfl, pk_div ha (by omega) (by omega), pk_rem (by omega) h0 (by omega)]
def dwM (im : IM) : IM :=
  if dmV (dmS (im 120 17)) 8 = 0 ∧ ¬ im 122 1 ≤ 0 then st (st im 120 17 (dmS (dmS (im 120 17)))) 130 4 (im 130 4 ||| (if cbB im (dmV (dmS (dmS (im 120 17))) (im 122 1)) = true then 1 <<< (dmV (dmS (dmS (im 120 17))) (im 122 1) &&& 31) else 0))
  else if dmV (dmS (im 120 17)) 8 = 1 ∧ ¬ im 122 2 ≤ 0 then hrM (st im 120 17 (dmS (dmS (im 120 17)))) (tn (dmV (dmS (dmS (im 120 17))) (im 122 2))) (dmV (dmS (dmS (im 120 17))) (im 122 2)) (if hasB (im 130 5) (dmV (dmS (dmS (im 120 17))) (im 122 2)) = true then 0 else 1)
  else if dmV (dmS (im 120 17)) 8 = 2 then st (st im 120 17 (dmS (im 120 17))) 130 3 (1 - im 130 3)
  else st im 120 17 (dmS (im 120 17))
theorem dwM_row {im : IM} {k : Nat} (h : k ≠ 120) (h2 : k ≠ 130) : dwM im k = im k := by
  unfold dwM hrM
  split
  · rw [st_row h2, st_row h]
  · split
    · rw [st_row h2, st_row h2, st_row h]
    · split
      · rw [st_row h2, st_row h]
      · rw [st_row h]
def itW : Nat → IM → IM
  | 0, im => im
  | t + 1, im => psX (dwM (itW t im))
theorem itW_row {im : IM} {k : Nat} (h : k ≠ 120) (h2 : k ≠ 130) : ∀ t, itW t im k = im k
  | 0 => rfl
  | t + 1 => (psX_row h2).trans ((dwM_row h h2).trans (itW_row h h2 t))
def dfM (im : IM) (n : Int32) : IM := if brM im n = 0 then itW (tn n) (ntM im) else im
def dfVm (im : IM) (n : Int32) : Int32 := if brM im n = 0 then lfM im (itW (tn n) (ntM im) 130 4) else brM im n
def unM (im : IM) : IM := if im 120 13 = 0 then im else cyT (st im 120 13 (im 120 13 - 1)) 131 (21 * (tn (im 120 13) - 1)) 130 0 21
def unVm (im : IM) : Int32 := if im 120 13 = 0 then (-1000000003) else im 120 13 - 1
def kpM (im : IM) (i : Int32) : IM := if inB i 0 1 = false then im else st (st (st (cyT im 130 0 132 (21 * tn i) 21) 133 (tn i) (im 120 17)) 134 (tn i) 1) 120 13 0
def gbM (im : IM) (i : Int32) : IM := if inB i 0 1 = false then im else if im 134 (tn i) = 0 then im else st (st (cyT im 132 (21 * tn i) 130 0 21) 120 17 (im 133 (tn i))) 120 13 0
def gbVm (im : IM) (i : Int32) : Int32 := if inB i 0 1 = false then (-1000000001) else if im 134 (tn i) = 0 then (-1000000003) else 1
def HBm (im : IM) : Prop := ∃ B : Nat, im 120 21 = nI B ∧ B ≤ 15
def HHm (im : IM) : Prop := ∃ B : Nat, im 120 19 = nI B ∧ B ≤ 6
def HLm (im : IM) : Prop := ∃ L : Nat, im 120 1 = nI L ∧ L ≤ 240
def HDd (im : IM) : Prop := ∃ D : Nat, im 122 4 = nI D ∧ D ≤ 30
def fdM (im : IM) (c : Int32) : IM := if inB c 0 255 = false then im else if im 120 1 = 240 then im else st (st im 121 (tn (im 120 1)) c) 120 1 (im 120 1 + 1)
def fdVm (im : IM) (c : Int32) : Int32 := if inB c 0 255 = false then (-1000000002) else if im 120 1 = 240 then (-1000000004) else im 120 1 + 1
def heM (im : IM) (x g : Int32) : IM := if inB x 0 59 = false then im else if icB im = false then im else if im 120 19 = 6 then im else st (st (st im 135 (2 * tn (im 120 19)) x) 135 (2 * tn (im 120 19) + 1) (if g = 0 then 0 else 1)) 120 19 (im 120 19 + 1)
def heVm (im : IM) (x : Int32) : Int32 := if inB x 0 59 = false then (-1000000002) else if icB im = false then (-1000000003) else if im 120 19 = 6 then (-1000000004) else im 120 19 + 1
def wrM (im : IM) (x : Int32) : IM := if inB x 0 (alS (im 122 0)) = false then im else if im 120 21 = 15 then im else st (st im 136 (tn (im 120 21)) x) 120 21 (im 120 21 + 1)
def wrVm (im : IM) (x : Int32) : Int32 := if inB x 0 (alS (im 122 0)) = false then (-1000000001) else if im 120 21 = 15 then (-1000000004) else im 120 21 + 1
def llM (im : IM) : Int32 := llF (lfM im (im 130 4)) (fun w => onF (lrM im w) 30) (tn (im 122 0) - 1)
def rxM (im : IM) (a b : Int32) : Int32 := roF (fun s => lfM im s) (fun s => swM im s) (fun s => csM im s) a b (2 ^ tn (im 122 1))
def rqM (im : IM) (a b x : Int32) : Int32 := if inB a 0 (alS (im 122 0)) = false then (-1000000001) else if hasB a 0 = true then (-1000000001) else if inB b 0 63 = false then (-1000000001) else if inB x 0 1 = false then (-1000000002) else if rxM im a b = -1 then rxM im a b else if x = 0 then rxM im a b else csM im (rxM im a b)
def nxM (im : IM) : Int32 := (nmF (im 130 4) (lfM im (im 130 4)) (fun s => smF (im 123) s (tn (im 122 0))) (ruM im) (coM im) (tn (im 122 1))).1
def pdM (im : IM) : Int32 := psF (im 135) (im 122 4) (tn (im 120 19)) (tn (im 122 4))
def akM (im : IM) : Int32 := (bmF (pdM im) (onF (pdM im) 30) (im 122 4) (tn (im 122 4)) 60).1
