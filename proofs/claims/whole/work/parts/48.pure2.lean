theorem sh_k : ∀ k : Fin 32, ((nI k.1 &&& 31).toBitVec.smod 32).toNat = k.1 := by decide +kernel
/-- a set's bit -/
theorem hasB_bit {s : Int32} {k : Nat} (h : k < 32) : hasB s (nI k) = s.toBitVec.getLsbD k := by
  have e : ((s >>> (nI k &&& 31)) &&& 1).toBitVec = BitVec.setWidth 32 (BitVec.ofBool (s.toBitVec.getLsbD k)) := by
    rw [Int32.toBitVec_and, Int32.toBitVec_shiftRight, BitVec.sshiftRight', sh_k ⟨k, h⟩]
    show s.toBitVec.sshiftRight k &&& 1#32 = _
    rw [BitVec.and_one_eq_setWidth_ofBool_getLsbD, BitVec.getLsbD_sshiftRight]
    congr 2
    rw [Nat.add_zero, if_pos h]
    rfl
  unfold hasB
  cases q : s.toBitVec.getLsbD k with
  | true =>
    apply decide_eq_true
    apply Int32.toBitVec_inj.mp
    rw [e, q]
    rfl
  | false =>
    apply decide_eq_false
    intro z
    have z' := Int32.toBitVec_inj.mpr z
    rw [e, q] at z'
    exact absurd z' (by decide)
theorem hasB_and {s r : Int32} {k : Nat} (h : k < 32) : hasB (s &&& r) (nI k) = (hasB s (nI k) && hasB r (nI k)) := by
  rw [hasB_bit h, hasB_bit h, hasB_bit h, Int32.toBitVec_and, BitVec.getLsbD_and]
theorem hasB_or {s r : Int32} {k : Nat} (h : k < 32) : hasB (s ||| r) (nI k) = (hasB s (nI k) || hasB r (nI k)) := by
  rw [hasB_bit h, hasB_bit h, hasB_bit h, Int32.toBitVec_or, BitVec.getLsbD_or]
theorem hasB_not {r : Int32} {k : Nat} (h : k < 32) : hasB (r ^^^ (-1)) (nI k) = !(hasB r (nI k)) := by
  rw [hasB_bit h, hasB_bit h, Int32.toBitVec_xor, BitVec.getLsbD_xor, show (-1 : Int32).toBitVec = BitVec.allOnes 32 from rfl, BitVec.getLsbD_allOnes, decide_eq_true h, Bool.xor_true]
theorem ext_bits {s r : Int32} (h : ∀ k, k < 32 → hasB s (nI k) = hasB r (nI k)) : s = r := by
  apply Int32.toBitVec_inj.mp
  apply BitVec.eq_of_getLsbD_eq
  intro i hi
  have := h i hi
  rw [hasB_bit hi, hasB_bit hi] at this
  exact this
theorem hasB_zero {k : Nat} (h : k < 32) : hasB 0 (nI k) = false := by
  rw [hasB_bit h]
  exact BitVec.getLsbD_zero
theorem ne0_bit {s : Int32} (h : ¬ s = 0) : ∃ k, k < 32 ∧ hasB s (nI k) = true := by
  apply Classical.byContradiction
  intro z
  apply h
  apply ext_bits
  intro k hk
  rw [hasB_zero hk]
  cases q : hasB s (nI k) with
  | false => rfl
  | true => exact absurd ⟨k, hk, q⟩ z
theorem al_bits : ∀ W : Fin 9, ∀ k : Fin 32, hasB (alS (nI W.1)) (nI k.1) = decide (k.1 < W.1) := by decide +kernel
theorem al_bit {W k : Nat} (hW : W ≤ 8) (hk : k < 32) : hasB (alS (nI W)) (nI k) = decide (k < W) := al_bits ⟨W, by omega⟩ ⟨k, hk⟩
/-- the draws -/
theorem i64_of {n : Nat} (h : n < 2147483648) : (nI n).toInt64 = Int64.ofNat n := by
  apply Int64.toInt_inj.mp
  rw [Int32.toInt_toInt64, nI_toInt h, Int64.toInt_ofNat_of_lt (by omega)]
theorem l_toInt {m : Nat} (h : m < 9223372036854775808) : (Int64.ofNat m).toInt = (m : Int) := Int64.toInt_ofNat_of_lt h
theorem l_of_toInt {x : Int64} {m : Nat} (h : m < 9223372036854775808) (e : x.toInt = (m : Int)) : x = Int64.ofNat m := Int64.toInt_inj.mp (by rw [e, l_toInt h])
theorem l_mod (m : Nat) (h : m < 4611686018427387904) : Int64.ofNat m - Int64.ofNat m / (2147483648 : Int64) * (2147483648 : Int64) = Int64.ofNat (m % 2147483648) := by
  have e1 : Int64.ofNat m / (2147483648 : Int64) = Int64.ofNat (m / 2147483648) := by
    apply l_of_toInt (by omega)
    rw [Int64.toInt_div_of_ne_right _ _ (by decide), l_toInt (by omega), show (2147483648 : Int64).toInt = 2147483648 from rfl]
    rfl
  rw [e1, show (2147483648 : Int64) = Int64.ofNat 2147483648 from rfl, ← Int64.ofNat_mul, ← Int64.ofNat_sub _ _ (by omega)]
  congr 1
  omega
theorem l_and (m : Nat) : Int64.ofNat m &&& (2147483647 : Int64) = Int64.ofNat (m % 2147483648) := by
  have e : m &&& 2147483647 = m % 2147483648 := Nat.and_two_pow_sub_one_eq_mod m 31
  apply Int64.toBitVec_inj.mp
  rw [Int64.toBitVec_and, ← e]
  show BitVec.ofNat 64 m &&& BitVec.ofNat 64 2147483647 = BitVec.ofNat 64 (m &&& 2147483647)
  rw [BitVec.ofNat_and]
theorem dr_form {n : Nat} (h : n < 2147483648) : drS (nI n) = (Int64.ofNat ((n * 1103515245 + 12345) % 2147483648)).toInt32 ∧ dmS (nI n) = (Int64.ofNat ((n * 1103515245 + 12345) % 2147483648)).toInt32 := by
  have e : (nI n).toInt64 * (1103515245 : Int64) + (12345 : Int64) = Int64.ofNat (n * 1103515245 + 12345) := by
    rw [i64_of h, show (1103515245 : Int64) = Int64.ofNat 1103515245 from rfl, show (12345 : Int64) = Int64.ofNat 12345 from rfl, ← Int64.ofNat_mul, ← Int64.ofNat_add]
  unfold drS dmS
  rw [e, l_mod _ (by omega), l_and]
  exact ⟨rfl, rfl⟩
theorem dr_dm {n : Nat} (h : n < 2147483648) : drS (nI n) = dmS (nI n) := by rw [(dr_form h).1, (dr_form h).2]
theorem dr_nat {n : Nat} (h : n < 2147483648) : drS (nI n) = nI ((n * 1103515245 + 12345) % 2147483648) := by
  rw [(dr_form h).1]
  apply Int32.toInt_inj.mp
  rw [Int64.toInt_toInt32, l_toInt (by omega), nI_toInt (by omega)]
  have hr : (n * 1103515245 + 12345) % 2147483648 < 2147483648 := Nat.mod_lt _ (by decide)
  generalize (n * 1103515245 + 12345) % 2147483648 = r at hr
  rw [Int.bmod_def]
  split <;> omega
