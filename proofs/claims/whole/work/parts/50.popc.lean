theorem and_split {u p v q k : Nat} (hu : u < 2 ^ k) (hp : p < 2 ^ k) : (u + 2 ^ k * v) &&& (p + 2 ^ k * q) = (u &&& p) + 2 ^ k * (v &&& q) := by
  apply Nat.eq_of_testBit_eq
  intro j
  have hup : u &&& p < 2 ^ k := Nat.and_lt_two_pow _ hp
  rw [Nat.testBit_and, Nat.add_comm u, Nat.add_comm p, Nat.add_comm (u &&& p), Nat.testBit_two_pow_mul_add _ hu, Nat.testBit_two_pow_mul_add _ hp, Nat.testBit_two_pow_mul_add _ hup]
  split
  · rw [Nat.testBit_and]
  · rw [Nat.testBit_and]
def q4 (a b c d : Nat) : Nat := a + 256 * (b + 256 * (c + 256 * d))
theorem q4_and {a b c d m : Nat} (ha : a < 256) (hb : b < 256) (hc : c < 256) (hm : m < 256) : q4 a b c d &&& q4 m m m m = q4 (a &&& m) (b &&& m) (c &&& m) (d &&& m) := by
  unfold q4
  rw [show (256 : Nat) = 2 ^ 8 from rfl, and_split (k := 8) ha hm, and_split (k := 8) hb hm, and_split (k := 8) hc hm]
def f1 (c : Nat) : Nat := c - ((c / 2) &&& 85)
def f2 (c : Nat) : Nat := (c &&& 51) + ((c / 4) &&& 51)
def f3 (c : Nat) : Nat := (c + c / 16) % 16
theorem f1a : ∀ c : Fin 256, ∀ e : Fin 2, (c.1 / 2 + 128 * e.1) &&& 85 = (c.1 / 2) &&& 85 := by decide +kernel
theorem f1b : ∀ c : Fin 256, (c.1 / 2) &&& 85 ≤ c.1 := by decide +kernel
theorem f2a : ∀ c : Fin 256, ∀ e : Fin 4, (c.1 / 4 + 64 * e.1) &&& 51 = (c.1 / 4) &&& 51 := by decide +kernel
theorem f2b : ∀ c : Fin 256, f2 (f1 c.1) ≤ 68 ∧ f1 c.1 < 256 ∧ f2 (f1 c.1) % 16 ≤ 4 := by decide +kernel
theorem f3b : ∀ c : Fin 256, f3 (f2 (f1 c.1)) = c.1 % 2 + c.1 / 2 % 2 + c.1 / 4 % 2 + c.1 / 8 % 2 + c.1 / 16 % 2 + c.1 / 32 % 2 + c.1 / 64 % 2 + c.1 / 128 % 2 := by decide +kernel
theorem st1 {a b c d : Nat} (ha : a < 256) (hb : b < 256) (hc : c < 256) (hd : d < 256) : q4 a b c d - ((q4 a b c d / 2) &&& 1431655765) = q4 (f1 a) (f1 b) (f1 c) (f1 d) := by
  have e : q4 a b c d / 2 = q4 (a / 2 + 128 * (b % 2)) (b / 2 + 128 * (c % 2)) (c / 2 + 128 * (d % 2)) (d / 2) := by unfold q4; omega
  rw [e, show (1431655765 : Nat) = q4 85 85 85 85 from rfl, q4_and (by omega) (by omega) (by omega) (by omega)]
  rw [show (a / 2 + 128 * (b % 2)) &&& 85 = (a / 2) &&& 85 from f1a ⟨a, ha⟩ ⟨b % 2, by omega⟩, show (b / 2 + 128 * (c % 2)) &&& 85 = (b / 2) &&& 85 from f1a ⟨b, hb⟩ ⟨c % 2, by omega⟩, show (c / 2 + 128 * (d % 2)) &&& 85 = (c / 2) &&& 85 from f1a ⟨c, hc⟩ ⟨d % 2, by omega⟩]
  have h1 : (a / 2) &&& 85 ≤ a := f1b ⟨a, ha⟩
  have h2 : (b / 2) &&& 85 ≤ b := f1b ⟨b, hb⟩
  have h3 : (c / 2) &&& 85 ≤ c := f1b ⟨c, hc⟩
  have h4 : (d / 2) &&& 85 ≤ d := f1b ⟨d, hd⟩
  unfold f1 q4
  omega
theorem st2 {a b c d : Nat} (ha : a < 256) (hb : b < 256) (hc : c < 256) (hd : d < 256) : (q4 a b c d &&& 858993459) + ((q4 a b c d / 4) &&& 858993459) = q4 (f2 a) (f2 b) (f2 c) (f2 d) := by
  have e : q4 a b c d / 4 = q4 (a / 4 + 64 * (b % 4)) (b / 4 + 64 * (c % 4)) (c / 4 + 64 * (d % 4)) (d / 4) := by unfold q4; omega
  rw [e, show (858993459 : Nat) = q4 51 51 51 51 from rfl, q4_and (by omega) (by omega) (by omega) (by omega), q4_and (by omega) (by omega) (by omega) (by omega)]
  rw [show (a / 4 + 64 * (b % 4)) &&& 51 = (a / 4) &&& 51 from f2a ⟨a, ha⟩ ⟨b % 4, by omega⟩, show (b / 4 + 64 * (c % 4)) &&& 51 = (b / 4) &&& 51 from f2a ⟨b, hb⟩ ⟨c % 4, by omega⟩, show (c / 4 + 64 * (d % 4)) &&& 51 = (c / 4) &&& 51 from f2a ⟨c, hc⟩ ⟨d % 4, by omega⟩]
  unfold f2 q4
  omega
theorem and15 (x : Nat) : x &&& 15 = x % 16 := Nat.and_two_pow_sub_one_eq_mod x 4
theorem and63 (x : Nat) : x &&& 63 = x % 64 := Nat.and_two_pow_sub_one_eq_mod x 6
theorem st3 {a b c d : Nat} (ha : a ≤ 68) (hb : b ≤ 68) (hc : c ≤ 68) (hd : d ≤ 68) (hb4 : b % 16 ≤ 4) (hc4 : c % 16 ≤ 4) (hd4 : d % 16 ≤ 4) : (q4 a b c d + q4 a b c d / 16) &&& 252645135 = q4 (f3 a) (f3 b) (f3 c) (f3 d) := by
  have e : q4 a b c d + q4 a b c d / 16 = q4 (a + a / 16 + 16 * (b % 16)) (b + b / 16 + 16 * (c % 16)) (c + c / 16 + 16 * (d % 16)) (d + d / 16) := by unfold q4; omega
  rw [e, show (252645135 : Nat) = q4 15 15 15 15 from rfl, q4_and (by omega) (by omega) (by omega) (by omega), and15, and15, and15, and15]
  unfold f3 q4
  omega
def pb (c : Nat) : Nat := f3 (f2 (f1 c))
theorem pb_le : ∀ c : Fin 256, pb c.1 ≤ 8 := by decide +kernel
theorem sh_u : ∀ k : Fin 32, (((nI k.1).toUInt32 &&& Int32.toUInt32 31).toBitVec % 32).toNat = k.1 := by decide +kernel
theorem us_nI {a k : Nat} (ha : a < 4294967296) (hk : k < 32) : us (nI a) (nI k) = nI (a / 2 ^ k) := by
  apply Int32.toBitVec_inj.mp
  apply BitVec.eq_of_toNat_eq
  unfold us
  show (((nI a).toUInt32 >>> ((nI k).toUInt32 &&& Int32.toUInt32 31)).toBitVec).toNat = (BitVec.ofNat 32 (a / 2 ^ k)).toNat
  have h2 : a / 2 ^ k ≤ a := Nat.div_le_self _ _
  rw [UInt32.toBitVec_shiftRight, BitVec.ushiftRight_eq', BitVec.toNat_ushiftRight, sh_u ⟨k, hk⟩, BitVec.toNat_ofNat, Nat.mod_eq_of_lt (by omega), Nat.shiftRight_eq_div_pow]
  show (BitVec.ofNat 32 a).toNat / 2 ^ k = _
  rw [BitVec.toNat_ofNat, Nat.mod_eq_of_lt (by omega)]
theorem nI_and (a b : Nat) : nI a &&& nI b = nI (a &&& b) := by
  apply Int32.toBitVec_inj.mp
  rw [Int32.toBitVec_and]
  show BitVec.ofNat 32 a &&& BitVec.ofNat 32 b = BitVec.ofNat 32 (a &&& b)
  rw [BitVec.ofNat_and]
theorem fin4 {x0 x1 x2 x3 : Nat} (p0 : x0 ≤ 8) (p1 : x1 ≤ 8) (p2 : x2 ≤ 8) (p3 : x3 ≤ 8) : (q4 x0 x1 x2 x3 + q4 x0 x1 x2 x3 / 256 + (q4 x0 x1 x2 x3 + q4 x0 x1 x2 x3 / 256) / 65536) % 64 = x0 + x1 + x2 + x3 := by
  have t1 : q4 x0 x1 x2 x3 / 256 = x1 + 256 * (x2 + 256 * x3) := by unfold q4; omega
  rw [t1]
  have t2 : (q4 x0 x1 x2 x3 + (x1 + 256 * (x2 + 256 * x3))) / 65536 = x2 + x3 + 256 * x3 := by unfold q4; omega
  rw [t2]
  unfold q4
  omega
theorem bc_q4 {a b c d : Nat} (ha : a < 256) (hb : b < 256) (hc : c < 256) (hd : d < 64) : bcI (nI (q4 a b c d)) = nI (pb a + pb b + pb c + pb d) := by
  have g := f2b ⟨a, ha⟩
  have g1 := f2b ⟨b, hb⟩
  have g2 := f2b ⟨c, hc⟩
  have g3 := f2b ⟨d, by omega⟩
  dsimp only at g g1 g2 g3
  have hn : q4 a b c d < 1073741824 := by unfold q4; omega
  have e1 : bc1 (nI (q4 a b c d)) = nI (q4 (f1 a) (f1 b) (f1 c) (f1 d)) := by
    unfold bc1
    have hle : (q4 a b c d / 2) &&& 1431655765 ≤ q4 a b c d := Nat.le_trans Nat.and_le_left (Nat.div_le_self _ _)
    rw [show us (nI (q4 a b c d)) 1 = nI (q4 a b c d / 2) from us_nI (k := 1) (by omega) (by omega), show (1431655765 : Int32) = nI 1431655765 from rfl, nI_and, pk_sub hle, st1 ha hb hc (by omega)]
  have hn1 : q4 (f1 a) (f1 b) (f1 c) (f1 d) < 4294967296 := by unfold q4; omega
  have e2 : bc2 (nI (q4 (f1 a) (f1 b) (f1 c) (f1 d))) = nI (q4 (f2 (f1 a)) (f2 (f1 b)) (f2 (f1 c)) (f2 (f1 d))) := by
    unfold bc2
    rw [show us (nI (q4 (f1 a) (f1 b) (f1 c) (f1 d))) 2 = nI (q4 (f1 a) (f1 b) (f1 c) (f1 d) / 4) from us_nI (k := 2) (by omega) (by omega), show (858993459 : Int32) = nI 858993459 from rfl, nI_and, nI_and, nI_add, st2 (by omega) (by omega) (by omega) (by omega)]
  have hn2 : q4 (f2 (f1 a)) (f2 (f1 b)) (f2 (f1 c)) (f2 (f1 d)) < 4294967296 := by unfold q4; omega
  have e3 : bc3 (nI (q4 (f2 (f1 a)) (f2 (f1 b)) (f2 (f1 c)) (f2 (f1 d)))) = nI (q4 (pb a) (pb b) (pb c) (pb d)) := by
    unfold bc3
    rw [show us (nI (q4 (f2 (f1 a)) (f2 (f1 b)) (f2 (f1 c)) (f2 (f1 d)))) 4 = nI (q4 (f2 (f1 a)) (f2 (f1 b)) (f2 (f1 c)) (f2 (f1 d)) / 16) from us_nI (k := 4) (by omega) (by omega), show (252645135 : Int32) = nI 252645135 from rfl, nI_add, nI_and, st3 (by omega) (by omega) (by omega) (by omega) (by omega) (by omega) (by omega)]
    rfl
  have p0 := pb_le ⟨a, ha⟩
  have p1 := pb_le ⟨b, hb⟩
  have p2 := pb_le ⟨c, hc⟩
  have p3 := pb_le ⟨d, by omega⟩
  dsimp only at p0 p1 p2 p3
  unfold bcI
  rw [e1, e2, e3]
  generalize pb a = x0 at *
  generalize pb b = x1 at *
  generalize pb c = x2 at *
  generalize pb d = x3 at *
  have hn3 : q4 x0 x1 x2 x3 < 1073741824 := by unfold q4; omega
  unfold bc5 bc4
  rw [show us (nI (q4 x0 x1 x2 x3)) 8 = nI (q4 x0 x1 x2 x3 / 256) from us_nI (k := 8) (by omega) (by omega), nI_add]
  rw [show us (nI (q4 x0 x1 x2 x3 + q4 x0 x1 x2 x3 / 256)) 16 = nI ((q4 x0 x1 x2 x3 + q4 x0 x1 x2 x3 / 256) / 65536) from us_nI (k := 16) (by omega) (by omega), nI_add, show (63 : Int32) = nI 63 from rfl, nI_and, and63]
  congr 1
  exact fin4 p0 p1 p2 p3
def onN (n : Nat) : Nat → Nat
  | 0 => 0
  | k + 1 => onN n k + n / 2 ^ k % 2
theorem bit_nI {n k : Nat} (hk : k < 32) : ((nI n >>> (nI k &&& 31)) &&& 1) = nI (n / 2 ^ k % 2) := by
  have hb := hasB_bit (s := nI n) hk
  have e : ((nI n >>> (nI k &&& 31)) &&& 1).toBitVec = BitVec.setWidth 32 (BitVec.ofBool ((nI n).toBitVec.getLsbD k)) := by
    rw [Int32.toBitVec_and, Int32.toBitVec_shiftRight, BitVec.sshiftRight', sh_k ⟨k, hk⟩]
    show (nI n).toBitVec.sshiftRight k &&& 1#32 = _
    rw [BitVec.and_one_eq_setWidth_ofBool_getLsbD, BitVec.getLsbD_sshiftRight]
    congr 2
    rw [Nat.add_zero, if_pos hk]
    rfl
  apply Int32.toBitVec_inj.mp
  rw [e]
  show BitVec.setWidth 32 (BitVec.ofBool ((BitVec.ofNat 32 n).getLsbD k)) = BitVec.ofNat 32 (n / 2 ^ k % 2)
  rw [BitVec.getLsbD_ofNat, decide_eq_true hk, Bool.true_and, Nat.testBit_eq_decide_div_mod_eq]
  have h2 : n / 2 ^ k % 2 < 2 := Nat.mod_lt _ (by decide)
  generalize n / 2 ^ k % 2 = m at h2
  match m, h2 with
  | 0, _ => rfl
  | 1, _ => rfl
theorem onF_N {n : Nat} : ∀ k, k ≤ 32 → onF (nI n) k = nI (onN n k)
  | 0, _ => rfl
  | k + 1, h => by rw [onF, onN, onF_N k (by omega), bit_nI (by omega), nI_add]
theorem onN_add {n : Nat} : ∀ k, onN n (8 + k) = onN n 8 + onN (n / 256) k
  | 0 => rfl
  | k + 1 => by
    show onN n (8 + k) + n / 2 ^ (8 + k) % 2 = onN n 8 + (onN (n / 256) k + n / 256 / 2 ^ k % 2)
    rw [onN_add k, Nat.pow_add, ← Nat.div_div_eq_div_mul, Nat.add_assoc]
theorem on8 {c m : Nat} (hc : c < 256) : onN (c + 256 * m) 8 = pb c := by
  rw [show pb c = c % 2 + c / 2 % 2 + c / 4 % 2 + c / 8 % 2 + c / 16 % 2 + c / 32 % 2 + c / 64 % 2 + c / 128 % 2 from f3b ⟨c, hc⟩]
  simp only [onN, Nat.reducePow]
  omega
theorem on6 : ∀ d : Fin 64, onN d.1 6 = pb d.1 := by decide +kernel
/-- the number of a set's members -/
theorem bc_on {n : Nat} (h : n < 1073741824) : bcI (nI n) = onF (nI n) 30 := by
  have e : n = q4 (n % 256) (n / 256 % 256) (n / 65536 % 256) (n / 16777216) := by unfold q4; omega
  have ha : n % 256 < 256 := by omega
  have hb : n / 256 % 256 < 256 := by omega
  have hc : n / 65536 % 256 < 256 := by omega
  have hd : n / 16777216 < 64 := by omega
  generalize n % 256 = a at *
  generalize n / 256 % 256 = b at *
  generalize n / 65536 % 256 = c at *
  generalize n / 16777216 = d at *
  subst e
  rw [bc_q4 ha hb hc hd, onF_N 30 (by omega)]
  congr 1
  unfold q4
  rw [onN_add 22, on8 ha, show (a + 256 * (b + 256 * (c + 256 * d))) / 256 = b + 256 * (c + 256 * d) by omega, onN_add 14, on8 hb, show (b + 256 * (c + 256 * d)) / 256 = c + 256 * d by omega, onN_add 6, on8 hc, show (c + 256 * d) / 256 = d by omega, on6 ⟨d, hd⟩]
  dsimp only
  omega
