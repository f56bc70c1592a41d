theorem in255 {w : Int32} (h : w &&& 255 = w) : ∃ k, k < 256 ∧ w = nI k := by
  refine ⟨w.toBitVec.toNat, ?_, ?_⟩
  · rw [← h, Int32.toBitVec_and, BitVec.toNat_and]
    have : w.toBitVec.toNat &&& (255 : Int32).toBitVec.toNat ≤ (255 : Int32).toBitVec.toNat := Nat.and_le_right
    rw [show (255 : Int32).toBitVec.toNat = 255 from rfl] at this ⊢
    omega
  · apply Int32.toBitVec_inj.mp
    show w.toBitVec = BitVec.ofNat 32 w.toBitVec.toNat
    rw [BitVec.ofNat_toNat, BitVec.setWidth_eq]
theorem b255 : ∀ k : Fin 32, hasB 255 (nI k.1) = decide (k.1 < 8) := by decide +kernel
theorem sub_al {w : Int32} {W : Nat} (hW : W ≤ 8) (h : w &&& (alS (nI W) ^^^ (-1)) = 0) : ∀ k, k < 32 → hasB w (nI k) = true → k < W := by
  intro k hk hb
  have e : hasB (w &&& (alS (nI W) ^^^ (-1))) (nI k) = false := by rw [h]; exact hasB_zero hk
  rw [hasB_and hk, hasB_not hk, al_bit hW hk, hb, Bool.true_and] at e
  have e2 : decide (k < W) = true := by
    cases q : decide (k < W) with
    | true => rfl
    | false => rw [q] at e; exact absurd e (by decide)
  exact of_decide_eq_true e2
theorem sub_255 {w : Int32} {W : Nat} (hW : W ≤ 8) (h : w &&& (alS (nI W) ^^^ (-1)) = 0) : w &&& 255 = w := by
  apply ext_bits
  intro k hk
  rw [hasB_and hk, b255 ⟨k, hk⟩]
  cases q : hasB w (nI k) with
  | false => rfl
  | true =>
    have := sub_al hW h k hk q
    rw [decide_eq_true (show k < 8 by omega)]
    rfl
theorem ways_dec : ∀ n : Fin 256, ∀ W : Fin 9, decide (nI n.1 &&& (alS (nI W.1) ^^^ (-1)) = 0) = inB (nI n.1) 0 (alS (nI W.1)) := by decide +kernel
theorem al_le : ∀ W : Fin 9, alS (nI W.1) = nI (2 ^ W.1 - 1) := by decide +kernel
/-- a set of ways: both say it alike -/
theorem ways_eq {w : Int32} {W : Nat} (hW : W ≤ 8) : decide (w &&& (alS (nI W) ^^^ (-1)) = 0) = inB w 0 (alS (nI W)) := by
  have key : ∀ k, k < 256 → w = nI k → decide (w &&& (alS (nI W) ^^^ (-1)) = 0) = inB w 0 (alS (nI W)) := by
    intro k hk e
    rw [e]
    exact ways_dec ⟨k, hk⟩ ⟨W, by omega⟩
  have h2 : 2 ^ W ≤ 2 ^ 8 := Nat.pow_le_pow_right (by decide) hW
  cases q : inB w 0 (alS (nI W)) with
  | true =>
    obtain ⟨k, hk, e⟩ := nI_of_in q (al_le ⟨W, by omega⟩) (by show 2 ^ W - 1 < _; omega)
    rw [key k (by have : k ≤ 2 ^ W - 1 := hk; omega) e, q]
  | false =>
    apply decide_eq_false
    intro z
    obtain ⟨k, hk, e⟩ := in255 (sub_255 hW z)
    have := key k hk e
    rw [q, decide_eq_true z] at this
    exact Bool.noConfusion this
/-- sums as numbers -/
def smN (r : Nat → Nat) (m : Int32) : Nat → Nat
  | 0 => 0
  | t + 1 => if hasB m (nI t) = true then smN r m t + r t else smN r m t
theorem smF_N {row : Nat → Int32} {r : Nat → Nat} {m : Int32} : ∀ n, (∀ t, t < n → row t = nI (r t)) → smF row m n = nI (smN r m n)
  | 0, _ => rfl
  | n + 1, h => by
    rw [smF, smN, smF_N n (fun t ht => h t (by omega)), h n (by omega)]
    split
    · rw [nI_add]
    · rfl
theorem smN_le {r : Nat → Nat} {m : Int32} {B : Nat} : ∀ n, (∀ t, t < n → r t ≤ B) → smN r m n ≤ n * B
  | 0, _ => by rw [smN]; omega
  | n + 1, h => by
    have h1 := smN_le (m := m) n (fun t ht => h t (by omega))
    have h2 := h n (by omega)
    rw [smN, Nat.succ_mul]
    split <;> omega
theorem smN_mono {r : Nat → Nat} {a b : Int32} : ∀ n, (∀ t, t < n → hasB a (nI t) = true → hasB b (nI t) = true) → smN r a n ≤ smN r b n
  | 0, _ => Nat.le_refl _
  | n + 1, h => by
    have h1 := smN_mono (r := r) n (fun t ht => h t (by omega))
    have h2 := h n (by omega)
    rw [smN, smN]
    by_cases q : hasB a (nI n) = true
    · rw [if_pos q, if_pos (h2 q)]
      omega
    · rw [if_neg q]
      split <;> omega
theorem smN_lt {r : Nat → Nat} {a b : Int32} {k : Nat} : ∀ n, (∀ t, t < n → hasB a (nI t) = true → hasB b (nI t) = true) → (∀ t, t < n → 1 ≤ r t) → k < n → hasB b (nI k) = true → ¬ hasB a (nI k) = true → smN r a n < smN r b n
  | 0, _, _, hk, _, _ => absurd hk (by omega)
  | n + 1, h, hr, hk, hb, ha => by
    have h1 := smN_mono (r := r) n (fun t ht => h t (by omega))
    have h2 := h n (by omega)
    have h3 := hr n (by omega)
    rw [smN, smN]
    by_cases e : k = n
    · subst e
      rw [if_neg ha, if_pos hb]
      omega
    · have h4 := smN_lt n (fun t ht => h t (by omega)) (fun t ht => hr t (by omega)) (by omega) hb ha
      by_cases q : hasB a (nI n) = true
      · rw [if_pos q, if_pos (h2 q)]
        omega
      · rw [if_neg q]
        split <;> omega
theorem smN_pos {r : Nat → Nat} {b : Int32} {k n : Nat} (hr : ∀ t, t < n → 1 ≤ r t) (hk : k < n) (hn : n ≤ 32) (hb : hasB b (nI k) = true) : 0 < smN r b n := by
  have h := smN_lt (r := r) (a := 0) (b := b) n (fun t ht q => by rw [hasB_zero (by omega)] at q; exact Bool.noConfusion q) hr hk hb (by rw [hasB_zero (by omega)]; decide)
  omega
/-- what ruling out does to the likelihoods -/
theorem lik_rule {row : Nat → Int32} {r : Nat → Nat} {left x : Int32} {W : Nat} (hW : W ≤ 8) (hrow : ∀ t, t < W → row t = nI (r t) ∧ 1 ≤ r t ∧ r t ≤ 999) (hl : ∀ k, k < 32 → hasB left (nI k) = true → k < W) :
    (left &&& x = 0 → smF row (left &&& (x ^^^ (-1))) W = smF row left W) ∧ (¬ left &&& x = 0 → smF row (left &&& (x ^^^ (-1))) W < smF row left W) := by
  constructor
  · intro q
    congr 1
    apply ext_bits
    intro k hk
    have e : hasB (left &&& x) (nI k) = false := by rw [q]; exact hasB_zero hk
    rw [hasB_and hk] at e
    rw [hasB_and hk, hasB_not hk]
    cases q1 : hasB left (nI k) with
    | false => rfl
    | true =>
      rw [q1, Bool.true_and] at e
      rw [e]
      rfl
  · intro q
    obtain ⟨k, hk, hb⟩ := ne0_bit q
    rw [hasB_and hk, Bool.and_eq_true] at hb
    have hkW := hl k hk hb.1
    have h1 : ∀ t, t < W → r t ≤ 999 := fun t ht => (hrow t ht).2.2
    have b1 := smN_le (m := left) W h1
    have b2 := smN_le (m := left &&& (x ^^^ (-1))) W h1
    rw [smF_N W (fun t ht => (hrow t ht).1), smF_N W (fun t ht => (hrow t ht).1)]
    have h3 : W * 999 ≤ 8 * 999 := Nat.mul_le_mul_right _ hW
    apply (nI_ltI (by omega) (by omega)).mpr
    refine smN_lt W ?_ (fun t ht => (hrow t ht).2.1) hkW hb.1 ?_
    · intro t ht z
      rw [hasB_and (by omega), Bool.and_eq_true] at z
      exact z.1
    · rw [hasB_and hk, hasB_not hk, hb.2]
      simp
/-- belief -/
theorem be_eq {row : Nat → Int32} {r : Nat → Nat} {left : Int32} {W w : Nat} (hW : W ≤ 8) (hrow : ∀ t, t < W → row t = nI (r t) ∧ 1 ≤ r t ∧ r t ≤ 999) (hw : w < W) :
    beS (nI W) row (nI w) left = if hasB left (nI w) = true then ((1000000 : Int64) * (row w).toInt64 / (smF row left W).toInt64).toInt32 else 0 := by
  unfold beS
  have hin : inB (nI w) 0 (nI W - 1) = true := by
    rw [show nI W - 1 = nI (W - 1) from pk_sub (b := 1) (by omega)]
    exact inB_iff.mpr ⟨nI_le (a := 0) (by omega) (by omega), nI_le (by omega) (by omega)⟩
  rw [if_neg (by rw [hin]; decide), tn_nI (by omega), tn_nI (by omega)]
  cases q : hasB left (nI w) with
  | false => rfl
  | true =>
    rw [if_neg (by decide), if_pos rfl]
    have h1 : ∀ t, t < W → r t ≤ 999 := fun t ht => (hrow t ht).2.2
    have b1 := smN_le (m := left) W h1
    have h3 : W * 999 ≤ 8 * 999 := Nat.mul_le_mul_right _ hW
    have hp := smN_pos (fun t ht => (hrow t ht).2.1) hw (by omega) q
    rw [if_neg]
    rw [smF_N W (fun t ht => (hrow t ht).1)]
    exact nI_ge (a := 0) hp (by omega)
