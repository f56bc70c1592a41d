theorem lf_eq {X M : IM} {pl W T S D : Nat} (hC : CR X M pl W T S D) (made : Int32) : lfS (X pl 0) (X pl 2) (X (pl + 2)) made = lfM M made := by
  obtain ⟨a1, a2, a3, b1, b2, b3, -, -, -, -, -, -, -, -, -, -, -, d, -⟩ := hC
  unfold lfM lfS
  rw [a1, a2, b1, b2, tn_nI (by omega), orF_c T (fun t ht => (d t ht).1)]
  rfl
theorem sp_eq {X M : IM} {pl W T S D : Nat} (hC : CR X M pl W T S D) (hA : AR X 17 (M 130) S D) : spX X pl = spM M := by
  obtain ⟨a1, a2, a3, b1, b2, b3, c1, c2, c3, -, -, -, -, -, -, -, -, d, -⟩ := hC
  obtain ⟨h1, -, -, h5⟩ := hA
  unfold spX spM
  rw [mn_gt, b1, b2, c1, c2, tn_nI (by omega), tn_nI (by omega), h1 4 (by omega), smF_c T (fun t ht => (d t ht).2.2.1), adF_c S (fun s hs => (h5 s hs).2.1)]
  rfl
theorem lr_eq {X M : IM} {pl W T S D : Nat} (hC : CR X M pl W T S D) (hA : AR X 17 (M 130) S D) (w : Int32) : lrX X pl w = lrM M w := by
  obtain ⟨-, -, -, -, -, -, c1, c2, c3, -⟩ := hC
  obtain ⟨h1, -, -, h5⟩ := hA
  unfold lrX lrM
  rw [c1, c2, tn_nI (by omega), lrF_c S (fun s hs => (h5 s hs).1)]
  rfl
theorem nI_or (a b : Nat) : nI a ||| nI b = nI (a ||| b) := by
  apply Int32.toBitVec_inj.mp
  rw [Int32.toBitVec_or]
  show BitVec.ofNat 32 a ||| BitVec.ofNat 32 b = BitVec.ofNat 32 (a ||| b)
  rw [BitVec.ofNat_or]
theorem one_sh : ∀ k : Fin 31, (1 : Int32) <<< (nI k.1 &&& 31) = nI (2 ^ k.1) := by decide +kernel
theorem lrF_nat {f : Nat → Int32} {w : Int32} : ∀ n, n ≤ 30 → ∃ k, k < 2 ^ n ∧ lrF f w n = nI k
  | 0, _ => ⟨0, by decide, rfl⟩
  | n + 1, h => by
    obtain ⟨k, hk, e⟩ := lrF_nat (f := f) (w := w) n (by omega)
    have h2 : (2 : Nat) ^ (n + 1) = 2 ^ n + 2 ^ n := by rw [Nat.pow_succ]; omega
    have hp : 0 < (2 : Nat) ^ n := Nat.pow_pos (by decide)
    rw [lrF, e]
    split
    · exact ⟨k, by omega, rfl⟩
    · refine ⟨k ||| 2 ^ n, Nat.or_lt_two_pow (by omega) (by omega), ?_⟩
      rw [one_sh ⟨n, by omega⟩, nI_or]
theorem cnt6 : ∀ k : Fin 32, ¬ 6 ≤ bcI (nI k.1) := by decide +kernel
theorem orF_0 {f : Nat → Int32} {m : Int32} {k : Nat} (hk : k < 32) : ∀ n, (∀ t, t < n → hasB (f t) (nI k) = false) → hasB (orF f m n) (nI k) = false
  | 0, _ => hasB_zero hk
  | n + 1, h => by
    rw [orF]
    split
    · rw [hasB_or hk, orF_0 hk n (fun t ht => h t (by omega)), h n (by omega)]
      rfl
    · exact orF_0 hk n (fun t ht => h t (by omega))
theorem no0 {v : Int32} {W : Nat} (hW : W ≤ 8) (h : v &&& ((alS (nI W) &&& (-2)) ^^^ (-1)) = 0) : hasB v (nI 0) = false := by
  have e : hasB (v &&& ((alS (nI W) &&& (-2)) ^^^ (-1))) (nI 0) = false := by rw [h]; exact hasB_zero (by omega)
  rw [hasB_and (by omega), hasB_not (by omega), hasB_and (by omega), show hasB (-2) (nI 0) = false by decide, Bool.and_false, Bool.not_false, Bool.and_true] at e
  exact e
/-- way 0 is never ruled out -/
theorem left0 {M : IM} {X : IM} {pl W T S D : Nat} (hC : CR X M pl W T S D) (hW : 0 < W) (made : Int32) : hasB (lfM M made) (nI 0) = true := by
  obtain ⟨a1, a2, a3, b1, b2, b3, -, -, -, -, -, -, -, -, -, -, -, d, -⟩ := hC
  unfold lfM lfS
  rw [hasB_and (by omega), hasB_not (by omega), a2, al_bit a3 (by omega), decide_eq_true hW, b2, tn_nI (by omega), orF_0 (f := ruM M) (by omega) T (fun t ht => no0 a3 (d t ht).2.2.2.1)]
  rfl
theorem lfM_sub {M : IM} {X : IM} {pl W T S D : Nat} (hC : CR X M pl W T S D) (made : Int32) : ∀ k, k < 32 → hasB (lfM M made) (nI k) = true → k < W := by
  obtain ⟨a1, a2, a3, -⟩ := hC
  intro k hk h
  unfold lfM lfS at h
  rw [hasB_and hk, a2, al_bit a3 hk, Bool.and_eq_true] at h
  exact of_decide_eq_true h.1
theorem wf_eq {X M : IM} {pl W T S D : Nat} (hC : CR X M pl W T S D) (hA : AR X 17 (M 130) S D) (hW : 0 < W) : wfX X pl = llM M := by
  have hl := lf_eq hC
  have hlr := lr_eq hC hA
  have h0 := left0 hC hW (M 130 4)
  have hcnt : ∀ w, bcI (lrM M w) = onF (lrM M w) 30 := by
    intro w
    unfold lrM
    obtain ⟨-, -, -, -, -, -, c1, c2, c3, -⟩ := hC
    rw [c2, tn_nI (by omega)]
    obtain ⟨k, hk, e⟩ := lrF_nat (f := saM M) (w := w) S (by omega)
    have h2 : (2 : Nat) ^ S ≤ 2 ^ 5 := Nat.pow_le_pow_right (by decide) c3
    rw [e]
    exact bc_on (by omega)
  have hc6 : ¬ 6 ≤ bcI (lrM M 0) := by
    unfold lrM
    obtain ⟨-, -, -, -, -, -, c1, c2, c3, -⟩ := hC
    rw [c2, tn_nI (by omega)]
    obtain ⟨k, hk, e⟩ := lrF_nat (f := saM M) (w := 0) S (by omega)
    have h2 : (2 : Nat) ^ S ≤ 2 ^ 5 := Nat.pow_le_pow_right (by decide) c3
    rw [e]
    exact cnt6 ⟨k, by omega⟩
  have h4 : X 17 4 = M 130 4 := hA.1 4 (by omega)
  obtain ⟨a1, a2, a3, -⟩ := hC
  have hf : (fun w => bcI (lrM M w)) = (fun w => onF (lrM M w) 30) := funext hcnt
  have hg : (fun w => bcI (lrX X pl w)) = (fun w => bcI (lrM M w)) := funext (fun w => by rw [hlr])
  obtain ⟨V, rfl⟩ : ∃ V, W = V + 1 := ⟨W - 1, by omega⟩
  have hk := wf_ll (left := lfM M (M 130 4)) (cnt := fun w => bcI (lrM M w)) h0 hc6 V
  unfold wfX llM wlX
  rw [hg, hl, h4, a2, a1, tn_nI (by omega), hk, Nat.add_sub_cancel, hf]
