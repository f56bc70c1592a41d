theorem mod_at {n r e : Nat} (hr : r < e) (hn : r ≤ n) : (n - r) % e = 0 ↔ n % e = r := by
  constructor
  · intro h
    obtain ⟨q, hq⟩ := Nat.dvd_of_mod_eq_zero h
    have e1 : n = r + e * q := by omega
    rw [e1, Nat.add_mul_mod_self_left, Nat.mod_eq_of_lt hr]
  · intro h
    have h1 := Nat.div_add_mod n e
    have e1 : n - r = e * (n / e) := by omega
    rw [e1, Nat.mul_mod_right]
/-- came on such a day: both count alike -/
theorem gb_gm {n r e : Nat} (hn : n < 1000) (hr : r < e) (he : e < 1000) : gbS (nI r) (nI n) (nI e) = bI (gmB (nI n) (nI r) (nI e)) := by
  have h0 : ¬ nI e ≤ 0 := nI_ge (a := 0) (by omega) (by omega)
  have hg : gmB (nI n) (nI r) (nI e) = decide (n % e = r) := by
    unfold gmB
    rw [decide_eq_false h0, rem_k rfl hn (by omega) he]
    have h2 : n % e < e := Nat.mod_lt _ (by omega)
    by_cases q : n % e = r
    · rw [q, decide_eq_true rfl, decide_eq_true rfl]
      rfl
    · rw [decide_eq_false (fun z => q ((nI_eq (by omega) (by omega)).mp z)), decide_eq_false q]
      rfl
  rw [hg]
  unfold gbS
  by_cases q : n < r
  · rw [if_pos ((nI_ltI (by omega) (by omega)).mpr q), decide_eq_false (by rw [Nat.mod_eq_of_lt (by omega)]; omega)]
    rfl
  · rw [if_neg (fun z => q ((nI_ltI (by omega) (by omega)).mp z)), pk_sub (by omega), rem_k rfl (by omega) (by omega) he]
    have h3 := mod_at hr (n := n) (by omega)
    have h2 : (n - r) % e < e := Nat.mod_lt _ (by omega)
    by_cases q2 : n % e = r
    · have q3 := h3.mpr q2
      rw [q3, decide_eq_true q2]
      rfl
    · have q3 : ¬ nI ((n - r) % e) = 0 := fun z => q2 (h3.mp ((nI_eq (b := 0) (by omega) (by omega)).mp z))
      rw [if_neg q3, decide_eq_false q2]
      rfl
theorem ft_hf {d c h : Nat → Int32} {r e : Nat} (hr : r < e) (he : e < 1000) : ∀ B, (∀ j, j < B → d j = h (2 * j) ∧ c j = h (2 * j + 1) ∧ ∃ n, h (2 * j) = nI n ∧ n < 1000) → ftF d c (nI r) (nI e) B = hfF h (nI r) (nI e) B
  | 0, _ => rfl
  | B + 1, hh => by
    obtain ⟨h1, h2, n, h3, h4⟩ := hh B (by omega)
    rw [ftF, hfF, ft_hf hr he B (fun j hj => hh j (by omega)), h1, h2, h3, gb_gm h4 hr he]
theorem fg_ps {d c h : Nat → Int32} {e B : Nat} (he : e < 1000) (hh : ∀ j, j < B → d j = h (2 * j) ∧ c j = h (2 * j + 1) ∧ ∃ n, h (2 * j) = nI n ∧ n < 1000) : ∀ t, t ≤ e → fgF d c (nI e) B t = psF h (nI e) B t
  | 0, _ => rfl
  | t + 1, ht => by rw [fgF, psF, fg_ps he hh t (by omega), ft_hf (by omega) he B hh]
theorem ys_ym {s : Int32} {n e : Nat} (hn : n < 1000) (he : e < 1000) : ∀ t, t ≤ e → ysF s (nI n) (nI e) t = ymF s (nI n) (nI e) t
  | 0, _ => rfl
  | t + 1, ht => by
    rw [ysF, ymF, ys_ym hn he t (by omega), gb_gm hn (by omega) he]
    cases hasB s (nI t) with
    | false => rfl
    | true =>
      rw [if_pos rfl, Bool.true_and]
      cases gmB (nI n) (nI t) (nI e) with
      | false =>
        rw [if_neg (by decide)]
        show _ = _ + 0
        rw [Int32.add_zero]
      | true => rfl
theorem mx_mm (x a : Int32) : mxI x (a - x) = mmV x a := by
  unfold mxI mmV
  by_cases q : x < a - x
  · rw [if_pos q, if_pos (Int32.le_of_lt q)]
  · rw [if_neg q]
    by_cases q2 : x ≤ a - x
    · rw [if_pos q2]
      exact Int32.le_antisymm q2 (Int32.not_lt.mp q)
    · rw [if_neg q2]
/-- the best question -/
theorem bq_bm {s a : Int32} {e : Nat} (he : e < 1000) (ha : bcI s = a) : ∀ n, n < 1000 → bqF s (nI e) n = bmF s a (nI e) e n
  | 0, _ => by rw [bqF, bmF, ha]
  | n + 1, hn => by
    rw [bqF, bmF, bq_bm he ha n (by omega), gpS, tn_nI (by omega), ys_ym (by omega) he e (Nat.le_refl _), ha, mx_mm]
theorem psF_nat {h : Nat → Int32} {e : Int32} {B : Nat} : ∀ n, n ≤ 30 → ∃ k, k < 2 ^ n ∧ psF h e B n = nI k
  | 0, _ => ⟨0, by decide, rfl⟩
  | n + 1, hn => by
    obtain ⟨k, hk, e'⟩ := psF_nat (h := h) (e := e) (B := B) n (by omega)
    have h2 : (2 : Nat) ^ (n + 1) = 2 ^ n + 2 ^ n := by rw [Nat.pow_succ]; omega
    have hp : 0 < (2 : Nat) ^ n := Nat.pow_pos (by decide)
    rw [psF, e']
    split
    · refine ⟨k ||| 2 ^ n, Nat.or_lt_two_pow (by omega) (by omega), ?_⟩
      rw [one_sh ⟨n, by omega⟩, nI_or]
    · exact ⟨k, by omega, rfl⟩
/-- paid and ask -/
theorem paid_eq {X M : IM} {pl W T S D : Nat} (hC : CR X M pl W T S D) (h : HSR X M) : fgF (X 104) (X 105) (X pl 10) (tn (X 103 2)) (tn (X pl 10)) = pdM M ∧ (bqF (pdM M) (X pl 10) 60).1 = akM M := by
  obtain ⟨-, -, -, -, -, -, -, -, -, -, c5, c6, c7, -⟩ := hC
  obtain ⟨B, h1, h2, h3, h4⟩ := h
  have hh : ∀ j, j < B → X 104 j = M 135 (2 * j) ∧ X 105 j = M 135 (2 * j + 1) ∧ ∃ n, M 135 (2 * j) = nI n ∧ n < 1000 := by
    intro j hj
    obtain ⟨k1, k2, k3, -⟩ := h4 j hj
    obtain ⟨n, hn, e⟩ := nI_of_in k3 (cI 59) (by decide)
    exact ⟨k1, k2, n, e, by omega⟩
  have hp : pdM M = psF (M 135) (nI D) B D := by
    unfold pdM
    rw [c6, h2, tn_nI (by omega), tn_nI (by omega)]
  constructor
  · rw [c5, h1, tn_nI (by omega), tn_nI (by omega), hp, fg_ps (by omega) hh D (Nat.le_refl _)]
  · unfold akM
    obtain ⟨k, hk, e⟩ := psF_nat (h := M 135) (e := nI D) (B := B) D (by omega)
    have h2 : (2 : Nat) ^ D ≤ 2 ^ 30 := Nat.pow_le_pow_right (by decide) c7
    have hb : bcI (pdM M) = onF (pdM M) 30 := by
      rw [hp, e]
      exact bc_on (by omega)
    rw [c5, c6, tn_nI (by omega), bq_bm (by omega) hb 60 (by omega)]
