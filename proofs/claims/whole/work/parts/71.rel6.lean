theorem Rel.congr {X M X' M' : IM} {pl it : Nat} (h : Rel X M pl it) (hx : ∀ r, r < 120 → X' r = X r) (hm : ∀ r, 120 ≤ r → M' r = M r) : Rel X' M' pl it := by
  obtain ⟨hp, hi, hne, hZ, hT, hH, hB, hD, W, T, S, D, hC, hA, hR, hI⟩ := h
  have hS : S ≤ 5 := hC.2.2.2.2.2.2.2.2.1
  have p6 : pl + 6 < 17 ∧ 3 ≤ pl := by rcases hp with rfl | rfl <;> omega
  have m0 := hm 120 (by omega)
  refine ⟨hp, hi, hne, ?_, ?_, ?_, ?_, ?_, W, T, S, D, ?_, ?_, ?_, ?_⟩
  · exact hZ.congr (fun a ha => by have := isA_lo ha; exact hx a (by omega))
  · exact hT.congr (hx _ (by omega)) (hx _ (by omega)) (hx _ (by omega)) (hm _ (by omega)) (by rw [m0]) (by rw [m0])
  · exact hH.congr (hx _ (by omega)) (hx _ (by omega)) (hx _ (by omega)) (by rw [m0]) (hm _ (by omega))
  · exact hB.congr (hx _ (by omega)) (hx _ (by omega)) (by rw [m0]) (hm _ (by omega))
  · exact hD.congr (hx _ (by omega)) (by rw [m0])
  · exact hC.congr (fun r g1 g2 => hx r (by omega)) (fun r g1 g2 => hm r (by omega))
  · exact hA.congr hS (fun r g1 g2 => hx r (by omega)) (fun j _ => by rw [hm 130 (by omega)])
  · exact hR.congr hS (fun r g1 g2 => hx r (by omega)) (by rw [m0]) (hm _ (by omega))
  · exact hI.congr hS (fun r g1 g2 => hx r (by omega)) (hm _ (by omega)) (hm _ (by omega)) (hm _ (by omega))
section FACTS
variable {X M : IM} {pl it : Nat}
theorem Rel.ca (h : Rel X M pl it) : CA X pl := by
  obtain ⟨hp, -, -, -, -, -, -, -, W, T, S, D, ⟨a1, a2, a3, b1, b2, b3, c1, c2, c3, -⟩, -⟩ := h
  exact ⟨hp, W, T, S, a1, a3, b1, b3, c1, c3⟩
theorem Rel.ma (h : Rel X M pl it) : MA M := by
  obtain ⟨hp, -, -, -, -, -, -, -, W, T, S, D, ⟨a1, a2, a3, b1, b2, b3, c1, c2, c3, -⟩, -⟩ := h
  exact ⟨W, T, S, a2, a3, b2, b3, c2, c3⟩
theorem Rel.hz (h : Rel X M pl it) : HZ X := h.2.2.2.1
theorem Rel.he (h : Rel X M pl it) : HE X := by
  obtain ⟨-, -, -, -, -, -, -, -, W, T, S, D, -, -, ⟨e, E, a1, a2, -⟩, -⟩ := h
  exact ⟨e, a1, a2⟩
theorem Rel.hdm (h : Rel X M pl it) : HDm M := by
  obtain ⟨-, -, -, -, -, -, -, -, W, T, S, D, -, -, ⟨e, E, a1, a2, a3, a4, a5, -⟩, -⟩ := h
  exact ⟨E, a4, a5⟩
theorem Rel.hl (h : Rel X M pl it) : HL X := by
  obtain ⟨-, -, -, -, ⟨-, -, L, a, b, c, -⟩, -⟩ := h
  exact ⟨L, a, c⟩
theorem Rel.hlm (h : Rel X M pl it) : HLm M := by
  obtain ⟨-, -, -, -, ⟨-, -, L, a, b, c, -⟩, -⟩ := h
  exact ⟨L, b, c⟩
theorem Rel.hh (h : Rel X M pl it) : HH X := by
  obtain ⟨-, -, -, -, -, ⟨B, a, b, c, -⟩, -⟩ := h
  exact ⟨B, a, c⟩
theorem Rel.hhm (h : Rel X M pl it) : HHm M := by
  obtain ⟨-, -, -, -, -, ⟨B, a, b, c, -⟩, -⟩ := h
  exact ⟨B, b, c⟩
theorem Rel.hb (h : Rel X M pl it) : HB X := by
  obtain ⟨-, -, -, -, -, -, ⟨B, a, b, c, -⟩, -⟩ := h
  exact ⟨B, a, c⟩
theorem Rel.hbm (h : Rel X M pl it) : HBm M := by
  obtain ⟨-, -, -, -, -, -, ⟨B, a, b, c, -⟩, -⟩ := h
  exact ⟨B, b, c⟩
theorem Rel.hd (h : Rel X M pl it) : HD X pl := by
  obtain ⟨hp, -, -, -, -, -, -, -, W, T, S, D, ⟨-, -, -, -, -, -, -, -, -, -, d1, d2, d3, -⟩, -⟩ := h
  exact ⟨D, d1, d3⟩
theorem Rel.hdd (h : Rel X M pl it) : HDd M := by
  obtain ⟨hp, -, -, -, -, -, -, -, W, T, S, D, ⟨-, -, -, -, -, -, -, -, -, -, d1, d2, d3, -⟩, -⟩ := h
  exact ⟨D, d2, d3⟩
theorem ic_pos {W : Nat} (hm : M 122 0 = nI W) (hW : W ≤ 8) : icB M = decide (0 < W) := by
  unfold icB
  rw [hm]
  by_cases q : 0 < W
  · have h0 : ¬ nI W ≤ 0 := nI_ge (a := 0) q (by omega)
    rw [decide_eq_false h0, decide_eq_true q]
    rfl
  · have : W = 0 := by omega
    subst this
    rfl
theorem Rel.hne (h : Rel X M pl it) : icB M = true → ¬ M 122 4 = 0 := by
  obtain ⟨hp, -, -, -, -, -, -, -, W, T, S, D, ⟨a1, a2, a3, -, -, -, -, -, -, -, d1, d2, d3, -, -, d5, -⟩, -⟩ := h
  intro q z
  rw [ic_pos a2 a3] at q
  have hD := d5 (of_decide_eq_true q)
  rw [d2] at z
  exact absurd ((nI_eq (b := 0) (by omega) (by omega)).mp z) (by omega)
theorem Rel.htw (h : Rel X M pl it) : 0 < tn (M 122 1) → 0 < tn (M 122 0) := by
  obtain ⟨hp, -, -, -, -, -, -, -, W, T, S, D, ⟨a1, a2, a3, b1, b2, b3, -, -, -, -, d1, d2, d3, -, d4, -⟩, -⟩ := h
  rw [a2, b2, tn_nI (by omega), tn_nI (by omega)]
  intro q
  apply Nat.pos_of_ne_zero
  intro z
  have := (d4 z).1
  omega
theorem CR.lk {W T S D : Nat} (hC : CR X M pl W T S D) : ∀ left j, j < tn (M 122 0) → hasB left (nI j) = true → ¬ (smF (M 123) left (tn (M 122 0))).toInt64 = 0 := by
  have hr := lik_row hC
  obtain ⟨a1, a2, a3, -⟩ := hC
  intro left j
  rw [a2, tn_nI (by omega)]
  intro hj q z
  have b1 := smN_le (r := fun t => (M 123 t).toInt.toNat) (m := left) W (B := 999) (fun t ht => (hr t ht).2.2)
  have h3 : W * 999 ≤ 8 * 999 := Nat.mul_le_mul_right _ a3
  have hp := smN_pos (r := fun t => (M 123 t).toInt.toNat) (fun t ht => (hr t ht).2.1) hj (by omega) q
  rw [smF_N (r := fun t => (M 123 t).toInt.toNat) W (fun t ht => (hr t ht).1)] at z
  have z2 := congrArg Int64.toInt z
  rw [Int32.toInt_toInt64, nI_toInt (by omega)] at z2
  have z3 : (0 : Int64).toInt = 0 := rfl
  omega
theorem Rel.hlk (h : Rel X M pl it) : ∀ left j, j < tn (M 122 0) → hasB left (nI j) = true → ¬ (smF (M 123) left (tn (M 122 0))).toInt64 = 0 := by
  obtain ⟨hp, -, -, -, -, -, -, -, W, T, S, D, hC, -⟩ := h
  exact hC.lk
end FACTS
/-- one call, made of both -/
def Call (Yc Ym : Card) (d1 d2 : Nat) (as : List Value) (im : IM) (pl it : Nat) : Prop :=
  ∃ (v : Int32) (im1 : IM) (pl' it' : Nat) (im2 : IM), MT Yc d1 0 0 (.ref 0 :: as) 137 im (RR pl it) (some (.int v), 137, im1, RR pl' it') ∧ MT Ym d2 0 0 (.ref 120 :: as) 137 im1 (RR pl' it') (some (.int v), 137, im2, RR pl' it') ∧ Rel im2 im2 pl' it'
section OF
variable {Yc Ym : Card} {d1 d2 : Nat} {as : List Value} {im im1 im2 : IM} {pl it : Nat} {a b : Int32}
theorem read_of (h : Rel im im pl it) (hc : MT Yc d1 0 0 (.ref 0 :: as) 137 im (RR pl it) (some (.int a), 137, im, RR pl it)) (hm : MT Ym d2 0 0 (.ref 120 :: as) 137 im (RR pl it) (some (.int b), 137, im, RR pl it)) (e : a = b) : Call Yc Ym d1 d2 as im pl it := by
  subst e
  exact ⟨a, im, pl, it, im, hc, hm, h⟩
theorem deed_of (hc : MT Yc d1 0 0 (.ref 0 :: as) 137 im (RR pl it) (some (.int a), 137, im1, RR pl it)) (hm : MT Ym d2 0 0 (.ref 120 :: as) 137 im1 (RR pl it) (some (.int b), 137, im2, RR pl it)) (e : a = b) (hr : Rel im1 im2 pl it) (hf : ∀ r, r < 120 → im2 r = im1 r) : Call Yc Ym d1 d2 as im pl it := by
  subst e
  exact ⟨a, im1, pl, it, im2, hc, hm, hr.congr hf (fun _ _ => rfl)⟩
end OF
