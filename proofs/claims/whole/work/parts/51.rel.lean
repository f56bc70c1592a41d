/-- a castle told to both -/
def CR (X M : IM) (pl W T S D : Nat) : Prop := X pl 0 = nI W ∧ M 122 0 = nI W ∧ W ≤ 8 ∧ X pl 2 = nI T ∧ M 122 1 = nI T ∧ T ≤ 6 ∧ X pl 6 = nI S ∧ M 122 2 = nI S ∧ S ≤ 5 ∧ X pl 9 = M 122 3 ∧ X pl 10 = nI D ∧ M 122 4 = nI D ∧ D ≤ 30 ∧ (∃ P, M 122 3 = nI P ∧ P ≤ 99) ∧ (W = 0 → T = 0 ∧ S = 0 ∧ D = 0) ∧ (0 < W → 1 ≤ D)
  ∧ (∀ j, j < W → X (pl + 1) j = M 123 j ∧ ∃ r, M 123 j = nI r ∧ 1 ≤ r ∧ r ≤ 999)
  ∧ (∀ j, j < T → X (pl + 2) j = M 124 (3 * j) ∧ X (pl + 3) j = M 124 (3 * j + 1) ∧ X (pl + 4) j = M 124 (3 * j + 2) ∧ M 124 (3 * j) &&& ((alS (nI W) &&& (-2)) ^^^ (-1)) = 0 ∧ inB (M 124 (3 * j + 1)) 0 63 = true ∧ inB (M 124 (3 * j + 2)) 0 999 = true)
  ∧ (∀ j, j < S → X (pl + 5) j = M 125 (2 * j) ∧ X (pl + 6) j = M 125 (2 * j + 1) ∧ M 125 (2 * j) &&& (alS (nI W) ^^^ (-1)) = 0 ∧ inB (M 125 (2 * j + 1)) 0 999 = true)
/-- what is so, told to both: the class's cell a, the model's row f -/
def AR (X : IM) (a : Nat) (f : Nat → Int32) (S D : Nat) : Prop := (∀ j, j < 6 → X a j = f j) ∧ b01 (f 2) ∧ (b01 (f 3) ∧ (D = 0 → f 2 = 0))
  ∧ ∀ s, s < S → X (a + 1) s = f (6 + 3 * s) ∧ X (a + 2) s = f (6 + 3 * s + 1) ∧ X (a + 3) s = f (6 + 3 * s + 2) ∧ (∃ k, f (6 + 3 * s + 2) = nI k ∧ k < D)
theorem AR.congr {X X' : IM} {a S D : Nat} {f f' : Nat → Int32} (h : AR X a f S D) (hS : S ≤ 5) (hx : ∀ r, a ≤ r → r ≤ a + 3 → X' r = X r) (hf : ∀ j, j < 21 → f' j = f j) : AR X' a f' S D := by
  obtain ⟨h1, h2, h3, h5⟩ := h
  refine ⟨fun j hj => ?_, ?_, ?_, fun s hs => ?_⟩
  · rw [hx a (by omega) (by omega), hf j (by omega)]
    exact h1 j hj
  · rw [hf 2 (by omega)]
    exact h2
  · rw [hf 3 (by omega), hf 2 (by omega)]
    exact h3
  · rw [hx (a + 1) (by omega) (by omega), hx (a + 2) (by omega) (by omega), hx (a + 3) (by omega) (by omega), hf (6 + 3 * s) (by omega), hf (6 + 3 * s + 1) (by omega), hf (6 + 3 * s + 2) (by omega)]
    exact h5 s hs
/-- a copy of what is so -/
theorem AR.copy {X X' : IM} {a b S D : Nat} {f f' : Nat → Int32} (h : AR X b f S D) (hS : S ≤ 5) (h0 : ∀ j, j < 6 → X' a j = X b j) (h1 : ∀ i, 1 ≤ i → i ≤ 3 → ∀ j, j < 5 → X' (a + i) j = X (b + i) j) (hf : ∀ j, j < 21 → f' j = f j) : AR X' a f' S D := by
  obtain ⟨k1, h2, h3, h5⟩ := h
  refine ⟨fun j hj => ?_, ?_, ?_, fun s hs => ?_⟩
  · rw [h0 j hj, hf j (by omega)]
    exact k1 j hj
  · rw [hf 2 (by omega)]
    exact h2
  · rw [hf 3 (by omega), hf 2 (by omega)]
    exact h3
  · rw [h1 1 (by omega) (by omega) s (by omega), h1 2 (by omega) (by omega) s (by omega), h1 3 (by omega) (by omega) s (by omega), hf (6 + 3 * s) (by omega), hf (6 + 3 * s + 1) (by omega), hf (6 + 3 * s + 2) (by omega)]
    exact h5 s hs
/-- the past -/
def HR (X M : IM) (S D : Nat) : Prop := ∃ e E, X 21 1 = nI e ∧ e < 20 ∧ X 21 2 = nI E ∧ M 120 13 = nI E ∧ E ≤ 20 ∧ ∀ i, i < E → AR X (23 + 4 * ((e + 20 - E + i) % 20)) (fun j => M 131 (21 * i + j)) S D
theorem HR.congr {X M X' M' : IM} {S D : Nat} (h : HR X M S D) (hS : S ≤ 5) (hx : ∀ r, 21 ≤ r → r ≤ 102 → X' r = X r) (h1 : M' 120 13 = M 120 13) (h2 : M' 131 = M 131) : HR X' M' S D := by
  obtain ⟨e, E, a1, a2, a3, a4, a5, a6⟩ := h
  refine ⟨e, E, by rw [hx 21 (by omega) (by omega)]; exact a1, a2, by rw [hx 21 (by omega) (by omega)]; exact a3, by rw [h1]; exact a4, a5, fun i hi => ?_⟩
  exact (a6 i hi).congr hS (fun r g1 g2 => hx r (by omega) (by omega)) (fun j _ => by rw [h2])
theorem cpA_at {X : IM} {a b k j : Nat} : cpA X a b k j = if k = a ∧ j < 6 then X b j else if k = a + 1 ∧ j < 5 then X (b + 1) j else if k = a + 2 ∧ j < 5 then X (b + 2) j else if k = a + 3 ∧ j < 5 then X (b + 3) j else X k j := rfl
theorem cpA_row {X : IM} {a b k : Nat} (h : k < a ∨ a + 3 < k) : cpA X a b k = X k := by
  funext j
  rw [cpA_at, if_neg (by omega), if_neg (by omega), if_neg (by omega), if_neg (by omega)]
/-- what is so is remembered by both -/
theorem rm_sim {X M : IM} {S D : Nat} (hS : S ≤ 5) (h : HR X M S D) (hA : AR X 17 (M 130) S D) : HR (rmX X) (ntM M) S D := by
  obtain ⟨e, E, a1, a2, a3, a4, a5, a6⟩ := h
  have ht : tn (X 21 1) = e := by rw [a1, tn_nI (by omega)]
  have hte : tn (M 120 13) = E := by rw [a4, tn_nI (by omega)]
  have xr : ∀ r, r ≠ 21 → (r < 23 + 4 * e ∨ 23 + 4 * e + 3 < r) → rmX X r = X r := fun r h1 h2 => by
    unfold rmX
    rw [st_row h1, st_row h1, ht, cpA_row h2]
  have x1 : rmX X 21 1 = nI ((e + 1) % 20) := by
    unfold rmX
    rw [st_ne (by omega), st_same, ht]
  have hnew : ∀ f : Nat → Int32, (∀ j, j < 21 → f j = M 130 j) → AR (rmX X) (23 + 4 * e) f S D := fun f hf => by
    refine hA.copy hS ?_ ?_ hf
    · intro j hj
      unfold rmX
      rw [st_row (by omega), st_row (by omega), ht, cpA_at, if_pos ⟨rfl, hj⟩]
    · intro i g1 g2 j hj
      unfold rmX
      rw [st_row (by omega), st_row (by omega), ht, cpA_at]
      have : i = 1 ∨ i = 2 ∨ i = 3 := by omega
      rcases this with rfl | rfl | rfl
      · rw [if_neg (by omega), if_pos (by omega)]
      · rw [if_neg (by omega), if_neg (by omega), if_pos (by omega)]
      · rw [if_neg (by omega), if_neg (by omega), if_neg (by omega), if_pos (by omega)]
  by_cases q : E = 20
  · subst q
    refine ⟨(e + 1) % 20, 20, x1, by omega, ?_, ?_, by omega, ?_⟩
    · unfold rmX
      rw [st_same, a3]
      rfl
    · unfold ntM
      rw [if_pos (show M 120 13 = 20 from a4), st_same]
      rfl
    · have hm : ∀ j, ntM M 131 j = if 399 ≤ j ∧ j < 420 then M 130 (j - 399) else if j < 399 then M 131 (j + 21) else M 131 j := fun j => by
        unfold ntM
        rw [if_pos (show M 120 13 = 20 from a4), st_row (by decide)]
        simp only [cyT]
        by_cases g : 399 ≤ j ∧ j < 420
        · rw [if_pos ⟨trivial, g.1, by omega⟩, if_pos g, st_row (by decide)]
          simp only [shT]
          rw [if_neg (by omega), Nat.zero_add]
        · rw [if_neg (by omega), if_neg g, st_row (by decide)]
          simp only [shT]
          by_cases g2 : j < 399
          · rw [if_pos ⟨trivial, g2⟩, if_pos g2]
          · rw [if_neg (by omega), if_neg g2]
      intro i hi
      by_cases g : i = 19
      · subst g
        rw [show ((e + 1) % 20 + 20 - 20 + 19) % 20 = e by omega]
        refine hnew _ (fun j hj => ?_)
        show ntM M 131 (21 * 19 + j) = _
        rw [hm, if_pos (by omega), show 21 * 19 + j - 399 = j by omega]
      · rw [show ((e + 1) % 20 + 20 - 20 + i) % 20 = (e + 20 - 20 + (i + 1)) % 20 by omega]
        refine (a6 (i + 1) (by omega)).congr hS (fun r g1 g2 => xr r (by omega) ?_) (fun j hj => ?_)
        · have : (e + 20 - 20 + (i + 1)) % 20 ≠ e := by omega
          omega
        · show ntM M 131 (21 * i + j) = M 131 (21 * (i + 1) + j)
          rw [hm, if_neg (by omega), if_pos (by omega), show 21 * i + j + 21 = 21 * (i + 1) + j by omega]
  · have hn20 : ¬ M 120 13 = 20 := fun z => q ((nI_eq (b := 20) (by omega) (by omega)).mp (a4.symm.trans z))
    refine ⟨(e + 1) % 20, E + 1, x1, by omega, ?_, ?_, by omega, ?_⟩
    · unfold rmX
      rw [st_same, a3, nI_1]
      unfold mnI
      rw [if_neg]
      intro z
      exact absurd ((nI_ltI (a := 20) (by omega) (by omega)).mp z) (by omega)
    · unfold ntM
      rw [if_neg hn20, st_same, a4]
      exact nI_1 E
    · have hm : ∀ j, ntM M 131 j = if 21 * E ≤ j ∧ j < 21 * E + 21 then M 130 (j - 21 * E) else M 131 j := fun j => by
        unfold ntM
        rw [if_neg hn20, st_row (by decide), hte]
        simp only [cyT]
        by_cases g : 21 * E ≤ j ∧ j < 21 * E + 21
        · rw [if_pos ⟨trivial, g⟩, if_pos g, Nat.zero_add]
        · rw [if_neg (fun z => g z.2), if_neg g]
      intro i hi
      by_cases g : i = E
      · subst g
        rw [show ((e + 1) % 20 + 20 - (i + 1) + i) % 20 = e by omega]
        refine hnew _ (fun j hj => ?_)
        show ntM M 131 (21 * i + j) = _
        rw [hm, if_pos (by omega), show 21 * i + j - 21 * i = j by omega]
      · rw [show ((e + 1) % 20 + 20 - (E + 1) + i) % 20 = (e + 20 - E + i) % 20 by omega]
        refine (a6 i (by omega)).congr hS (fun r g1 g2 => xr r (by omega) ?_) (fun j hj => ?_)
        · have : (e + 20 - E + i) % 20 ≠ e := by omega
          omega
        · show ntM M 131 (21 * i + j) = M 131 (21 * i + j)
          rw [hm, if_neg (by omega)]
