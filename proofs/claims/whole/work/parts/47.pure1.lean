theorem orF_c {f g : Nat → Int32} {m : Int32} : ∀ n, (∀ t, t < n → f t = g t) → orF f m n = orF g m n
  | 0, _ => rfl
  | n + 1, h => by rw [orF, orF, orF_c n (fun t ht => h t (by omega)), h n (by omega)]
theorem smF_c {f g : Nat → Int32} {m : Int32} : ∀ n, (∀ t, t < n → f t = g t) → smF f m n = smF g m n
  | 0, _ => rfl
  | n + 1, h => by rw [smF, smF, smF_c n (fun t ht => h t (by omega)), h n (by omega)]
theorem lrF_c {f g : Nat → Int32} {w : Int32} : ∀ n, (∀ t, t < n → f t = g t) → lrF f w n = lrF g w n
  | 0, _ => rfl
  | n + 1, h => by rw [lrF, lrF, lrF_c n (fun t ht => h t (by omega)), h n (by omega)]
theorem adF_c {f g : Nat → Int32} {a : Int32} : ∀ n, (∀ t, t < n → f t = g t) → adF a f n = adF a g n
  | 0, _ => rfl
  | n + 1, h => by rw [adF, adF, adF_c n (fun t ht => h t (by omega)), h n (by omega)]
theorem mn_gt (x : Int32) : mnI x 999999 = gtV x := by
  unfold mnI gtV
  by_cases h : x ≤ 999999
  · rw [if_pos h, if_neg (Int32.not_lt.mpr h)]
  · rw [if_neg h, if_pos (Int32.not_le.mp h)]
theorem drV_dm {s n : Int32} (h : ¬ n ≤ 0) : drV s n = dmV s n := by rw [drV, if_neg h, dmV]
/-- the way of fewest liars -/
theorem wf_ll {left : Int32} {cnt : Int32 → Int32} (h0 : hasB left 0 = true) (h6 : ¬ 6 ≤ cnt 0) : ∀ w, wfF left cnt (w + 1) = (llF left cnt w, cnt (llF left cnt w))
  | 0 => by
    rw [wfF, if_pos ⟨h0, h6⟩]
    rfl
  | w + 1 => by
    rw [wfF, wf_ll h0 h6 w, llF]
    by_cases h : hasB left (nI (w + 1)) = true ∧ ¬ cnt (llF left cnt w) ≤ cnt (nI (w + 1))
    · rw [if_pos h, if_pos h]
    · rw [if_neg h, if_neg h]
/-- the cheapest tests -/
theorem ct_ro {L S C : Int32 → Int32} {a b : Int32} : ∀ t, (ctF L S C a b t).1 = roF L S C a b t ∧ (¬ roF L S C a b t = -1 → (ctF L S C a b t).2 = C (roF L S C a b t))
  | 0 => ⟨rfl, fun h => absurd rfl h⟩
  | t + 1 => by
    obtain ⟨h1, h2⟩ := ct_ro (L := L) (S := S) (C := C) (a := a) (b := b) t
    have e : (a &&& L (nI t) = 0 ∧ S (nI t) &&& (b ^^^ (-1)) = 0 ∧ ((ctF L S C a b t).1 = -1 ∨ ¬ (ctF L S C a b t).2 ≤ C (nI t))) ↔ (L (nI t) &&& a = 0 ∧ S (nI t) &&& (b ^^^ (-1)) = 0 ∧ (roF L S C a b t = -1 ∨ ¬ C (roF L S C a b t) ≤ C (nI t))) := by
      rw [h1, Int32.and_comm a]
      by_cases q : roF L S C a b t = -1
      · constructor
        · exact fun z => ⟨z.1, z.2.1, Or.inl q⟩
        · exact fun z => ⟨z.1, z.2.1, Or.inl q⟩
      · rw [h2 q]
    rw [ctF, roF]
    by_cases q : a &&& L (nI t) = 0 ∧ S (nI t) &&& (b ^^^ (-1)) = 0 ∧ ((ctF L S C a b t).1 = -1 ∨ ¬ (ctF L S C a b t).2 ≤ C (nI t))
    · rw [if_pos q, if_pos (e.mp q)]
      exact ⟨rfl, fun _ => rfl⟩
    · rw [if_neg q, if_neg (fun z => q (e.mpr z))]
      exact ⟨h1, h2⟩
theorem nI_ne_m1 {t : Nat} (h : t < 1000) : ¬ nI t = -1 := by
  intro z
  have e := congrArg Int32.toInt z
  rw [nI_toInt (by omega), show (-1 : Int32).toInt = -1 from rfl] at e
  omega
/-- the next test: what rules something out is likelier less -/
theorem nx_nm {made left : Int32} {lik : Int32 → Int32} {rules costs : Nat → Int32} : ∀ t, t < 1000 → (∀ j, j < t → (left &&& rules j = 0 → lik (left &&& (rules j ^^^ (-1))) = lik left) ∧ (¬ left &&& rules j = 0 → lik (left &&& (rules j ^^^ (-1))) < lik left)) →
    (nxF made left lik rules costs t).1 = (nmF made left lik rules costs t).1 ∧ ((nmF made left lik rules costs t).1 = -1 → (nxF made left lik rules costs t).2 = lik left) ∧ (¬ (nmF made left lik rules costs t).1 = -1 → (nxF made left lik rules costs t).2 = (nmF made left lik rules costs t).2 ∧ (nmF made left lik rules costs t).2 < lik left)
  | 0, _, _ => ⟨rfl, fun _ => rfl, fun h => absurd rfl h⟩
  | t + 1, ht, h => by
    obtain ⟨h1, h2, h3⟩ := nx_nm (made := made) (costs := costs) t (by omega) (fun j hj => h j (by omega))
    obtain ⟨k1, k2⟩ := h t (by omega)
    rw [nxF, nmF]
    generalize nxF made left lik rules costs t = A at *
    generalize nmF made left lik rules costs t = B at *
    generalize lik (left &&& (rules t ^^^ (-1))) = l at *
    generalize lik left = l0 at *
    cases q : hasB made (nI t) with
    | true =>
      have hm : ¬ (true = false ∧ ¬ left &&& rules t = 0 ∧ (B.1 = -1 ∨ l < B.2 ∨ (l = B.2 ∧ ¬ costs (tn B.1) ≤ costs t))) := fun z => Bool.noConfusion z.1
      rw [if_pos rfl, if_neg hm]
      exact ⟨h1, h2, h3⟩
    | false =>
      rw [if_neg Bool.false_ne_true]
      by_cases qz : left &&& rules t = 0
      · have hm : ¬ (false = false ∧ ¬ left &&& rules t = 0 ∧ (B.1 = -1 ∨ l < B.2 ∨ (l = B.2 ∧ ¬ costs (tn B.1) ≤ costs t))) := fun z => z.2.1 qz
        have e := k1 qz
        have hn : ¬ (l < A.2 ∨ (¬ A.1 = -1 ∧ l = A.2 ∧ ¬ costs (tn A.1) ≤ costs t)) := by
          rw [e]
          by_cases q1 : B.1 = -1
          · rw [h2 q1]
            intro z
            rcases z with z | z
            · exact Int32.lt_irrefl z
            · exact z.1 (h1.trans q1)
          · rw [(h3 q1).1]
            have l := (h3 q1).2
            intro z
            rcases z with z | z
            · exact Int32.lt_irrefl (Int32.lt_trans z l)
            · rw [← z.2.1] at l
              exact Int32.lt_irrefl l
        rw [if_neg hn, if_neg hm]
        exact ⟨h1, h2, h3⟩
      · have hl := k2 qz
        by_cases q1 : B.1 = -1
        · have hm : (false = false ∧ ¬ left &&& rules t = 0 ∧ (B.1 = -1 ∨ l < B.2 ∨ (l = B.2 ∧ ¬ costs (tn B.1) ≤ costs t))) := ⟨rfl, qz, Or.inl q1⟩
          have hn : (l < A.2 ∨ (¬ A.1 = -1 ∧ l = A.2 ∧ ¬ costs (tn A.1) ≤ costs t)) := Or.inl (by rw [h2 q1]; exact hl)
          rw [if_pos hn, if_pos hm]
          exact ⟨rfl, fun z => absurd z (nI_ne_m1 (by omega)), fun _ => ⟨rfl, hl⟩⟩
        · rw [h1, (h3 q1).1]
          by_cases q2 : l < B.2 ∨ (l = B.2 ∧ ¬ costs (tn B.1) ≤ costs t)
          · have hn : (l < B.2 ∨ (¬ B.1 = -1 ∧ l = B.2 ∧ ¬ costs (tn B.1) ≤ costs t)) := q2.imp id (fun z => And.intro q1 z)
            have hm : (false = false ∧ ¬ left &&& rules t = 0 ∧ (B.1 = -1 ∨ l < B.2 ∨ (l = B.2 ∧ ¬ costs (tn B.1) ≤ costs t))) := ⟨rfl, qz, Or.inr q2⟩
            rw [if_pos hn, if_pos hm]
            exact ⟨rfl, fun z => absurd z (nI_ne_m1 (by omega)), fun _ => ⟨rfl, hl⟩⟩
          · have hn : ¬ (l < B.2 ∨ (¬ B.1 = -1 ∧ l = B.2 ∧ ¬ costs (tn B.1) ≤ costs t)) := fun z => q2 (z.imp id (fun y => y.2))
            have hm : ¬ (false = false ∧ ¬ left &&& rules t = 0 ∧ (B.1 = -1 ∨ l < B.2 ∨ (l = B.2 ∧ ¬ costs (tn B.1) ≤ costs t))) := fun z => z.2.2.elim q1 q2
            rw [if_neg hn, if_neg hm]
            exact ⟨h1, h2, h3⟩
