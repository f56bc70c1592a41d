theorem ct_eq {X M : IM} {pl W T S D : Nat} (hC : CR X M pl W T S D) (hA : AR X 17 (M 130) S D) (a b : Int32) : ctX X pl a b = rxM M a b := by
  have h1 : (fun s => lfS (X pl 0) (X pl 2) (X (pl + 2)) s) = (fun s => lfM M s) := funext (lf_eq hC)
  have h4 : X 17 4 = M 130 4 := hA.1 4 (by omega)
  obtain ⟨a1, a2, a3, b1, b2, b3, -, -, -, -, -, -, -, -, -, -, -, d, -⟩ := hC
  have h2 : (fun s => orF (X (pl + 3)) s (tn (X pl 2))) = (fun s => swM M s) := funext (fun s => by
    unfold swM
    rw [b1, b2, tn_nI (by omega), orF_c T (fun t ht => (d t ht).2.1)]
    rfl)
  have h3 : cyX X pl = (fun s => csM M s) := funext (fun s => by
    unfold cyX csM
    rw [b1, b2, tn_nI (by omega), h4, smF_c T (fun t ht => (d t ht).2.2.1)]
    rfl)
  unfold ctX rxM
  rw [h1, h2, h3, b1, b2]
  exact (ct_ro _).1
theorem nxF_c {made left : Int32} {lik : Int32 → Int32} {r r' c c' : Nat → Int32} : ∀ t, t < 1000 → (∀ j, j < t → r j = r' j ∧ c j = c' j) → nxF made left lik r c t = nxF made left lik r' c' t
  | 0, _, _ => rfl
  | t + 1, ht, h => by
    have ih := nxF_c (made := made) (left := left) (lik := lik) t (by omega) (fun j hj => h j (by omega))
    rw [nxF, nxF, ih, (h t (by omega)).1, (h t (by omega)).2]
    rcases nxF_b made left lik r' c' t with q | ⟨j, hj, q⟩
    · rw [q]
      simp only [not_true, false_and]
    · rw [q, tn_nI (by omega), (h j (by omega)).2]
theorem lik_row {X M : IM} {pl W T S D : Nat} (hC : CR X M pl W T S D) : ∀ t, t < W → M 123 t = nI ((M 123 t).toInt.toNat) ∧ 1 ≤ (M 123 t).toInt.toNat ∧ (M 123 t).toInt.toNat ≤ 999 := by
  obtain ⟨-, -, -, -, -, -, -, -, -, -, -, -, -, -, -, -, l, -⟩ := hC
  intro t ht
  obtain ⟨-, r, e, h1, h2⟩ := l t ht
  have h3 : (M 123 t).toInt.toNat = r := by
    rw [e, nI_toInt (by omega)]
    rfl
  rw [h3]
  exact ⟨e, h1, h2⟩
theorem nx_eq {X M : IM} {pl W T S D : Nat} (hC : CR X M pl W T S D) (hA : AR X 17 (M 130) S D) : nxX X pl = nxM M := by
  have hl := lf_eq hC
  have h4 : X 17 4 = M 130 4 := hA.1 4 (by omega)
  have hr := lik_row hC
  have hsub := lfM_sub hC (M 130 4)
  obtain ⟨a1, a2, a3, b1, b2, b3, -, -, -, -, -, -, -, -, -, -, l, d, -⟩ := hC
  have h1 : (fun s => smF (X (pl + 1)) s (tn (X pl 0))) = (fun s => smF (M 123) s (tn (M 122 0))) := funext (fun s => by
    rw [a1, a2, tn_nI (by omega), smF_c W (fun t ht => (l t ht).1)])
  unfold nxX nxM wlX
  rw [h1, hl, h4, b1, b2, tn_nI (by omega), nxF_c (r' := ruM M) (c' := coM M) T (by omega) (fun j hj => ⟨(d j hj).1, (d j hj).2.2.1⟩)]
  refine (nx_nm T (by omega) (fun j hj => ?_)).1
  rw [a2, tn_nI (by omega)]
  exact lik_rule a3 hr hsub
/-- belief -/
theorem be_M {X M : IM} {pl W T S D w : Nat} (hC : CR X M pl W T S D) (hw : w < W) (left : Int32) : beS (X pl 0) (X (pl + 1)) (nI w) left = beM M (nI w) left := by
  have hr := lik_row hC
  obtain ⟨a1, a2, a3, -, -, -, -, -, -, -, -, -, -, -, -, -, l, -⟩ := hC
  rw [a1, be_eq (r := fun t => (M 123 t).toInt.toNat) a3 (fun t ht => ⟨(l t ht).1.trans (hr t ht).1, (hr t ht).2⟩) hw]
  unfold beM
  rw [a2, tn_nI (by omega), tn_nI (by omega), smF_c W (fun t ht => (l t ht).1), (l w hw).1]
/-- offer -/
theorem of_eq {X M : IM} {pl W T S D : Nat} (hC : CR X M pl W T S D) (hW : 0 < W) (v c left : Int32) : ofS X pl v c left = omS M v c left := by
  have h := be_M (w := 0) hC hW left
  have h' : beS (X pl 0) (X (pl + 1)) 0 left = beM M 0 left := h
  unfold ofS omS mxI
  rw [h']
  generalize (v.toInt64 * (beM M 0 left).toInt64 / (1000000 : Int64)).toInt32 - c = z
  by_cases q : 0 ≤ z
  · rw [if_pos q, if_neg (Int32.not_lt.mpr q)]
  · rw [if_neg q, if_pos (Int32.not_le.mp q)]
/-- hear -/
theorem he_sim {X M : IM} {pl W : Nat} (hW : W ≤ 8) (hx : X pl 0 = nI W) (hm : M 122 0 = nI W) (h : HSR X M) (x g : Int32) (hg : b01 g) :
    (if inB x 0 59 = false then (-1000000002) else if decide (0 < X pl 0) = false then (-1000000003) else if X 103 2 < 6 then X 103 2 + 1 else (-1000000004)) = heVm M x ∧ HSR (if inB x 0 59 = false then X else if decide (0 < X pl 0) = false then X else hsX X x g) (heM M x g) := by
  obtain ⟨B, h1, h2, h3, h4⟩ := id h
  have hic : icB M = decide (0 < X pl 0) := by
    unfold icB
    rw [hx, hm]
    by_cases q : nI W ≤ 0
    · rw [decide_eq_true q, decide_eq_false (Int32.not_lt.mpr q)]
      rfl
    · rw [decide_eq_false q, decide_eq_true (Int32.not_le.mp q)]
      rfl
  unfold heVm heM hsX
  rw [hic]
  cases q : inB x 0 59 with
  | false =>
    simp only [if_true]
    exact ⟨trivial, h⟩
  | true =>
    cases q2 : decide (0 < X pl 0) with
    | false =>
      simp only [if_true, Bool.true_eq_false, if_false]
      exact ⟨trivial, h⟩
    | true =>
      simp only [Bool.true_eq_false, if_false]
      rw [h1, h2]
      by_cases e : B = 6
      · subst e
        have z1 : ¬ nI 6 < 6 := by decide
        have z2 : nI 6 = 6 := rfl
        rw [if_neg z1, if_neg z1, if_pos z2, if_pos z2]
        exact ⟨rfl, h⟩
      · have z1 : nI B < 6 := (nI_ltI (b := 6) (by omega) (by omega)).mpr (by omega)
        have z2 : ¬ nI B = 6 := fun z => e ((nI_eq (b := 6) (by omega) (by omega)).mp z)
        rw [if_pos z1, if_pos z1, if_neg z2, if_neg z2, tn_nI (by omega)]
        refine ⟨rfl, B + 1, ?_, ?_, by omega, ?_⟩
        · rw [st_same]
          exact nI_1 B
        · rw [st_same]
          exact nI_1 B
        · intro j hj
          have e104 : st (st (st X 104 B x) 105 B g) 103 2 (nI B + 1) 104 j = if j = B then x else X 104 j := by rw [st_row (k := 103) (by decide), st_row (k := 105) (by decide), st_at1]
          have e105 : st (st (st X 104 B x) 105 B g) 103 2 (nI B + 1) 105 j = if j = B then g else X 105 j := by rw [st_row (k := 103) (by decide), st_at1, st_row (k := 104) (by decide)]
          have e135 : ∀ i, st (st (st M 135 (2 * B) x) 135 (2 * B + 1) (if g = 0 then 0 else 1)) 120 19 (nI B + 1) 135 i = if i = 2 * B + 1 then (if g = 0 then 0 else 1) else if i = 2 * B then x else M 135 i := fun i => by rw [st_row (k := 120) (by decide), st_at1, st_at1]
          have eg : (if g = 0 then (0 : Int32) else 1) = g := by
            rcases hg with z | z
            · rw [if_pos z, z]
            · rw [if_neg (by rw [z]; decide), z]
          rw [e104, e105, e135, e135, eg]
          by_cases ej : j = B
          · subst ej
            rw [if_pos rfl, if_pos rfl, if_neg (by omega), if_pos rfl, if_pos rfl]
            exact ⟨rfl, rfl, q, hg⟩
          · rw [if_neg ej, if_neg ej, if_neg (by omega), if_neg (by omega), if_neg (by omega), if_neg (by omega)]
            exact h4 j (by omega)
