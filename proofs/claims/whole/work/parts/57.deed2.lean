theorem AR.set {X : IM} {a S D j : Nat} {f : Nat → Int32} {v : Int32} (h : AR X a f S D) (hj : j < 6) (hv : j = 2 ∨ j = 3 → b01 v) (hz : j = 2 → D = 0 → v = 0) : AR (st X a j v) a (fun k => if k = j then v else f k) S D := by
  obtain ⟨h1, h2, h3, h5⟩ := h
  refine ⟨fun k hk => ?_, ?_, ?_, fun s hs => ?_⟩
  · rw [st_at1]
    dsimp only
    split
    · rfl
    · exact h1 k hk
  · dsimp only
    split
    · exact hv (by omega)
    · exact h2
  · dsimp only
    constructor
    · split
      · exact hv (by omega)
      · exact h3.1
    · intro z
      split
      · next q => exact hz q.symm z
      · exact h3.2 z
  · dsimp only
    rw [st_row (by omega), st_row (by omega), st_row (by omega), if_neg (by omega), if_neg (by omega), if_neg (by omega)]
    exact h5 s hs
theorem st_fun {M : IM} {k j : Nat} {v : Int32} : st M k j v k = (fun i => if i = j then v else M k i) := funext (fun i => st_at1)
theorem rmX_low {X : IM} {r : Nat} (h : r < 21) : rmX X r = X r := by
  unfold rmX
  rw [st_row (by omega), st_row (by omega), cpA_row (by omega)]
theorem ntM_130 {M : IM} : ntM M 130 = M 130 := by
  funext j
  unfold ntM
  split
  · rw [st_row (by decide)]
    unfold cyT
    rw [if_neg (by omega), st_row (by decide)]
    unfold shT
    rw [if_neg (by omega)]
  · rw [st_row (by decide)]
    unfold cyT
    rw [if_neg (by omega)]
theorem AR.rem {X M : IM} {S D : Nat} (hS : S ≤ 5) (h : AR X 17 (M 130) S D) : AR (rmX X) 17 (ntM M 130) S D := h.congr hS (fun r g1 g2 => rmX_low (by omega)) (fun j _ => by rw [ntM_130])
/-- a deed that sets one thing -/
theorem deed1 {X M : IM} {S D j : Nat} {v : Int32} (hS : S ≤ 5) (h : HR X M S D) (hA : AR X 17 (M 130) S D) (hj : j < 6) (hv : j = 2 ∨ j = 3 → b01 v) (hz : j = 2 → D = 0 → v = 0) : AR (st (rmX X) 17 j v) 17 (st (ntM M) 130 j v 130) S D ∧ HR (st (rmX X) 17 j v) (st (ntM M) 130 j v) S D := by
  constructor
  · rw [st_fun]
    exact (hA.rem hS).set hj hv hz
  · exact (rm_sim hS h hA).congr hS (fun r g1 g2 => st_row (by omega)) (st_ne (by omega)) (st_row (by decide))
theorem ic_eq {X M : IM} {pl W : Nat} (hx : X pl 0 = nI W) (hm : M 122 0 = nI W) : icB M = decide (0 < X pl 0) := by
  unfold icB
  rw [hx, hm]
  by_cases q : nI W ≤ 0
  · rw [decide_eq_true q, decide_eq_false (Int32.not_lt.mpr q)]
    rfl
  · rw [decide_eq_false q, decide_eq_true (Int32.not_le.mp q)]
    rfl
/-- seal -/
theorem sl_sim {X M : IM} {pl W T S D : Nat} (hC : CR X M pl W T S D) (h : HR X M S D) (hA : AR X 17 (M 130) S D) (x : Int32) (hx : b01 x) : slV X pl = slVm M ∧ AR (slX X pl x) 17 (slM M x 130) S D ∧ HR (slX X pl x) (slM M x) S D := by
  have hS : S ≤ 5 := hC.2.2.2.2.2.2.2.2.1
  have hic := ic_eq hC.1 hC.2.1
  have h3 : X 17 3 = M 130 3 := hA.1 3 (by omega)
  have eg : (if x = 0 then (0 : Int32) else 1) = x := by
    rcases hx with z | z
    · rw [if_pos z, z]
    · rw [if_neg (by rw [z]; decide), z]
  unfold slV slVm slX slM
  rw [hic, eg, h3]
  cases decide (0 < X pl 0) with
  | false => exact ⟨rfl, hA, h⟩
  | true =>
    simp only [Bool.true_eq_false, if_false]
    refine ⟨?_, deed1 hS h hA (by omega) (fun _ => hx) (fun z => absurd z (by omega))⟩
    rcases hA.2.2.1.1 with z | z
    · rw [if_pos z, z]
    · rw [if_neg (by rw [z]; decide), z]
/-- make -/
theorem mk_sim {X M : IM} {pl W T S D : Nat} (hC : CR X M pl W T S D) (h : HR X M S D) (hA : AR X 17 (M 130) S D) (x : Int32) : mkV X pl x = mkVm M x ∧ AR (mkX X pl x) 17 (mkM M x 130) S D ∧ HR (mkX X pl x) (mkM M x) S D := by
  have hS : S ≤ 5 := hC.2.2.2.2.2.2.2.2.1
  have hl := lf_eq hC
  have h4 : X 17 4 = M 130 4 := hA.1 4 (by omega)
  have h3 : X 17 3 = M 130 3 := hA.1 3 (by omega)
  have h2 : X 17 2 = M 130 2 := hA.1 2 (by omega)
  have hb := hA.2.1
  obtain ⟨a1, a2, a3, b1, b2, b3, -, -, -, -, -, -, -, -, -, -, -, d, -⟩ := id hC
  unfold mkV mkVm mkX mkM
  rw [hl, b2, show X pl 2 = nI T from b1, h4]
  cases q : inB x 0 (nI T - 1) with
  | false => exact ⟨rfl, hA, h⟩
  | true =>
    obtain ⟨j, hj, rfl⟩ := inB_nat q (by omega)
    have e : cmB X pl (nI j) = cbB M (nI j) := by
      unfold cmB cbB shM
      rw [show X pl 2 = nI T from b1, q, h2, h3, h4, tn_nI (by omega), (d j hj).2.1, Bool.true_and]
      rcases hb with z | z
      · rw [z]
        cases hasB (M 130 4) (nI j) <;> rfl
      · rw [z]
        cases hasB (M 130 4) (nI j) <;> rfl
    simp only [Bool.true_eq_false, if_false]
    rw [e]
    cases cbB M (nI j) with
    | false => exact ⟨rfl, hA, h⟩
    | true =>
      simp only [Bool.true_eq_false, if_false]
      exact ⟨trivial, deed1 hS h hA (by omega) (fun z => absurd z (by omega)) (fun z => absurd z (by omega))⟩
/-- smash -/
theorem sm_sim {X M : IM} {pl W T S D : Nat} (hC : CR X M pl W T S D) (h : HR X M S D) (hA : AR X 17 (M 130) S D) : smV X pl = smVm M ∧ AR (smX X pl) 17 (smM M 130) S D ∧ HR (smX X pl) (smM M) S D := by
  have hS : S ≤ 5 := hC.2.2.2.2.2.2.2.2.1
  have h1 : X 17 1 = M 130 1 := hA.1 1 (by omega)
  have h2 : X 17 2 = M 130 2 := hA.1 2 (by omega)
  have hW := hC.1
  have hW8 := hC.2.2.1
  have hz := hC.2.2.2.2.2.2.2.2.2.2.2.2.2.2.1
  unfold smV smVm smX smM
  rw [h1, h2, hW]
  by_cases q : M 130 2 = 0
  · simp only [if_pos q]
    refine ⟨?_, ?_, ?_⟩
    · split <;> rfl
    · rw [ite_self]
      exact hA
    · rw [ite_self]
      exact h
  · have hWp : 0 < W := by
      apply Nat.pos_of_ne_zero
      intro z
      exact q (hA.2.2.1.2 (hz z).2.2)
    have e : decide (0 < nI W) = true := decide_eq_true ((nI_ltI (a := 0) (by omega) (by omega)).mpr hWp)
    rw [e]
    simp only [if_neg q, Bool.true_eq_false, if_false]
    exact ⟨trivial, deed1 hS h hA (by omega) (fun _ => Or.inl rfl) (fun _ _ => rfl)⟩
