theorem sh_bI {s : Int32} {k : Nat} (hk : k < 32) : ((s >>> (nI k &&& 31)) &&& 1) = bI (hasB s (nI k)) := by
  have e : ((s >>> (nI k &&& 31)) &&& 1).toBitVec = BitVec.setWidth 32 (BitVec.ofBool (s.toBitVec.getLsbD k)) := by
    rw [Int32.toBitVec_and, Int32.toBitVec_shiftRight, BitVec.sshiftRight', sh_k ⟨k, hk⟩]
    show s.toBitVec.sshiftRight k &&& 1#32 = _
    rw [BitVec.and_one_eq_setWidth_ofBool_getLsbD, BitVec.getLsbD_sshiftRight]
    congr 2
    rw [Nat.add_zero, if_pos hk]
    rfl
  rw [hasB_bit hk]
  apply Int32.toBitVec_inj.mp
  rw [e]
  cases s.toBitVec.getLsbD k <;> rfl
theorem CR.Dpos {X M : IM} {pl W T S D : Nat} (hC : CR X M pl W T S D) (hS : 0 < S) : 1 ≤ D := by
  have hz := hC.2.2.2.2.2.2.2.2.2.2.2.2.2.2.1
  have hd := hC.2.2.2.2.2.2.2.2.2.2.2.2.2.2.2.1
  apply hd
  apply Nat.pos_of_ne_zero
  intro z
  have := (hz z).2.1
  omega
/-- hire -/
theorem hi_sim {X M : IM} {pl W T S D : Nat} (hC : CR X M pl W T S D) (h : HR X M S D) (hA : AR X 17 (M 130) S D) (x is : Int32) : hiV X pl x = hiVm M x ∧ AR (hiX X pl x is) 17 (hiM M x is 130) S D ∧ HR (hiX X pl x is) (hiM M x is) S D := by
  have hS : S ≤ 5 := hC.2.2.2.2.2.2.2.2.1
  have s1 : X pl 6 = nI S := hC.2.2.2.2.2.2.1
  have s2 : M 122 2 = nI S := hC.2.2.2.2.2.2.2.1
  have h5 : X 17 5 = M 130 5 := hA.1 5 (by omega)
  unfold hiV hiVm hiX hiM
  rw [s1, s2, h5]
  cases q : inB x 0 (nI S - 1) with
  | false => exact ⟨rfl, hA, h⟩
  | true =>
    obtain ⟨j, hj, rfl⟩ := inB_nat q (by omega)
    have hD := hC.Dpos (by omega)
    have h04 : inB (nI j) 0 4 = true := inB_iff.mpr ⟨nI_le (a := 0) (by omega) (by omega), nI_le (b := 4) (by omega) (by omega)⟩
    simp only [Bool.true_eq_false, if_false]
    refine ⟨(sh_bI (by omega)).symm, ?_, ?_⟩
    · unfold shX hrM
      rw [if_pos h04, tn_nI (by omega)]
      have e5 : rmX X 17 5 = ntM M 130 5 := (hA.rem hS).1 5 (by omega)
      rw [e5]
      have k1 := (hA.rem hS).set (j := 5) (v := hrV (ntM M 130 5) (nI j) is) (by omega) (fun z => absurd z (by omega)) (fun z => absurd z (by omega))
      have k2 := k1.setS (s := j) (i := 3) (v := 0) hj (by omega) (fun _ => ⟨0, rfl, by omega⟩)
      rw [st_fun, st_fun]
      exact k2
    · have hr := rm_sim hS h hA
      unfold shX hrM
      rw [if_pos h04]
      refine hr.congr hS (fun r g1 g2 => ?_) ?_ ?_
      · rw [st_row (by omega), st_row (by omega)]
      · rw [st_row (by decide), st_row (by decide)]
      · rw [st_row (by decide), st_row (by decide)]
