section CALLS2
variable {im : IM} {pl it : Nat}
theorem fc_make (hE : HE im) {x : Int32} : FX P1 im (mkX im pl x) := by
  unfold mkX
  split
  · exact FX.rfl'
  · split
    · exact FX.rfl'
    · exact (FX_rm hE (fun r j p => by unfold P1 at p; omega)).trans (FX_st (by unfold P1; omega))
theorem fm_make {x : Int32} : FX Q1 im (mkM im x) := by
  unfold mkM
  split
  · exact FX.rfl'
  · split
    · exact FX.rfl'
    · exact (FX_nt (fun r j p => by unfold Q1 at p; omega)).trans (FX_st (by unfold Q1; omega))
theorem hz_make (hE : HE im) (hz : HZ im) {x : Int32} : HZ (mkX im pl x) := by
  unfold mkX
  split
  · exact hz
  · split
    · exact hz
    · exact HZ_st (HZ_rm hz hE) (fun _ z => absurd z (by omega))
theorem k_make (h : Rel im im pl it) (x : Int32) : Call YX8_make YX9_make 3 2 [.int x] im pl it :=
  deed1_of h (fc_make h.he) fm_make (hz_make h.he h.hz) (c_make h.ca h.he h.hz x) (fun h1 => m_make h1.ma h1.hdm x) (fun W T S D hC hA hR => mk_sim hC hR hA x)
theorem fc_seal (hE : HE im) {x : Int32} : FX P1 im (slX im pl x) := by
  unfold slX
  split
  · exact FX.rfl'
  · exact (FX_rm hE (fun r j p => by unfold P1 at p; omega)).trans (FX_st (by unfold P1; omega))
theorem fm_seal {x : Int32} : FX Q1 im (slM im x) := by
  unfold slM
  split
  · exact FX.rfl'
  · exact (FX_nt (fun r j p => by unfold Q1 at p; omega)).trans (FX_st (by unfold Q1; omega))
theorem hz_seal (hE : HE im) (hz : HZ im) {x : Int32} (hx : b01 x) : HZ (slX im pl x) := by
  unfold slX
  split
  · exact hz
  · exact HZ_st (HZ_rm hz hE) (fun _ _ => hx)
theorem k_seal (h : Rel im im pl it) (x : Int32) (hx : b01 x) : Call YX8_seal YX9_seal 2 2 [.int x] im pl it :=
  deed1_of h (fc_seal h.he) fm_seal (hz_seal h.he h.hz hx) (c_seal h.ca h.he h.hz x hx) (fun h1 => m_seal h1.ma h1.hdm x) (fun W T S D hC hA hR => sl_sim hC hR hA x hx)
theorem fc_smash (hE : HE im) : FX P1 im (smX im pl) := by
  unfold smX
  split
  · exact FX.rfl'
  · split
    · exact FX.rfl'
    · exact (FX_rm hE (fun r j p => by unfold P1 at p; omega)).trans (FX_st (by unfold P1; omega))
theorem fm_smash : FX Q1 im (smM im) := by
  unfold smM
  split
  · exact FX.rfl'
  · exact (FX_nt (fun r j p => by unfold Q1 at p; omega)).trans (FX_st (by unfold Q1; omega))
theorem hz_smash (hE : HE im) (hz : HZ im) : HZ (smX im pl) := by
  unfold smX
  split
  · exact hz
  · split
    · exact hz
    · exact HZ_st (HZ_rm hz hE) (fun _ _ => Or.inl rfl)
theorem k_smash (h : Rel im im pl it) : Call YX8_smash YX9_smash 2 2 [] im pl it :=
  deed1_of h (fc_smash h.he) fm_smash (hz_smash h.he h.hz) (c_smash h.ca h.he h.hz) (fun h1 => m_smash h1.ma h1.hdm) (fun W T S D hC hA hR => sm_sim hC hR hA)
theorem fc_hire (hE : HE im) {x is : Int32} : FX P1 im (hiX im pl x is) := by
  unfold hiX
  split
  · exact FX.rfl'
  · exact (FX_rm hE (fun r j p => by unfold P1 at p; omega)).trans (FX_sh (fun r j p => by unfold P1 at p; omega))
theorem fm_hire {x is : Int32} : FX Q1 im (hiM im x is) := by
  unfold hiM
  split
  · exact FX.rfl'
  · exact (FX_nt (fun r j p => by unfold Q1 at p; omega)).trans (FX_hr (fun r j p => by unfold Q1 at p; omega))
theorem hz_hire (hE : HE im) (hz : HZ im) {x is : Int32} : HZ (hiX im pl x is) := by
  unfold hiX
  split
  · exact hz
  · exact HZ_sh (HZ_rm hz hE)
theorem k_hire (h : Rel im im pl it) (x is : Int32) : Call YX8_hire YX9_hire 2 2 [.int x, .int is] im pl it :=
  deed1_of h (fc_hire h.he) fm_hire (hz_hire h.he h.hz) (c_hire h.ca h.he h.hz x is) (fun h1 => m_hire h1.ma h1.hdm x is) (fun W T S D hC hA hR => hi_sim hC hR hA x is)
theorem fc_buy (hE : HE im) {x w m : Int32} : FX P1 im (byX im pl x w m) := by
  unfold byX
  split
  · exact FX.rfl'
  · split
    · exact FX.rfl'
    · split
      · exact FX.rfl'
      · split
        · exact FX.rfl'
        · split
          · exact ((FX_rm hE (fun r j p => by unfold P1 at p; omega)).trans (FX_st (by unfold P1; omega))).trans (FX_gi (fun r j p => by unfold P1 at p; omega))
          · exact FX.rfl'
theorem fm_buy {x w m : Int32} : FX Q1 im (byM im x w m) := by
  unfold byM
  split
  · exact FX.rfl'
  · split
    · exact FX.rfl'
    · split
      · exact FX.rfl'
      · split
        · exact FX.rfl'
        · split
          · exact ((FX_nt (fun r j p => by unfold Q1 at p; omega)).trans (FX_st (by unfold Q1; omega))).trans (FX_ge (fun r j p => by unfold Q1 at p; omega))
          · exact FX.rfl'
theorem hz_buy (hE : HE im) (hz : HZ im) {x w m : Int32} : HZ (byX im pl x w m) := by
  unfold byX
  split
  · exact hz
  · split
    · exact hz
    · split
      · exact hz
      · split
        · exact hz
        · split
          · exact HZ_gi (HZ_st (HZ_rm hz hE) (fun z => absurd z nA_18))
          · exact hz
theorem k_buy (h : Rel im im pl it) (x w m : Int32) : Call YX8_buy YX9_buy 2 2 [.int x, .int w, .int m] im pl it :=
  deed1_of h (fc_buy h.he) fm_buy (hz_buy h.he h.hz) (c_buy h.ca h.he h.hz x w m) (fun h1 => m_buy h1.ma h1.hdm x w m) (fun W T S D hC hA hR => by_sim hC hR hA x w m)
theorem fc_day (hE : HE im) {x : Int32} : FX P1 im (dyX im pl x) := by
  unfold dyX
  split
  · exact (FX_rm hE (fun r j p => by unfold P1 at p; omega)).trans (FX_itD (fun r j p => by unfold P1 at p; omega) _)
  · exact FX.rfl'
theorem fm_day {x : Int32} : FX Q1 im (dyM im x) := by
  unfold dyM
  split
  · exact (FX_nt (fun r j p => by unfold Q1 at p; omega)).trans (FX_itM (fun r j p => by unfold Q1 at p; omega) _)
  · exact FX.rfl'
theorem hz_day (hE : HE im) (hz : HZ im) {x : Int32} : HZ (dyX im pl x) := by
  unfold dyX
  split
  · exact HZ_itD (HZ_rm hz hE) _
  · exact hz
theorem k_day (h : Rel im im pl it) (x : Int32) : Call YX8_day YX9_day 3 2 [.int x] im pl it :=
  deed1_of h (fc_day h.he) fm_day (hz_day h.he h.hz) (c_day h.ca h.he h.hz x) (fun h1 => m_day h1.ma h1.hdm x) (fun W T S D hC hA hR => dy_sim h.1 hC hR hA x)
theorem fc_undo : FX P1 im (rcX im) := by
  unfold rcX
  split
  · exact FX.rfl'
  · exact ((FX_st (by unfold P1; omega)).trans (FX_st (by unfold P1; omega))).trans (FX_cp (fun r j p => by unfold P1 at p; omega))
theorem fm_undo : FX Q1 im (unM im) := by
  unfold unM
  split
  · exact FX.rfl'
  · exact (FX_st (by unfold Q1; omega)).trans (FX_cy (fun r j p => by unfold Q1 at p; omega))
theorem hz_undo (hE : HE im) (hz : HZ im) : HZ (rcX im) := by
  obtain ⟨e, h1, h2⟩ := hE
  unfold rcX
  split
  · exact hz
  · refine HZ_cp (HZ_st (HZ_st hz (fun z => absurd z nA_21)) (fun z => absurd z nA_21)) isA_17q (isA_pastq (Nat.mod_lt _ (by decide)))
theorem k_undo (h : Rel im im pl it) : Call YX8_undo YX9_undo 2 1 [] im pl it :=
  deed1_of h fc_undo fm_undo (hz_undo h.he h.hz) (c_undo h.ca h.he h.hz) (fun h1 => m_undo h1.hdm) (fun W T S D hC hA hR => by
    obtain ⟨a, b, c⟩ := un_sim hC.2.2.2.2.2.2.2.2.1 hR hA
    exact ⟨c, b, a⟩)
theorem fc_drift (hE : HE im) {x : Int32} : FX P2 im (dfX im pl x) := by
  unfold dfX
  split
  · exact (FX_rm hE (fun r j p => by unfold P2 at p; omega)).trans (FX_itV (fun r j p => by unfold P2 at p; omega) _)
  · exact FX.rfl'
theorem fm_drift {x : Int32} : FX Q2 im (dfM im x) := by
  unfold dfM
  split
  · exact (FX_nt (fun r j p => by unfold Q2 at p; omega)).trans (FX_itW (fun r j p => by unfold Q2 at p; omega) _)
  · exact FX.rfl'
theorem hz_drift (hE : HE im) (hz : HZ im) {x : Int32} : HZ (dfX im pl x) := by
  unfold dfX
  split
  · exact HZ_itV (HZ_rm hz hE) _
  · exact hz
theorem k_drift (h : Rel im im pl it) (x : Int32) : Call YX8_drift YX9_drift 4 2 [.int x] im pl it :=
  deed2_of h (fc_drift h.he) fm_drift (hz_drift h.he h.hz) (c_drift h.ca h.he h.hz x) (fun h1 => m_drift h1.ma h1.hdm x) (fun W T S D hC hA hR hd => df_sim h.1 hC hR hA hd x)
theorem fc_keep {x : Int32} : FX P3 im (kpX im x) := by
  unfold kpX
  cases q : inB x 0 1 with
  | false => exact FX.rfl'
  | true =>
    obtain ⟨k, hk, rfl⟩ := nI_of_in q (cI 1) (by decide)
    rw [tn_nI (by omega)]
    simp only [Bool.true_eq_false, if_false]
    exact (((FX_st (by unfold P3; omega)).trans (FX_cp (fun r j p => by unfold P3 at p; omega))).trans (FX_st (by unfold P3; omega))).trans (FX_st (by unfold P3; omega))
theorem fm_keep {x : Int32} : FX Q3 im (kpM im x) := by
  unfold kpM
  split
  · exact FX.rfl'
  · exact (((FX_cy (fun r j p => by unfold Q3 at p; omega)).trans (FX_st (by unfold Q3; omega))).trans (FX_st (by unfold Q3; omega))).trans (FX_st (by unfold Q3; omega))
theorem hz_keep (hz : HZ im) {x : Int32} : HZ (kpX im x) := by
  unfold kpX
  cases q : inB x 0 1 with
  | false => exact hz
  | true =>
    obtain ⟨k, hk, rfl⟩ := nI_of_in q (cI 1) (by decide)
    rw [tn_nI (by omega)]
    simp only [Bool.true_eq_false, if_false]
    have n0 : ¬ isA (110 + 5 * k) := fun z => by have := isA_mod z; omega
    exact HZ_st (HZ_st (HZ_cp (HZ_st hz (fun z => absurd z n0)) (isA_img (by omega)) isA_17q) (fun z => absurd z n0)) (fun z => absurd z nA_21)
theorem k_keep (h : Rel im im pl it) (x : Int32) : Call YX8_keep YX9_keep 1 1 [.int x] im pl it :=
  deed3_of h fc_keep fm_keep (hz_keep h.hz) (c_keep h.hz x) (fun h1 => m_keep x) (fun W T S D hC hA hR hI hd => by
    obtain ⟨a, b, c, d⟩ := kp_sim hC.2.2.2.2.2.2.2.2.1 hR hA hd hI x
    exact ⟨rfl, a, b, d, c⟩)
theorem fc_goBack {x : Int32} : FX P3 im (gbX im x) := by
  unfold gbX
  split
  · exact FX.rfl'
  · split
    · exact FX.rfl'
    · exact ((FX_cp (fun r j p => by unfold P3 at p; omega)).trans (FX_st (by unfold P3; omega))).trans (FX_st (by unfold P3; omega))
theorem fm_goBack {x : Int32} : FX Q3 im (gbM im x) := by
  unfold gbM
  split
  · exact FX.rfl'
  · split
    · exact FX.rfl'
    · exact ((FX_cy (fun r j p => by unfold Q3 at p; omega)).trans (FX_st (by unfold Q3; omega))).trans (FX_st (by unfold Q3; omega))
theorem hz_goBack (hz : HZ im) {x : Int32} : HZ (gbX im x) := by
  unfold gbX
  cases q : inB x 0 1 with
  | false => exact hz
  | true =>
    obtain ⟨k, hk, rfl⟩ := nI_of_in q (cI 1) (by decide)
    rw [tn_nI (by omega)]
    simp only [Bool.true_eq_false, if_false]
    split
    · exact hz
    · exact HZ_st (HZ_st (HZ_cp hz isA_17q (isA_img (by omega))) (fun z => absurd z nA_108)) (fun z => absurd z nA_21)
theorem k_goBack (h : Rel im im pl it) (x : Int32) : Call YX8_goBack YX9_goBack 1 1 [.int x] im pl it :=
  deed3_of h fc_goBack fm_goBack (hz_goBack h.hz) (c_goBack h.hz x) (fun h1 => m_goBack x) (fun W T S D hC hA hR hI hd => by
    obtain ⟨e, a, b, c, d⟩ := gb_sim hC.2.2.2.2.2.2.2.2.1 hR hA hd hI x
    exact ⟨e, a, b, d, c⟩)
def PU (r _ : Nat) : Prop := 3 ≤ r ∧ (r < 103 ∨ 108 < r)
def QU (r j : Nat) : Prop := r ≠ 121 ∧ r ≠ 135 ∧ r ≠ 136 ∧ (r = 120 → j = 13)
theorem k_feed (h : Rel im im pl it) (x : Int32) : Call YX8_feed YX9_feed 1 1 [.int x] im pl it := by
  have fc : FX (fun r _ => 3 ≤ r) im (fdX im x) := by
    unfold fdX
    split
    · exact FX.rfl'
    · split
      · exact (FX_st (by omega)).trans (FX_st (by omega))
      · exact FX.rfl'
  have h1 : Rel im (fdX im x) pl it := h.congr (fun _ _ => rfl) (fun r hr => fc.row (fun j => by omega))
  have fm : FX (fun r j => r ≠ 121 ∧ (r = 120 → j ≠ 1)) (fdX im x) (fdM (fdX im x) x) := by
    unfold fdM
    split
    · exact FX.rfl'
    · split
      · exact FX.rfl'
      · exact (FX_st (fun z => z.1 rfl)).trans (FX_st (fun z => z.2 rfl rfl))
  obtain ⟨-, -, -, -, hT, hH, hB, hD, -⟩ := id h1
  have s := fd_sim hT x
  refine deed_of (c_feed h.hl x) (m_feed h1.hlm x) s.1 (h1.upd (fc.mono (fun r j p => p.1)) (fm.mono (fun r j p => ⟨p.1, fun z => by have := p.2.2.2 z; omega⟩)) s.2 ?_ ?_ ?_) (fun r hr => fm.row (fun j => by omega))
  · exact hH.congr (fc.row (fun _ => by omega)) (fc.row (fun _ => by omega)) (fc.row (fun _ => by omega)) (fm 120 19 (by omega)) (fm.row (fun _ => by omega))
  · exact hB.congr (fc.row (fun _ => by omega)) (fc.row (fun _ => by omega)) (fm 120 21 (by omega)) (fm.row (fun _ => by omega))
  · exact hD.congr (fc.row (fun _ => by omega)) (fm 120 17 (by omega))
theorem k_hear (h : Rel im im pl it) (x g : Int32) (hg : b01 g) : Call YX8_hear YX9_hear 1 1 [.int x, .int g] im pl it := by
  obtain ⟨im1, e1⟩ : ∃ im1, im1 = (if inB x 0 59 = false then im else if decide (0 < im pl 0) = false then im else hsX im x g) := ⟨_, rfl⟩
  have fc : FX (fun r _ => r < 103 ∨ 105 < r) im im1 := by
    rw [e1]
    split
    · exact FX.rfl'
    · split
      · exact FX.rfl'
      · unfold hsX
        split
        · exact ((FX_st (by omega)).trans (FX_st (by omega))).trans (FX_st (by omega))
        · exact FX.rfl'
  have h1 : Rel im im1 pl it := h.congr (fun _ _ => rfl) (fun r hr => fc.row (fun j => by omega))
  have fm : FX (fun r j => r ≠ 135 ∧ (r = 120 → j ≠ 19)) im1 (heM im1 x g) := by
    unfold heM
    split
    · exact FX.rfl'
    · split
      · exact FX.rfl'
      · split
        · exact FX.rfl'
        · exact ((FX_st (fun z => z.1 rfl)).trans (FX_st (fun z => z.1 rfl))).trans (FX_st (fun z => z.2 rfl rfl))
  obtain ⟨-, -, -, -, hT, hH, hB, hD, W, T, S, D, hC, -⟩ := id h1
  have s := he_sim hC.2.2.1 hC.1 hC.2.1 hH x g hg
  have hc := c_hear (it := it) h.ca h.hh x g hg
  rw [← e1] at hc s
  refine deed_of hc (m_hear h1.ma h1.hhm x g) s.1 (h1.upd (fc.mono (fun r j p => by omega)) (fm.mono (fun r j p => ⟨p.2.1, fun z => by have := p.2.2.2 z; omega⟩)) ?_ s.2 ?_ ?_) (fun r hr => fm.row (fun j => by omega))
  · exact hT.congr (fc.row (fun _ => by omega)) (fc.row (fun _ => by omega)) (fc.row (fun _ => by omega)) (fm.row (fun _ => by omega)) (fm 120 1 (by omega)) (fm 120 2 (by omega))
  · exact hB.congr (fc.row (fun _ => by omega)) (fc.row (fun _ => by omega)) (fm 120 21 (by omega)) (fm.row (fun _ => by omega))
  · exact hD.congr (fc.row (fun _ => by omega)) (fm 120 17 (by omega))
theorem k_write (h : Rel im im pl it) (x : Int32) : Call YX8_write YX9_write 2 2 [.int x] im pl it := by
  obtain ⟨im1, e1⟩ : ∃ im1, im1 = (if decide (x &&& (alS (im pl 0) ^^^ (-1)) = 0) = false then im else bkX im x) := ⟨_, rfl⟩
  have fc : FX (fun r _ => r < 106 ∨ 107 < r) im im1 := by
    rw [e1]
    split
    · exact FX.rfl'
    · unfold bkX
      split
      · exact (FX_st (by omega)).trans (FX_st (by omega))
      · exact FX.rfl'
  have h1 : Rel im im1 pl it := h.congr (fun _ _ => rfl) (fun r hr => fc.row (fun j => by omega))
  have fm : FX (fun r j => r ≠ 136 ∧ (r = 120 → j ≠ 21)) im1 (wrM im1 x) := by
    unfold wrM
    split
    · exact FX.rfl'
    · split
      · exact FX.rfl'
      · exact (FX_st (fun z => z.1 rfl)).trans (FX_st (fun z => z.2 rfl rfl))
  obtain ⟨-, -, -, -, hT, hH, hB, hD, W, T, S, D, hC, -⟩ := id h1
  have s := wr_sim hC.2.2.1 hC.1 hC.2.1 hB x
  have hc := c_write (it := it) h.ca h.hb x
  rw [← e1] at hc s
  refine deed_of hc (m_write h1.ma h1.hbm x) s.1 (h1.upd (fc.mono (fun r j p => by omega)) (fm.mono (fun r j p => ⟨p.2.2.1, fun z => by have := p.2.2.2 z; omega⟩)) ?_ ?_ s.2 ?_) (fun r hr => fm.row (fun j => by omega))
  · exact hT.congr (fc.row (fun _ => by omega)) (fc.row (fun _ => by omega)) (fc.row (fun _ => by omega)) (fm.row (fun _ => by omega)) (fm 120 1 (by omega)) (fm 120 2 (by omega))
  · exact hH.congr (fc.row (fun _ => by omega)) (fc.row (fun _ => by omega)) (fc.row (fun _ => by omega)) (fm 120 19 (by omega)) (fm.row (fun _ => by omega))
  · exact hD.congr (fc.row (fun _ => by omega)) (fm 120 17 (by omega))
theorem k_tear (h : Rel im im pl it) : Call YX8_tear YX9_tear 0 0 [] im pl it := by
  have fc : FX (fun r j => ¬ (r = 103 ∧ j = 2) ∧ ¬ (r = 106 ∧ j = 1)) im (st (st im 103 2 0) 106 1 0) := (FX_st (by omega)).trans (FX_st (by omega))
  generalize e1 : st (st im 103 2 0) 106 1 0 = im1 at *
  have h1 : Rel im im1 pl it := h.congr (fun _ _ => rfl) (fun r hr => fc.row (fun j => by omega))
  have fm : FX (fun r j => (r = 120 → j ≠ 19 ∧ j ≠ 21)) im1 (st (st im1 120 19 0) 120 21 0) := (FX_st (fun z => (z rfl).1 rfl)).trans (FX_st (fun z => (z rfl).2 rfl))
  obtain ⟨-, -, -, -, hT, hH, hB, hD, -⟩ := id h1
  have s := tr_sim hH hB
  have hc := c_tear (im := im) (pl := pl) (it := it)
  rw [e1] at hc s
  refine deed_of hc (m_tear) s.1 (h1.upd (fc.mono (fun r j p => by omega)) (fm.mono (fun r j p => fun z => by have := p.2.2.2 z; omega)) ?_ s.2.1 s.2.2 ?_) (fun r hr => fm.row (fun j => by omega))
  · exact hT.congr (fc.row (fun _ => by omega)) (fc.row (fun _ => by omega)) (fc.row (fun _ => by omega)) (fm.row (fun _ => by omega)) (fm 120 1 (by omega)) (fm 120 2 (by omega))
  · exact hD.congr (fc.row (fun _ => by omega)) (fm 120 17 (by omega))
theorem k_seed (h : Rel im im pl it) (x : Int32) : Call YX8_seed YX9_seed 0 0 [.int x] im pl it := by
  obtain ⟨im1, e1⟩ : ∃ im1, im1 = (if 0 ≤ x then st im 108 0 x else im) := ⟨_, rfl⟩
  have fc : FX (fun r _ => r ≠ 108) im im1 := by
    rw [e1]
    split
    · exact FX_st (by omega)
    · exact FX.rfl'
  have h1 : Rel im im1 pl it := h.congr (fun _ _ => rfl) (fun r hr => fc.row (fun j => by omega))
  have fm : FX (fun r j => (r = 120 → j ≠ 17)) im1 (if 0 ≤ x then st im1 120 17 x else im1) := by
    split
    · exact FX_st (fun z => z rfl rfl)
    · exact FX.rfl'
  obtain ⟨-, -, -, -, hT, hH, hB, hD, -⟩ := id h1
  have s := sd_sim hD x
  have hc := c_seed (im := im) (pl := pl) (it := it) x
  rw [← e1] at hc s
  refine deed_of hc (m_seed x) s.1 (h1.upd (fc.mono (fun r j p => by omega)) (fm.mono (fun r j p => fun z => by have := p.2.2.2 z; omega)) ?_ ?_ ?_ s.2) (fun r hr => fm.row (fun j => by omega))
  · exact hT.congr (fc.row (fun _ => by omega)) (fc.row (fun _ => by omega)) (fc.row (fun _ => by omega)) (fm.row (fun _ => by omega)) (fm 120 1 (by omega)) (fm 120 2 (by omega))
  · exact hH.congr (fc.row (fun _ => by omega)) (fc.row (fun _ => by omega)) (fc.row (fun _ => by omega)) (fm 120 19 (by omega)) (fm.row (fun _ => by omega))
  · exact hB.congr (fc.row (fun _ => by omega)) (fc.row (fun _ => by omega)) (fm 120 21 (by omega)) (fm.row (fun _ => by omega))
theorem XG.hi {it : Nat} {X X' : IM} (hI : isC it) (h : XG it X X') {r : Nat} (hr : 120 ≤ r) : X' r = X r := h.1 r (by omega) (by rcases hI with rfl | rfl <;> omega)
theorem k_castle (h : Rel im im pl it) : Call YX8_castle YX9_castle 6 6 [] im pl it := by
  have hc := c_castle h.2.1 h.1 h.hl
  have hi : isC it := h.2.1
  have i6 : it + 6 < 17 ∧ 3 ≤ it := by rcases hi with rfl | rfl <;> omega
  have hx : XG it im (csU im it).2 := XG.tx
  by_cases q : (csU im it).1 = 0
  · rw [if_pos q] at hc
    obtain ⟨im1, e1⟩ : ∃ im1, im1 = bnX (st (csU im it).2 0 0 (-1)) it := ⟨_, rfl⟩
    have h1 : Rel im im1 pl it := h.congr (fun _ _ => rfl) (fun r hr => by rw [e1, bnX_row (by omega) (by omega) (by omega) (by omega) (by omega) (by omega), st_row (by omega), hx.hi hi hr])
    rcases cs_sim h1 with ⟨a1, a2, a3, a4⟩ | ⟨a1, a2, -⟩
    · rw [← e1] at hc a3 a4
      have hm := m_castle (im := im1) (pl := it) (it := pl) h1.hlm
      have ev : zcV im1 = im1 it 0 := by
        unfold zcV
        rw [if_pos a2, a4]
      have em : zcM im1 = zL (zB im1) := by
        unfold zcM
        rw [if_pos a2]
      rw [ev, em] at hm
      refine ⟨im1 it 0, im1, it, pl, zL (zB im1), hc, hm, a3.congr (fun r hr => ?_) (fun _ _ => rfl)⟩
      rw [zL_row (by omega) (by omega) (by omega), zE_row (by omega), zD_row (by omega), zC_row (by omega), ZF.zb.1 r (by omega) (by omega)]
    · exact absurd (a2.symm.trans q) a1
  · rw [if_neg q] at hc
    obtain ⟨im1, e1⟩ : ∃ im1, im1 = st (csU im it).2 0 0 ((csU im it).2 1 9) := ⟨_, rfl⟩
    have h1 : Rel im im1 pl it := h.congr (fun _ _ => rfl) (fun r hr => by rw [e1, st_row (by omega), hx.hi hi hr])
    rcases cs_sim h1 with ⟨a1, -⟩ | ⟨a1, a2, a3⟩
    · exact absurd a1 q
    · rw [← e1] at hc a3
      have hm := m_castle (im := im1) (pl := pl) (it := it) h1.hlm
      have ev : zcV im1 = -10 - (csU im it).1 := by
        unfold zcV
        rw [if_neg a1, a2]
      have em : zcM im1 = zC (zB im1) := by
        unfold zcM
        rw [if_neg a1]
      rw [ev, em] at hm
      refine ⟨_, im1, pl, it, zC (zB im1), hc, hm, a3.congr (fun r hr => ?_) (fun _ _ => rfl)⟩
      rw [zC_row (by omega), ZF.zb.1 r (by omega) (by omega)]
end CALLS2
