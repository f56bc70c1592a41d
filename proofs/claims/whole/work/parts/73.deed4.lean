/-- what stays -/
def FX (P : Nat → Nat → Prop) (X X' : IM) : Prop := ∀ r j, P r j → X' r j = X r j
section FXS
variable {P : Nat → Nat → Prop} {X X' X'' M : IM}
theorem FX.rfl' : FX P X X := fun _ _ _ => rfl
theorem FX.trans (h : FX P X X') (h' : FX P X' X'') : FX P X X'' := fun r j p => (h' r j p).trans (h r j p)
theorem FX.mono {Q : Nat → Nat → Prop} (h : FX P X X') (hq : ∀ r j, Q r j → P r j) : FX Q X X' := fun r j p => h r j (hq r j p)
theorem FX.row {r : Nat} (h : FX P X X') (hp : ∀ j, P r j) : X' r = X r := funext fun j => h r j (hp j)
theorem FX_st {k j : Nat} {v : Int32} (h : ¬ P k j) : FX P X (st X k j v) := fun r i p => by
  rw [st_ne]
  intro q
  rw [q.1, q.2] at p
  exact h p
theorem FX_cp {a b : Nat} (h : ∀ r j, P r j → r < a ∨ a + 3 < r) : FX P X (cpA X a b) := fun r j p => by rw [cpA_row (h r j p)]
theorem FX_rm (hE : HE X) (h : ∀ r j, P r j → r < 21 ∨ 103 ≤ r) : FX P X (rmX X) := fun r j p => by rw [rmX_row hE (h r j p)]
theorem FX_pd {c : Nat} (h : ∀ r j, P r j → r ≠ 17 ∧ r ≠ 19 ∧ r ≠ 20) : FX P X (pdX X c) := fun r j p => by rw [pdX_row (h r j p)]
theorem FX_itD {c : Nat} (h : ∀ r j, P r j → r ≠ 17 ∧ r ≠ 19 ∧ r ≠ 20) (t : Nat) : FX P X (itD c t X) := fun r j p => by rw [itD_row (h r j p)]
theorem FX_itV {c : Nat} (h : ∀ r j, P r j → r ≠ 108 ∧ r ≠ 17 ∧ r ≠ 20 ∧ r ≠ 19) (t : Nat) : FX P X (itV c t X) := fun r j p => by
  obtain ⟨a, b, c, d⟩ := h r j p
  rw [itV_row a b c d]
theorem FX_sh {s is : Int32} (h : ∀ r j, P r j → r ≠ 17 ∧ r ≠ 20) : FX P X (shX X s is) := fun r j p => by rw [shX_row (h r j p).1 (h r j p).2]
theorem FX_gi {s m : Int32} (h : ∀ r j, P r j → r ≠ 19) : FX P X (giX X s m) := fun r j p => by
  unfold giX
  split
  · rw [st_row (h r j p)]
  · rfl
theorem ntM_120q {j : Nat} (h : j ≠ 13) : ntM M 120 j = M 120 j := by
  unfold ntM
  split
  · rw [st_ne (by omega), cyT_row (by decide), st_ne (by omega)]
    unfold shT
    rw [if_neg (by omega)]
  · rw [st_ne (by omega), cyT_row (by decide)]
theorem FX_nt (h : ∀ r j, P r j → r ≠ 131 ∧ ¬ (r = 120 ∧ j = 13)) : FX P X (ntM X) := fun r j p => by
  by_cases q : r = 120
  · subst q
    exact ntM_120q (fun z => (h _ j p).2 ⟨rfl, z⟩)
  · rw [ntM_row (h r j p).1 q]
theorem FX_itM (h : ∀ r j, P r j → r ≠ 130) (t : Nat) : FX P X (itM t X) := fun r j p => by rw [itM_row (h r j p)]
theorem dwM_120 {j : Nat} (h : j ≠ 17) : dwM M 120 j = M 120 j := by
  unfold dwM hrM
  split
  · rw [st_row (by decide), st_ne (by omega)]
  · split
    · rw [st_row (by decide), st_row (by decide), st_ne (by omega)]
    · split
      · rw [st_row (by decide), st_ne (by omega)]
      · rw [st_ne (by omega)]
theorem FX_dwM (h : ∀ r j, P r j → r ≠ 130 ∧ ¬ (r = 120 ∧ j = 17)) : FX P X (dwM X) := fun r j p => by
  by_cases q : r = 120
  · subst q
    exact dwM_120 (fun z => (h _ j p).2 ⟨rfl, z⟩)
  · rw [dwM_row q (h r j p).1]
theorem FX_itW (h : ∀ r j, P r j → r ≠ 130 ∧ ¬ (r = 120 ∧ j = 17)) : ∀ t, FX P X (itW t X)
  | 0 => FX.rfl'
  | t + 1 => by
    refine ((FX_itW h t).trans (FX_dwM h)).trans (fun r j p => ?_)
    show psX (dwM (itW t X)) r j = _
    rw [psX_row (h r j p).1]
theorem FX_cy {f a t b n : Nat} (h : ∀ r j, P r j → r ≠ t) : FX P X (cyT X f a t b n) := fun r j p => by rw [cyT_row (h r j p)]
theorem FX_hr {s : Nat} {x is : Int32} (h : ∀ r j, P r j → r ≠ 130) : FX P X (hrM X s x is) := fun r j p => by
  unfold hrM
  rw [st_row (h r j p), st_row (h r j p)]
theorem FX_ge {s : Nat} {m : Int32} (h : ∀ r j, P r j → r ≠ 130) : FX P X (geM X s m) := fun r j p => by
  unfold geM
  rw [st_row (h r j p)]
end FXS
def P1 (r _ : Nat) : Prop := r < 17 ∨ 102 < r
def Q1 (r j : Nat) : Prop := ¬ (r = 130 ∨ r = 131 ∨ (r = 120 ∧ j = 13))
def P2 (r _ : Nat) : Prop := r < 17 ∨ (102 < r ∧ r ≠ 108)
def Q2 (r j : Nat) : Prop := ¬ (r = 130 ∨ r = 131 ∨ (r = 120 ∧ (j = 13 ∨ j = 17)))
def P3 (r _ : Nat) : Prop := r < 17 ∨ (102 < r ∧ r < 108) ∨ 120 ≤ r
def Q3 (r j : Nat) : Prop := ¬ ((130 ≤ r ∧ r ≤ 134) ∨ (r = 120 ∧ (j = 13 ∨ j = 17)))
theorem isA_mod {a : Nat} (h : isA a) : a = 17 ∨ (23 ≤ a ∧ a ≤ 99 ∧ a % 4 = 3) ∨ a = 111 ∨ a = 116 := by
  unfold isA affL at h
  simp only [List.mem_cons, List.not_mem_nil, or_false] at h
  omega
section HZS
variable {X : IM}
theorem HZ_st {k j : Nat} {v : Int32} (h : HZ X) (hv : isA k → j = 2 ∨ j = 3 → b01 v) : HZ (st X k j v) := by
  intro a ha
  have key : ∀ i, i = 2 ∨ i = 3 → b01 (st X k j v a i) := by
    intro i hi
    rw [st_at]
    split
    · next q => exact hv (q.1 ▸ ha) (by omega)
    · rcases hi with rfl | rfl
      · exact (h a ha).1
      · exact (h a ha).2
  exact ⟨key 2 (by omega), key 3 (by omega)⟩
theorem HZ_cp {a b : Nat} (h : HZ X) (ha : isA a) (hb : isA b) : HZ (cpA X a b) := by
  intro k hk
  have m1 := isA_mod ha
  have m2 := isA_mod hk
  have key : ∀ j, j < 6 → cpA X a b k j = X k j ∨ cpA X a b k j = X b j := by
    intro j hj
    rw [cpA_at]
    by_cases q : k = a
    · rw [if_pos ⟨q, hj⟩]
      exact Or.inr rfl
    · rw [if_neg (by omega), if_neg (by omega), if_neg (by omega), if_neg (by omega)]
      exact Or.inl rfl
  constructor
  · rcases key 2 (by omega) with z | z
    · rw [z]
      exact (h k hk).1
    · rw [z]
      exact (h b hb).1
  · rcases key 3 (by omega) with z | z
    · rw [z]
      exact (h k hk).2
    · rw [z]
      exact (h b hb).2
theorem isA_17q : isA 17 := by
  unfold isA affL
  decide
theorem isA_pastq {e : Nat} (h : e < 20) : isA (23 + 4 * e) := by
  have key : ∀ e : Fin 20, 23 + 4 * e.1 ∈ affL := by decide
  exact key ⟨e, h⟩
theorem nA_20 : ¬ isA 20 := fun z => by have := isA_mod z; omega
theorem nA_21 : ¬ isA 21 := fun z => by have := isA_mod z; omega
theorem nA_19 : ¬ isA 19 := fun z => by have := isA_mod z; omega
theorem nA_18 : ¬ isA 18 := fun z => by have := isA_mod z; omega
theorem nA_108 : ¬ isA 108 := fun z => by have := isA_mod z; omega
theorem HZ_rm (h : HZ X) (hE : HE X) : HZ (rmX X) := by
  obtain ⟨e, h1, h2⟩ := hE
  unfold rmX
  rw [h1, tn_nI (by omega)]
  exact HZ_st (HZ_st (HZ_cp h (isA_pastq h2) isA_17q) (fun z => absurd z nA_21)) (fun z => absurd z nA_21)
theorem HZ_pd {c : Nat} (h : HZ X) : HZ (pdX X c) := by
  intro a ha
  have hm := isA_mod ha
  have key : ∀ i, i = 2 ∨ i = 3 → pdX X c a i = X a i := by
    intro i hi
    unfold pdX pdT
    rw [if_neg (by omega), if_neg (by omega), if_neg (by omega), if_neg (by omega)]
  rw [key 2 (by omega), key 3 (by omega)]
  exact h a ha
theorem HZ_itD {c : Nat} (h : HZ X) : ∀ t, HZ (itD c t X)
  | 0 => h
  | t + 1 => HZ_pd (HZ_itD h t)
theorem HZ_sh {s is : Int32} (h : HZ X) : HZ (shX X s is) := by
  unfold shX
  split
  · exact HZ_st (HZ_st h (fun _ z => absurd z (by omega))) (fun z => absurd z nA_20)
  · exact h
theorem HZ_gi {s m : Int32} (h : HZ X) : HZ (giX X s m) := by
  unfold giX
  split
  · exact HZ_st h (fun z => absurd z nA_19)
  · exact h
theorem HZ_dw {pl : Nat} (h : HZ X) : HZ (dwX X pl) := by
  unfold dwX
  split
  · split
    · exact HZ_st (HZ_st h (fun z => absurd z nA_108)) (fun _ z => absurd z (by omega))
    · exact HZ_st h (fun z => absurd z nA_108)
  · split
    · exact HZ_sh (HZ_st h (fun z => absurd z nA_108))
    · split
      · refine HZ_st (HZ_st h (fun z => absurd z nA_108)) (fun _ _ => ?_)
        split
        · exact Or.inr rfl
        · exact Or.inl rfl
      · exact HZ_st h (fun z => absurd z nA_108)
theorem HZ_itV {pl : Nat} (h : HZ X) : ∀ t, HZ (itV pl t X)
  | 0 => h
  | t + 1 => HZ_pd (HZ_dw (HZ_itV h t))
end HZS
section DEEDS
variable {X M X' M' : IM} {pl it : Nat}
theorem Rel.deed (h : Rel X M pl it) (hx : FX P3 X X') (hm : FX Q3 M M') (hz : HZ X') (hd : DRR X' M') (k : ∀ W T S D, CR X M pl W T S D → AR X 17 (M 130) S D → HR X M S D → IR X M S D → AR X' 17 (M' 130) S D ∧ HR X' M' S D ∧ IR X' M' S D) : Rel X' M' pl it := by
  obtain ⟨hp, hi, hne, hZ, hT, hH, hB, hD, W, T, S, D, hC, hA, hR, hI⟩ := h
  have p6 : pl + 6 < 17 ∧ 3 ≤ pl := by rcases hp with rfl | rfl <;> omega
  have xr : ∀ r, P3 r 0 → X' r = X r := fun r p => hx.row (fun j => p)
  have mr : ∀ r, r ≠ 120 → (r < 130 ∨ 134 < r) → M' r = M r := fun r a b => hm.row (fun j => by unfold Q3; omega)
  have m0 : ∀ j, j ≠ 13 → j ≠ 17 → M' 120 j = M 120 j := fun j a b => hm 120 j (by unfold Q3; omega)
  obtain ⟨k1, k2, k3⟩ := k W T S D hC hA hR hI
  refine ⟨hp, hi, hne, hz, ?_, ?_, ?_, hd, W, T, S, D, ?_, k1, k2, k3⟩
  · exact hT.congr (xr _ (by unfold P3; omega)) (xr _ (by unfold P3; omega)) (xr _ (by unfold P3; omega)) (mr _ (by omega) (by omega)) (m0 _ (by omega) (by omega)) (m0 _ (by omega) (by omega))
  · exact hH.congr (xr _ (by unfold P3; omega)) (xr _ (by unfold P3; omega)) (xr _ (by unfold P3; omega)) (m0 _ (by omega) (by omega)) (mr _ (by omega) (by omega))
  · exact hB.congr (xr _ (by unfold P3; omega)) (xr _ (by unfold P3; omega)) (m0 _ (by omega) (by omega)) (mr _ (by omega) (by omega))
  · exact hC.congr (fun r g1 g2 => xr r (by unfold P3; omega)) (fun r g1 g2 => mr r (by omega) (by omega))
theorem Rel.upd (h : Rel X M pl it) (hx : FX (fun r _ => 3 ≤ r ∧ (r < 103 ∨ 108 < r)) X X') (hm : FX (fun r j => r ≠ 121 ∧ r ≠ 135 ∧ r ≠ 136 ∧ (r = 120 → j = 13)) M M') (hT : TXR X' M') (hH : HSR X' M') (hB : BKR X' M') (hD : DRR X' M') : Rel X' M' pl it := by
  obtain ⟨hp, hi, hne, hZ, -, -, -, -, W, T, S, D, hC, hA, hR, hI⟩ := h
  have p6 : pl + 6 < 17 ∧ 3 ≤ pl := by rcases hp with rfl | rfl <;> omega
  have hS : S ≤ 5 := hC.2.2.2.2.2.2.2.2.1
  have xr : ∀ r, 3 ≤ r → (r < 103 ∨ 108 < r) → X' r = X r := fun r a b => hx.row (fun j => ⟨a, b⟩)
  have mr : ∀ r, r ≠ 120 → r ≠ 121 → r ≠ 135 → r ≠ 136 → M' r = M r := fun r a b c d => hm.row (fun j => ⟨b, c, d, fun z => absurd z a⟩)
  refine ⟨hp, hi, hne, ?_, hT, hH, hB, hD, W, T, S, D, ?_, ?_, ?_, ?_⟩
  · exact hZ.congr (fun a ha => by have := isA_lo ha; exact xr a (by omega) (by omega))
  · exact hC.congr (fun r g1 g2 => xr r (by omega) (by omega)) (fun r g1 g2 => mr r (by omega) (by omega) (by omega) (by omega))
  · exact hA.congr hS (fun r g1 g2 => xr r (by omega) (by omega)) (fun j _ => by rw [mr 130 (by omega) (by omega) (by omega) (by omega)])
  · exact hR.congr hS (fun r g1 g2 => xr r (by omega) (by omega)) (hm 120 13 ⟨by omega, by omega, by omega, fun _ => rfl⟩) (mr _ (by omega) (by omega) (by omega) (by omega))
  · exact hI.congr hS (fun r g1 g2 => xr r (by omega) (by omega)) (mr _ (by omega) (by omega) (by omega) (by omega)) (mr _ (by omega) (by omega) (by omega) (by omega)) (mr _ (by omega) (by omega) (by omega) (by omega))
end DEEDS
section OF2
variable {Yc Ym : Card} {d1 d2 : Nat} {as : List Value} {im im1 im2 : IM} {pl it : Nat} {a b : Int32}
theorem deed3_of (h : Rel im im pl it) (fc : FX P3 im im1) (fm : FX Q3 im1 im2) (hz : HZ im1) (hc : MT Yc d1 0 0 (.ref 0 :: as) 137 im (RR pl it) (some (.int a), 137, im1, RR pl it)) (hm : Rel im im1 pl it → MT Ym d2 0 0 (.ref 120 :: as) 137 im1 (RR pl it) (some (.int b), 137, im2, RR pl it))
    (k : ∀ W T S D, CR im im1 pl W T S D → AR im 17 (im1 130) S D → HR im im1 S D → IR im im1 S D → DRR im im1 → a = b ∧ AR im1 17 (im2 130) S D ∧ HR im1 im2 S D ∧ IR im1 im2 S D ∧ DRR im1 im2) : Call Yc Ym d1 d2 as im pl it := by
  have h1 : Rel im im1 pl it := h.congr (fun _ _ => rfl) (fun r hr => fc.row (fun j => by unfold P3; omega))
  have hd : DRR im im1 := h1.2.2.2.2.2.2.2.1
  obtain ⟨-, -, -, -, -, -, -, -, W, T, S, D, hC, hA, hR, hI⟩ := id h1
  have k0 := k W T S D hC hA hR hI hd
  exact deed_of hc (hm h1) k0.1 (h1.deed fc fm hz k0.2.2.2.2 (fun W T S D hC hA hR hI => ⟨(k W T S D hC hA hR hI hd).2.1, (k W T S D hC hA hR hI hd).2.2.1, (k W T S D hC hA hR hI hd).2.2.2.1⟩)) (fun r hr => fm.row (fun j => by unfold Q3; omega))
theorem deed1_of (h : Rel im im pl it) (fc : FX P1 im im1) (fm : FX Q1 im1 im2) (hz : HZ im1) (hc : MT Yc d1 0 0 (.ref 0 :: as) 137 im (RR pl it) (some (.int a), 137, im1, RR pl it)) (hm : Rel im im1 pl it → MT Ym d2 0 0 (.ref 120 :: as) 137 im1 (RR pl it) (some (.int b), 137, im2, RR pl it))
    (k : ∀ W T S D, CR im im1 pl W T S D → AR im 17 (im1 130) S D → HR im im1 S D → a = b ∧ AR im1 17 (im2 130) S D ∧ HR im1 im2 S D) : Call Yc Ym d1 d2 as im pl it := by
  refine deed3_of h (fc.mono (fun r j p => by unfold P3 at p; unfold P1; omega)) (fm.mono (fun r j p => by unfold Q3 at p; unfold Q1; omega)) hz hc hm (fun W T S D hC hA hR hI hd => ?_)
  obtain ⟨k1, k2, k3⟩ := k W T S D hC hA hR
  have hS : S ≤ 5 := hC.2.2.2.2.2.2.2.2.1
  have xr : ∀ r, 102 < r → im1 r = im r := fun r p => fc.row (fun j => by unfold P1; omega)
  have mr : ∀ r, 131 < r → im2 r = im1 r := fun r p => fm.row (fun j => by unfold Q1; omega)
  exact ⟨k1, k2, k3, hI.congr hS (fun r g1 g2 => xr r (by omega)) (mr _ (by omega)) (mr _ (by omega)) (mr _ (by omega)), hd.congr (xr _ (by omega)) (fm 120 17 (by unfold Q1; omega))⟩
theorem deed2_of (h : Rel im im pl it) (fc : FX P2 im im1) (fm : FX Q2 im1 im2) (hz : HZ im1) (hc : MT Yc d1 0 0 (.ref 0 :: as) 137 im (RR pl it) (some (.int a), 137, im1, RR pl it)) (hm : Rel im im1 pl it → MT Ym d2 0 0 (.ref 120 :: as) 137 im1 (RR pl it) (some (.int b), 137, im2, RR pl it))
    (k : ∀ W T S D, CR im im1 pl W T S D → AR im 17 (im1 130) S D → HR im im1 S D → DRR im im1 → a = b ∧ AR im1 17 (im2 130) S D ∧ HR im1 im2 S D ∧ DRR im1 im2) : Call Yc Ym d1 d2 as im pl it := by
  refine deed3_of h (fc.mono (fun r j p => by unfold P3 at p; unfold P2; omega)) (fm.mono (fun r j p => by unfold Q3 at p; unfold Q2; omega)) hz hc hm (fun W T S D hC hA hR hI hd => ?_)
  obtain ⟨k1, k2, k3, k4⟩ := k W T S D hC hA hR hd
  have hS : S ≤ 5 := hC.2.2.2.2.2.2.2.2.1
  have xr : ∀ r, 108 < r → im1 r = im r := fun r p => fc.row (fun j => by unfold P2; omega)
  have mr : ∀ r, 131 < r → im2 r = im1 r := fun r p => fm.row (fun j => by unfold Q2; omega)
  exact ⟨k1, k2, k3, hI.congr hS (fun r g1 g2 => xr r (by omega)) (mr _ (by omega)) (mr _ (by omega)) (mr _ (by omega)), k4⟩
end OF2
