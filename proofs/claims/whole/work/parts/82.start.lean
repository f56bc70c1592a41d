set_option maxHeartbeats 4000000 in
set_option maxRecDepth 100000 in
/-- the law from its entry -/
theorem law_start {p : Program} {l : Launch} {e : Env} {s : State} {m : MethodId} {below : List Frame} {meth : Method} {c : Code} {sb L : Nat} {xs : Nat → Int32} {D : va_G} {ca : Nat → ClassId} (h : LC p s m meth c sb L xs D ca) (hL : L ≤ 256) : LW p l e s m below meth c sb D ca 0 0 0 [(0, .ref sb)] [] 0 (fun _ _ => 0) (fun _ _ => none) := by
  refine l_new (kc2 := 1) (ks2 := 9) (n2 := 1) h ck_L_7 dL_law_0 rfl rfl rfl rfl (by decide) (by decide) ?_
  refine l_dup h dL_law_3 rfl ?_
  refine l_pic (im' := fun _ _ => 0) (rm' := fun _ _ => none) ?_ ?_
  · intro k hk
    constructor
    · funext j
      rw [upR_at]
      split <;> rfl
    · funext j
      unfold upN
      split <;> rfl
  refine l_callI (o := 0) (kc2 := 120) (ks2 := 969) h i_tw rfl cv_L_9 dL_law_4 ⟨by decide, by decide⟩ (Nat.le_of_ble_eq_true rfl) rfl rfl ⟨by decide, by decide⟩ ?_
  refine l_astore (lv' := [(1, .ref (s.heap.size + 0)), (0, .ref sb)]) h dL_law_7 rfl ?_
  refine l_new (kc2 := 121) (ks2 := 993) (n2 := 121) h ck_L_10 dL_law_8 rfl rfl rfl rfl (by decide) (by decide) ?_
  refine l_dup h dL_law_11 rfl ?_
  refine l_pic (im' := sI 120) (rm' := sR 9 120) ?_ ?_
  · intro k hk
    constructor
    · funext j
      simp only [upR_at, sI]
      split
      · next q => rw [if_neg (by omega)]
      · rfl
    · funext j
      simp only [upN, sR]
      split
      · next q => rw [if_neg (by omega), if_neg (by omega)]
      · rfl
  refine l_callI (o := 120) (kc2 := 137) (ks2 := 1829) h i_md rfl cv_L_12 dL_law_12 ⟨by decide, by decide⟩ (Nat.le_of_ble_eq_true rfl) rfl rfl ⟨by decide, by decide⟩ ?_
  refine l_astore (lv' := [(2, .ref (s.heap.size + 120)), (1, .ref (s.heap.size + 0)), (0, .ref sb)]) h dL_law_15 rfl ?_
  refine l_iconst (v := nI 0) h dL_law_16 (by decide) ?_
  refine l_istore (lv' := LVi s.heap.size sb 0) h dL_law_17 rfl ?_
  exact law_loop h hL 257 0 IM0 10 3 (by omega) (by omega) rel0
theorem whole_start {p : Program} {e : Env} {s : State} {m : MethodId} {below : List Frame} {meth : Method} {c : Code} (l : Launch) (hflags : l.flags = flags0) {b L : Nat} {xs : Nat → Int32} (hL : L ≤ 256) (C0 : lw_At p s m meth c b L xs) : W p l e room_1 s m #[Value.ref b] below meth c s.heap [] 0 0 (lw_Z below #[Value.ref b] s) (entryFrame m ([Value.ref b] : List Value).toArray 4) := by
  obtain ⟨D, ca, hK⟩ := known C0.2.2.2.2.2.1
  have hl := lv_entry ([.ref b]) (n := 4) (Nat.le_of_ble_eq_true rfl)
  rw [lg_entry_eq]
  exact law_start (p := p) (l := l) (e := e) (below := below) (D := D) (ca := ca) ⟨C0, hK⟩ hL s.heap [] _ hl ⟨rfl, fun k hk => absurd hk (by omega)⟩ (fun _ _ => rfl) (fun _ h => by cases h)
