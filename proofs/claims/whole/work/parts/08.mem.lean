section MEM
variable {Y : Card} {d mc ms : Nat} {R : Rs} {kc ks pc : Nat} {lv : LV} {st : List Value} {n : Nat} {im : IM} {rm : RM}
theorem r_get {k ci j idx : Nat} {ty : FieldType} {fin : Bool} {v : Value} (hF : FL Y.1.cls idx ci j ty fin) (hd : decode Y.2.1 pc = .ok (.getfield idx, 3)) (hk : kd k = (0, ci)) (hn : k < n) (hv : ∀ b, fv b im rm ci k j = tv b v)
    (kk : WW Y d mc ms R kc ks (pc + 3) lv (v :: st) n im rm) : WW Y d mc ms R kc ks pc lv (.ref k :: st) n im rm := by
  intro p l e s m args below meth c D ca b H locs ls C hl hP hF0 hL
  obtain ⟨hx, hb, hr, hml, hown, htb, hlocks, hK, hbs, hnm⟩ := id C
  obtain ⟨C0, T, N, hc, hj, hlink, hcls, hfin, hpd⟩ := hF
  obtain ⟨r, h1, cell, q1, q2, q3, q4⟩ := hP.obj hk hn
  have hr : r = (C0, T, N) := Option.some.inj (h1.symm.trans hc)
  subst hr
  obtain ⟨hin, ⟨ty0, hty, hnms, -⟩, hN⟩ := klass hc
  obtain ⟨hS, hfc, kC, hkC, hkind⟩ := hK.1 ci _ hc
  obtain ⟨cf, kf, fi, f, hi, hsl⟩ := hS j hj
  refine W.getf hx hb hown (htb _ hlink rfl) (by rw [hcls] at hi; exact hi) (u_facts hfc hkC (u_lays htb.u hin hj) hi).1 q1 (by rw [q3]; exact fun h => by cases h) (v := tv b v) ?_ rfl rfl hd (kk p l e s m args below meth c D ca b H locs ls C hl hP hF0 hL)
  rw [hsl, q4 j hj]
  have hj' : j < nf ci := by rw [← hN]; exact hj
  rw [vp_V_fv hj', hv b]
theorem r_geti {k ci j idx : Nat} {ty : FieldType} {fin : Bool} (hF : FL Y.1.cls idx ci j ty fin) (hd : decode Y.2.1 pc = .ok (.getfield idx, 3)) (hk : kd k = (0, ci)) (hn : k < n) (hi : rft ci j = false)
    (kk : WW Y d mc ms R kc ks (pc + 3) lv (.int (im k j) :: st) n im rm) : WW Y d mc ms R kc ks pc lv (.ref k :: st) n im rm :=
  r_get hF hd hk hn (fun b => by unfold fv; rw [hi]; rfl) kk
theorem r_getr {k ci j idx a : Nat} {ty : FieldType} {fin : Bool} (hF : FL Y.1.cls idx ci j ty fin) (hd : decode Y.2.1 pc = .ok (.getfield idx, 3)) (hk : kd k = (0, ci)) (hn : k < n) (hi : rft ci j = true) (ha : rm k j = some a)
    (kk : WW Y d mc ms R kc ks (pc + 3) lv (.ref a :: st) n im rm) : WW Y d mc ms R kc ks pc lv (.ref k :: st) n im rm :=
  r_get hF hd hk hn (fun b => by unfold fv rr; rw [hi, ha]; rfl) kk
theorem r_put {k ci j idx : Nat} {ty : FieldType} {v : Value} {im' : IM} {rm' : RM} (hF : FL Y.1.cls idx ci j ty false) (hd : decode Y.2.1 pc = .ok (.putfield idx, 3)) (hk : kd k = (0, ci)) (hn : k < n) (hnar : ∀ b, narrow ty (tv b v) = tv b v) (hfit : ∀ b, fits ty (tv b v) = true)
    (hv : ∀ b i, fv b im' rm' ci k i = if i = j then tv b v else fv b im rm ci k i) (ho : ∀ ca b a, a ≠ k → ce ca b im' rm' a = ce ca b im rm a)
    (kk : WW Y d mc ms R kc ks (pc + 3) lv st n im' rm') : WW Y d mc ms R kc ks pc lv (v :: .ref k :: st) n im rm := by
  intro p l e s m args below meth c D ca b H locs ls C hl hP hF0 hL
  obtain ⟨hx, hb, hr, hml, hown, htb, hlocks, hK, hbs, hnm⟩ := id C
  obtain ⟨C0, T, N, hc, hj, hlink, hcls, hfin, hpd⟩ := hF
  obtain ⟨r, h1, cell, q1, q2, q3, q4⟩ := hP.obj hk hn
  have hr : r = (C0, T, N) := Option.some.inj (h1.symm.trans hc)
  subst hr
  obtain ⟨hin, ⟨ty0, hty, hnms, -⟩, hN⟩ := klass hc
  have hap := va_apart (own := Y.1.cls) htb.u hin ty0 hty hnms hK hc
  obtain ⟨hS, hfc, kC, hkC, hkind⟩ := hK.1 ci _ hc
  obtain ⟨cf, kf, fi, f, hi, hsl⟩ := hS j hj
  have hlay := htb.u _ (hin _ (u_in_lay hj))
  unfold u_lay at hlay
  rw [if_neg (by rw [hfin]; decide)] at hlay
  have hst := (u_facts hfc hkC (u_lays htb.u hin hj) hi).1
  have h6 := u_store hfc hkC hkind hlay hi hpd (hnar b) (hfit b)
  refine W.putK hx hb (f := f) ⟨hown, htb _ hlink rfl, ⟨_, _, _, by rw [hcls] at hi; exact hi⟩, hst⟩ (by rw [q2]; exact h6) q1 q3 (by rw [hsl]; exact k2_hasslot (q4 j hj)) rfl rfl hd fun H' e1 e2 e3 => ?_
  rw [hsl] at e1 ⊢
  refine kk p l e s m args below meth c D ca b H' _ ls C hl (hP.set e2 e3 (ho ca b) (fun _ => ?_)) (fun q hq => (e3 q (Nat.ne_of_lt (Nat.lt_of_lt_of_le hq (Nat.le_add_right b k)))).trans (hF0 q hq)) (fun q hq => ?_)
  · unfold ce ceT
    rw [hk]
    refine ⟨_, hc, t_OB.to (V := updV _ j (tv b v)) ⟨_, e1, q2, q3, t_set q4 hap hj (tv b v)⟩ (fun i hi' => ?_)⟩
    have hi2 : i < nf ci := by rw [← hN]; exact hi'
    show updV _ j (tv b v) i = vp_V ((List.range (nf ci)).map (fv b im' rm' ci k)) i
    rw [vp_V_fv hi2, hv b i]
    unfold updV
    rw [vp_V_fv hi2]
  · rcases List.mem_append.mp hq with h | h
    · exact hL q h
    · rw [List.mem_singleton.mp h]
      exact Nat.le_add_right b k
theorem r_putF {k ci j idx : Nat} {ty : FieldType} {v : Value} {im' : IM} {rm' : RM} (hF : FL Y.1.cls idx ci j ty true) (hd : decode Y.2.1 pc = .ok (.putfield idx, 3)) (hk : kd k = (0, ci)) (hn : k < n) (hini : Y.1.name = "<init>") (hown' : ∀ C T N, vwCl[ci]? = some (C, T, N) → Y.1.cls = C) (hnar : ∀ b, narrow ty (tv b v) = tv b v) (hfit : ∀ b, fits ty (tv b v) = true)
    (hv : ∀ b i, fv b im' rm' ci k i = if i = j then tv b v else fv b im rm ci k i) (ho : ∀ ca b a, a ≠ k → ce ca b im' rm' a = ce ca b im rm a)
    (kk : WW Y d mc ms R kc ks (pc + 3) lv st n im' rm') : WW Y d mc ms R kc ks pc lv (v :: .ref k :: st) n im rm := by
  intro p l e s m args below meth c D ca b H locs ls C hl hP hF0 hL
  obtain ⟨hx, hb, hr, hml, hown, htb, hlocks, hK, hbs, hnm⟩ := id C
  obtain ⟨C0, T, N, hc, hj, hlink, hcls, hfin, hpd⟩ := hF
  obtain ⟨r, h1, cell, q1, q2, q3, q4⟩ := hP.obj hk hn
  have hr : r = (C0, T, N) := Option.some.inj (h1.symm.trans hc)
  subst hr
  obtain ⟨hin, ⟨ty0, hty, hnms, -⟩, hN⟩ := klass hc
  have hap := va_apart (own := Y.1.cls) htb.u hin ty0 hty hnms hK hc
  obtain ⟨hS, hfc, kC, hkC, hkind⟩ := hK.1 ci _ hc
  obtain ⟨cf, kf, fi, f, hi, hsl⟩ := hS j hj
  have hlay := htb.u _ (hin _ (u_in_lay hj))
  unfold u_lay at hlay
  rw [if_pos hfin] at hlay
  have hst := (u_facts hfc hkC (u_lays htb.u hin hj) hi).1
  have hcf : m.cls = cf := by
    obtain ⟨_, _, c', _, _, _, -, -, hf', -, -, -, hown2, -⟩ := Cond.laysFinal_spec hlay
    have e1 : c' = cf := by have := hi.symm.trans hf'; simp at this; exact this.1.symm
    rw [hcls, ← hown' _ _ _ hc] at hown2
    rw [← e1]; exact Option.some.inj (hown.symm.trans hown2)
  have h6 := u_fits hfc hkC hkind (Or.inr hlay) hi hpd (hnar b) (hfit b)
  refine W.putFinK hx hb hown (htb _ hlink rfl) (by rw [hcls] at hi; exact hi) hst hcf (hnm.trans hini) (by rw [q2]; exact h6) q1 q3 (by rw [hsl]; exact k2_hasslot (q4 j hj)) rfl rfl hd fun H' e1 e2 e3 => ?_
  rw [hsl] at e1 ⊢
  refine kk p l e s m args below meth c D ca b H' _ ls C hl (hP.set e2 e3 (ho ca b) (fun _ => ?_)) (fun q hq => (e3 q (Nat.ne_of_lt (Nat.lt_of_lt_of_le hq (Nat.le_add_right b k)))).trans (hF0 q hq)) (fun q hq => ?_)
  · unfold ce ceT
    rw [hk]
    refine ⟨_, hc, t_OB.to (V := updV _ j (tv b v)) ⟨_, e1, q2, q3, t_set q4 hap hj (tv b v)⟩ (fun i hi' => ?_)⟩
    have hi2 : i < nf ci := by rw [← hN]; exact hi'
    show updV _ j (tv b v) i = vp_V ((List.range (nf ci)).map (fv b im' rm' ci k)) i
    rw [vp_V_fv hi2, hv b i]
    unfold updV
    rw [vp_V_fv hi2]
  · rcases List.mem_append.mp hq with h | h
    · exact hL q h
    · rw [List.mem_singleton.mp h]
      exact Nat.le_add_right b k
theorem fv_upd {b k ci j : Nat} {x : Int32} (hi : rft ci j = false) (i : Nat) : fv b (upR im k (upd (im k) j x)) rm ci k i = if i = j then tv b (.int x) else fv b im rm ci k i := by
  unfold fv
  rw [upR_same]
  unfold upd
  by_cases h : i = j
  · subst h
    rw [if_pos rfl, if_pos rfl, hi]
    rfl
  · rw [if_neg h, if_neg h]
theorem fv_upq {b k ci j : Nat} {x : Option Nat} (hi : rft ci j = true) (i : Nat) : fv b im (upQ rm k j x) ci k i = if i = j then tv b (va_rf x) else fv b im rm ci k i := by
  unfold fv rr upQ
  by_cases h : i = j
  · subst h
    rw [if_pos rfl, hi, if_pos rfl, if_pos ⟨rfl, rfl⟩]
    cases x <;> rfl
  · have e : ¬ (k = k ∧ i = j) := fun q => h q.2
    simp only [h, and_false, if_false]
theorem r_puti {k ci j idx : Nat} {x : Int32} (hF : FL Y.1.cls idx ci j .int false) (hd : decode Y.2.1 pc = .ok (.putfield idx, 3)) (hk : kd k = (0, ci)) (hn : k < n) (hi : rft ci j = false)
    (kk : WW Y d mc ms R kc ks (pc + 3) lv st n (upR im k (upd (im k) j x)) rm) : WW Y d mc ms R kc ks pc lv (.int x :: .ref k :: st) n im rm :=
  r_put hF hd hk hn (fun _ => rfl) (fun _ => rfl) (fun b i => fv_upd hi i) (fun ca b a h => ce_upR h) kk
theorem r_putz {k ci j idx : Nat} {x : Int32} (hF : FL Y.1.cls idx ci j .boolean false) (hd : decode Y.2.1 pc = .ok (.putfield idx, 3)) (hk : kd k = (0, ci)) (hn : k < n) (hi : rft ci j = false) (hx : narrow .boolean (.int x) = .int x ∧ fits .boolean (.int x) = true)
    (kk : WW Y d mc ms R kc ks (pc + 3) lv st n (upR im k (upd (im k) j x)) rm) : WW Y d mc ms R kc ks pc lv (.int x :: .ref k :: st) n im rm :=
  r_put hF hd hk hn (fun _ => hx.1) (fun _ => hx.2) (fun b i => fv_upd hi i) (fun ca b a h => ce_upR h) kk
theorem r_putr {k ci j idx a : Nat} {cn : String} (hF : FL Y.1.cls idx ci j (.object cn) false) (hd : decode Y.2.1 pc = .ok (.putfield idx, 3)) (hk : kd k = (0, ci)) (hn : k < n) (hi : rft ci j = true)
    (kk : WW Y d mc ms R kc ks (pc + 3) lv st n im (upQ rm k j (some a))) : WW Y d mc ms R kc ks pc lv (.ref a :: .ref k :: st) n im rm :=
  r_put hF hd hk hn (fun _ => rfl) (fun _ => rfl) (fun b i => fv_upq (x := some a) hi i) (fun ca b a h => ce_upQ h) kk
theorem r_putFr {k ci j idx a : Nat} {ty : FieldType} (hF : FL Y.1.cls idx ci j ty true) (hd : decode Y.2.1 pc = .ok (.putfield idx, 3)) (hk : kd k = (0, ci)) (hn : k < n) (hini : Y.1.name = "<init>") (hown' : ∀ C T N, vwCl[ci]? = some (C, T, N) → Y.1.cls = C) (hi : rft ci j = true) (hty : ∀ b : Nat, narrow ty (.ref b) = .ref b ∧ fits ty (.ref b) = true)
    (kk : WW Y d mc ms R kc ks (pc + 3) lv st n im (upQ rm k j (some a))) : WW Y d mc ms R kc ks pc lv (.ref a :: .ref k :: st) n im rm :=
  r_putF hF hd hk hn hini hown' (fun b => (hty (b + a)).1) (fun b => (hty (b + a)).2) (fun b i => fv_upq (x := some a) hi i) (fun ca b a h => ce_upQ h) kk
theorem r_iald {k len j : Nat} {i : Int32} (hd : decode Y.2.1 pc = .ok (.iaload, 1)) (hk : kd k = (1, len)) (hn : k < n) (hi : i = nI j) (hj : j < len) (hlen : len < 2147483648)
    (kk : WW Y d mc ms R kc ks (pc + 1) lv (.int (im k j) :: st) n im rm) : WW Y d mc ms R kc ks pc lv (.int i :: .ref k :: st) n im rm := by
  intro p l e s m args below meth c D ca b H locs ls C hl hP hF0 hL
  have hK : va_K D vwCl (tyL ca) s := C.2.2.2.2.2.2.2.1
  obtain ⟨hin, hcl⟩ := vp_in_of_nI hi hj hlen
  refine W.iald (v := .int (im k j)) C.1 C.2.1 (hP.arr hk (Or.inl rfl) hn) ((hK.2 0 _ rfl).1 len (fun j => .int (im k j))) (fun q => by cases q) (by show ¬ (i < 0 ∨ (arrV _ _ _).slots.size ≤ _); rw [arrV_size]; exact hin) (by show (arrV _ _ _).slots[_]? = _; rw [hcl, arrV_read _ _ hj]) rfl rfl hd (kk p l e s m args below meth c D ca b H locs ls C hl hP hF0 hL)
theorem r_zald {k len j : Nat} {i : Int32} (hd : decode Y.2.1 pc = .ok (.baload, 1)) (hk : kd k = (2, len)) (hn : k < n) (hi : i = nI j) (hj : j < len) (hlen : len < 2147483648)
    (kk : WW Y d mc ms R kc ks (pc + 1) lv (.int (im k j) :: st) n im rm) : WW Y d mc ms R kc ks pc lv (.int i :: .ref k :: st) n im rm := by
  intro p l e s m args below meth c D ca b H locs ls C hl hP hF0 hL
  have hK : va_K D vwCl (tyL ca) s := C.2.2.2.2.2.2.2.1
  obtain ⟨hin, hcl⟩ := vp_in_of_nI hi hj hlen
  refine W.zald (v := .int (im k j)) C.1 C.2.1 (hP.arr hk (Or.inr rfl) hn) ((hK.2 1 _ rfl).1 len (fun j => .int (im k j))) (fun q => by cases q) (by show ¬ (i < 0 ∨ (arrV _ _ _).slots.size ≤ _); rw [arrV_size]; exact hin) (by show (arrV _ _ _).slots[_]? = _; rw [hcl, arrV_read _ _ hj]) rfl rfl hd (kk p l e s m args below meth c D ca b H locs ls C hl hP hF0 hL)
theorem r_aald {k t len j a : Nat} {i : Int32} (hd : decode Y.2.1 pc = .ok (.aaload, 1)) (hk : kd k = (t, len)) (ht : t = 3 ∨ t = 4) (hn : k < n) (hi : i = nI j) (hj : j < len) (hlen : len < 2147483648) (ha : rm k j = some a)
    (kk : WW Y d mc ms R kc ks (pc + 1) lv (.ref a :: st) n im rm) : WW Y d mc ms R kc ks pc lv (.int i :: .ref k :: st) n im rm := by
  intro p l e s m args below meth c D ca b H locs ls C hl hP hF0 hL
  have hK : va_K D vwCl (tyL ca) s := C.2.2.2.2.2.2.2.1
  obtain ⟨hin, hcl⟩ := vp_in_of_nI hi hj hlen
  have hv : va_rf (rr b rm k j) = .ref (b + a) := by unfold rr; rw [ha]; rfl
  obtain ⟨E, hE, hrE⟩ : ∃ E : FieldType, ArrOfT s (ca t) E ∧ E.isReference = true := by
    rcases ht with rfl | rfl
    · exact ⟨_, (hK.2 2 _ rfl).1, rfl⟩
    · exact ⟨_, (hK.2 3 _ rfl).1, rfl⟩
  refine W.aald (v := .ref (b + a)) (ty := E) C.1 C.2.1 (hP.arq hk ht hn) (hE len (fun j => va_rf (rr b rm k j))) hrE (fun q => by cases q) (by show ¬ (i < 0 ∨ (arrV _ _ _).slots.size ≤ _); rw [arrV_size]; exact hin) (by show (arrV _ _ _).slots[_]? = _; rw [hcl, arrV_read _ _ hj, hv]) rfl rfl hd (kk p l e s m args below meth c D ca b H locs ls C hl hP hF0 hL)
theorem cell_upd {cA : ClassId} {len j : Nat} {f : Nat → Int32} {x : Int32} : (vp_cell cA (len, .inl f)).setSlot j (.int x) = vp_cell cA (len, .inl (upd f j x)) := by
  rw [vp_cell_i, vp_cell_i, arrV_store]
  congr 2
  funext q
  unfold updV upd
  split <;> rfl
theorem r_iast {k len j : Nat} {i x : Int32} (hd : decode Y.2.1 pc = .ok (.iastore, 1)) (hk : kd k = (1, len)) (hn : k < n) (hi : i = nI j) (hj : j < len) (hlen : len < 2147483648)
    (kk : WW Y d mc ms R kc ks (pc + 1) lv st n (upR im k (upd (im k) j x)) rm) : WW Y d mc ms R kc ks pc lv (.int x :: .int i :: .ref k :: st) n im rm := by
  intro p l e s m args below meth c D ca b H locs ls C hl hP hF0 hL
  have hK : va_K D vwCl (tyL ca) s := C.2.2.2.2.2.2.2.1
  obtain ⟨hin, hcl⟩ := vp_in_of_nI hi hj hlen
  refine W.iast C.1 C.2.1 (hP.arr hk (Or.inl rfl) hn) ((hK.2 0 _ rfl).1 len (fun j => .int (im k j))) (fun q => by cases q) (by show ¬ (i < 0 ∨ (arrV _ _ _).slots.size ≤ _); rw [arrV_size]; exact hin) rfl rfl hd fun H' e1 e2 e3 => ?_
  refine kk p l e s m args below meth c D ca b H' _ ls C hl (hP.set e2 e3 (fun a h => ce_upR h) (fun _ => ?_)) (fun q hq => (e3 q (Nat.ne_of_lt (Nat.lt_of_lt_of_le hq (Nat.le_add_right b k)))).trans (hF0 q hq)) (fun q hq => ?_)
  · unfold ce ceT
    rw [hk, upR_same]
    show H'[b + k]? = some (vp_cell (ca 1) (len, .inl (upd (im k) j x)))
    rw [e1, hcl, cell_upd]
  · rcases List.mem_append.mp hq with h | h
    · exact hL q h
    · rw [List.mem_singleton.mp h]
      exact Nat.le_add_right b k
theorem r_zast {k len j : Nat} {i x : Int32} (hd : decode Y.2.1 pc = .ok (.bastore, 1)) (hk : kd k = (2, len)) (hn : k < n) (hi : i = nI j) (hj : j < len) (hlen : len < 2147483648) (hx : narrow .boolean (.int x) = .int x)
    (kk : WW Y d mc ms R kc ks (pc + 1) lv st n (upR im k (upd (im k) j x)) rm) : WW Y d mc ms R kc ks pc lv (.int x :: .int i :: .ref k :: st) n im rm := by
  intro p l e s m args below meth c D ca b H locs ls C hl hP hF0 hL
  have hK : va_K D vwCl (tyL ca) s := C.2.2.2.2.2.2.2.1
  obtain ⟨hin, hcl⟩ := vp_in_of_nI hi hj hlen
  refine W.zast C.1 C.2.1 (hP.arr hk (Or.inr rfl) hn) ((hK.2 1 _ rfl).1 len (fun j => .int (im k j))) (fun q => by cases q) (by show ¬ (i < 0 ∨ (arrV _ _ _).slots.size ≤ _); rw [arrV_size]; exact hin) rfl rfl hd fun H' e1 e2 e3 => ?_
  refine kk p l e s m args below meth c D ca b H' _ ls C hl (hP.set e2 e3 (fun a h => ce_upR h) (fun _ => ?_)) (fun q hq => (e3 q (Nat.ne_of_lt (Nat.lt_of_lt_of_le hq (Nat.le_add_right b k)))).trans (hF0 q hq)) (fun q hq => ?_)
  · unfold ce ceT
    rw [hk, upR_same]
    show H'[b + k]? = some (vp_cell (ca 2) (len, .inl (upd (im k) j x)))
    rw [e1, hcl, hx, cell_upd]
  · rcases List.mem_append.mp hq with h | h
    · exact hL q h
    · rw [List.mem_singleton.mp h]
      exact Nat.le_add_right b k
theorem Pic.push {D : va_G} {ca : Nat → ClassId} {b : Nat} {H : Heap} (h : Pic D ca b n im rm H) {im' : IM} {rm' : RM} {H' : Heap} (hz : H'.size = b + n + 1) (oq : ∀ q, q < b + n → H'[q]? = H[q]?) (ho : ∀ a, a < n → ce ca b im' rm' a = ce ca b im rm a) (hc : va_at D vwCl (b + n, ce ca b im' rm' n) H') : Pic D ca b (n + 1) im' rm' H' := by
  refine ⟨by rw [hz]; omega, fun a ha => ?_⟩
  by_cases hak : a = n
  · subst hak
    exact hc
  · rw [ho a (by omega)]
    exact (h.2 a (by omega)).kept (oq _ (by show b + a < b + n; omega))
def upN (rm : RM) (k : Nat) : RM := fun a c => if a = k then none else rm a c
theorem ce_upN {ca : Nat → ClassId} {b k a : Nat} {f : Nat → Int32} (h : a ≠ k) : ce ca b (upR im k f) (upN rm k) a = ce ca b im rm a := by
  have e : rr b (upN rm k) a = rr b rm a := by
    funext c
    unfold rr upN
    rw [if_neg h]
  have e2 : upR im k f a = im a := upR_ne h
  unfold ce ceT fv
  rw [e, e2]
theorem r_new {idx ci : Nat} (hF : CK Y.1.cls idx ci) (hd : decode Y.2.1 pc = .ok (.new idx, 3)) (hk : kd n = (0, ci)) (hc : kc + 1 ≤ mc) (hs : ks + nf ci ≤ ms)
    (kk : WW Y d mc ms R (kc + 1) (ks + nf ci) (pc + 3) lv (.ref n :: st) (n + 1) (upR im n (fun _ => 0)) (upN rm n)) : WW Y d mc ms R kc ks pc lv st n im rm := by
  intro p l e s m args below meth c D ca b H locs ls C hl hP hF0 hL
  obtain ⟨hx, hb, hr, hml, hown, htb, hlocks, hK, hbs, hnm⟩ := id C
  obtain ⟨C0, T, N, hcl, hlink, hins, hini⟩ := hF
  obtain ⟨hin, ⟨ty0, hty, hnms, hdef⟩, hN⟩ := klass hcl
  subst hN
  have hKn := hK.1 ci _ hcl
  refine W.newcK hx hb hown (htb _ hlink rfl) (htb _ hins rfl) (htb _ hini rfl) rfl hd hc hs hKn.2.1 hP.1 fun H1 kC hkC e1 z1 o1 => ?_
  refine kk p l e s m args below meth c D ca b H1 _ ls C hl (hP.push z1 o1 (fun a ha => ce_upN (by omega)) ?_) (fun q hq => (o1 q (by omega)).trans (hF0 q hq)) hL
  unfold ce ceT
  rw [hk]
  refine ⟨_, hcl, (u_born ty0 htb.u hin hKn hkC e1 hty).to (fun i hi => ?_)⟩
  show defaultValue (ty0 i) = vp_V ((List.range (nf ci)).map _) i
  rw [vp_V_fv hi, hdef i hi]
  unfold fv rr upN
  rw [upR_same, if_pos rfl]
  rfl
theorem r_newi {len : Nat} {i : Int32} (hd : decode Y.2.1 pc = .ok (.newarray .int, 2)) (hk : kd n = (1, len)) (hi : i = nI len) (hlen : len < 1000) (hc : kc + 1 ≤ mc) (hs : ks + len ≤ ms)
    (kk : WW Y d mc ms R (kc + 1) (ks + len) (pc + 2) lv (.ref n :: st) (n + 1) (upR im n (fun _ => 0)) (upN rm n)) : WW Y d mc ms R kc ks pc lv (.int i :: st) n im rm := by
  intro p l e s m args below meth c D ca b H locs ls C hl hP hF0 hL
  obtain ⟨hx, hb, hr, hml, hown, htb, hlocks, hK, hbs, hnm⟩ := id C
  subst hi
  refine va_newaK (atype := .int) hx hb (htb _ ac_int rfl) rfl hd rfl (nI_pos (by omega)) (nI_clamp (by omega)) (by show len * 4 ≤ 536870912; omega) hc hs hP.1 fun H1 cA e1 z1 o1 hA hfc => ?_
  have hca : cA = ca 1 := Option.some.inj (hfc.symm.trans (hK.2 0 _ rfl).2)
  subst hca
  refine kk p l e s m args below meth c D ca b H1 _ ls C hl (hP.push z1 o1 (fun a ha => ce_upN (by omega)) ?_) (fun q hq => (o1 q (by omega)).trans (hF0 q hq)) hL
  unfold ce ceT
  rw [hk, upR_same]
  exact e1
theorem r_newz {len : Nat} {i : Int32} (hd : decode Y.2.1 pc = .ok (.newarray .boolean, 2)) (hk : kd n = (2, len)) (hi : i = nI len) (hlen : len < 1000) (hc : kc + 1 ≤ mc) (hs : ks + len ≤ ms)
    (kk : WW Y d mc ms R (kc + 1) (ks + len) (pc + 2) lv (.ref n :: st) (n + 1) (upR im n (fun _ => 0)) (upN rm n)) : WW Y d mc ms R kc ks pc lv (.int i :: st) n im rm := by
  intro p l e s m args below meth c D ca b H locs ls C hl hP hF0 hL
  obtain ⟨hx, hb, hr, hml, hown, htb, hlocks, hK, hbs, hnm⟩ := id C
  subst hi
  refine va_newaK (atype := .boolean) hx hb (htb _ ac_boolean rfl) rfl hd rfl (nI_pos (by omega)) (nI_clamp (by omega)) (by show len * 1 ≤ 536870912; omega) hc hs hP.1 fun H1 cA e1 z1 o1 hA hfc => ?_
  have hca : cA = ca 2 := Option.some.inj (hfc.symm.trans (hK.2 1 _ rfl).2)
  subst hca
  refine kk p l e s m args below meth c D ca b H1 _ ls C hl (hP.push z1 o1 (fun a ha => ce_upN (by omega)) ?_) (fun q hq => (o1 q (by omega)).trans (hF0 q hq)) hL
  unfold ce ceT
  rw [hk, upR_same]
  exact e1
theorem r_newq {len t idx ci : Nat} {i : Int32} (hd : decode Y.2.1 pc = .ok (.anewarray idx, 3)) (hF : CK Y.1.cls idx ci) (ht : (t = 3 ∧ ci = 0) ∨ (t = 4 ∧ ci = 6)) (hk : kd n = (t, len)) (hi : i = nI len) (hlen : len < 1000) (hc : kc + 1 ≤ mc) (hs : ks + len ≤ ms)
    (kk : WW Y d mc ms R (kc + 1) (ks + len) (pc + 3) lv (.ref n :: st) (n + 1) (upR im n (fun _ => 0)) (upN rm n)) : WW Y d mc ms R kc ks pc lv (.int i :: st) n im rm := by
  intro p l e s m args below meth c D ca b H locs ls C hl hP hF0 hL
  obtain ⟨hx, hb, hr, hml, hown, htb, hlocks, hK, hbs, hnm⟩ := id C
  subst hi
  obtain ⟨C0, T, N, hcl, hlink, hins, hini⟩ := hF
  have hcm : (nI len).toNatClampNeg = len := nI_clamp (by omega)
  have hov : Cond.arrayOver (.object C0) ∈ lw_tbl ∧ ∃ i : Nat, (tyL ca)[i]? = some (ca t, FieldType.object C0) := by
    rcases ht with ⟨rfl, rfl⟩ | ⟨rfl, rfl⟩
    · cases hcl; exact ⟨ao_0, 2, rfl⟩
    · cases hcl; exact ⟨ao_6, 3, rfl⟩
  obtain ⟨hov, i0, hi0⟩ := hov
  refine W.anew hx hb hown (htb _ hlink rfl) (htb _ hov rfl) rfl hd rfl (nI_pos (by omega)) (by rw [hcm]; omega) hc (by rw [hcm]; exact hs) fun cA kA comp f1 f2 f3 f4 => ?_
  rw [hcm]
  obtain ⟨kA', comp', g1, g2, g3, g4⟩ := (hK.2 i0 _ hi0).2
  have hca : cA = ca t := Option.some.inj (f1.symm.trans g4)
  subst hca
  generalize hH1 : H.push ({ cls := ca t, slots := Array.replicate len .null, vm := .none } : Cell) = H1
  have z1 : H1.size = b + n + 1 := by rw [← hH1, Array.size_push, hP.1]
  have e1 : H1[b + n]? = some (arrV (ca t) len (fun _ => .null)) := by rw [← hH1, ← hP.1, Array.getElem?_push_size, ← arrV_new]
  have o1 : ∀ q : Nat, q < b + n → H1[q]? = H[q]? := fun q hq => by rw [← hH1, Array.getElem?_push, if_neg (by rw [hP.1]; omega)]
  rw [hP.1]
  refine kk p l e s m args below meth c D ca b H1 _ ls C hl (hP.push z1 o1 (fun a ha => ce_upN (by omega)) ?_) (fun q hq => (o1 q (by omega)).trans (hF0 q hq)) hL
  unfold ce ceT
  rw [hk]
  have hrr : rr b (upN rm n) n = fun _ => none := by
    funext j
    unfold rr upN
    rw [if_pos rfl]
    rfl
  rw [hrr]
  rcases ht with ⟨rfl, -⟩ | ⟨rfl, -⟩ <;> exact e1
end MEM
