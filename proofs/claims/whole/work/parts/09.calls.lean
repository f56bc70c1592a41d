section CALLS
variable {Y Z : Card} {d mc ms : Nat} {R Q : Rs} {kc ks pc : Nat} {lv : LV} {st : List Value} {n : Nat} {im : IM} {rm : RM} {d' mc' ms' idx k : Nat}
theorem mt_of {av : List Value} (hy : plainName Y.1.cls = true) (hn : (lg_sl av).length ≤ Y.2.2.1) (h : WW Y d mc ms R 0 0 0 (lv_args 0 av) [] n im rm) : MT Y d mc ms av n im rm R := by
  intro l D ca b
  refine Met.ofW (cc := Y.2.1) (maxL := Y.2.2.1) (ret := Y.2.2.2) hy rfl ?_
  intro p e s m args below meth c s₁ B hml hv
  obtain ⟨rfl, hP, hK, hT⟩ := hv
  have hown : s.vm.findClass Y.1.cls = some m.cls := findClass_of_methodNamed B.named
  have hlen : (lg_sl (av.map (tv b))).length = (lg_sl av).length ∧ lv_args 0 (av.map (tv b)) = (lv_args 0 av).map fun q => (q.1, tv b q.2) := by
    have key : ∀ (av : List Value) (i : Nat), (lg_sl (av.map (tv b))).length = (lg_sl av).length ∧ lv_args i (av.map (tv b)) = (lv_args i av).map fun q => (q.1, tv b q.2) := by
      intro av
      induction av with
      | nil => intro i; exact ⟨rfl, rfl⟩
      | cons v r ih =>
        intro i
        obtain ⟨h1, -⟩ := ih i
        constructor
        · unfold lg_sl at h1 ⊢
          rw [List.map_cons, List.flatMap_cons, List.flatMap_cons, List.length_append, List.length_append, h1, tv_cat]
          congr 1
          split <;> rfl
        · simp only [List.map_cons, lv_args, tv_cat]
          split <;> simp [(ih _).2]
    exact key av 0
  have hl := lv_entry (av.map (tv b)) (n := Y.2.2.1) (by rw [hlen.1]; exact hn)
  rw [hlen.2] at hl
  rw [lg_entry_eq]
  exact h p l e s m _ below meth c D ca b s.heap [] _ ⟨B.exec, B.bytes, B.returns, hml, hown, tb_move (State.WarmedH.refl s) hT, B.notSynchronized, hK, by rw [hP.1]; exact Nat.le_add_right _ _, (name_of_methodNamed B.named B.method).1⟩ hl hP (fun _ _ => rfl) (fun _ h => by cases h)
theorem code_good {args : Array Value} {s : State} (ht : TB args s) (h : Cond.code Z.1 Z.2.1 Z.2.2.1 Z.2.2.2 ∈ lw_tbl) : GoodIn lw_u [Cond.code Z.1 Z.2.1 Z.2.2.1 Z.2.2.2] := by
  intro w hw
  rw [List.mem_singleton.mp hw]
  exact ⟨List.mem_filter.mpr ⟨h, rfl⟩, Or.inl rfl⟩
theorem mem_u {w : Cond} (h : w ∈ lw_tbl) (hu : uw w = true) : w ∈ lw_u := List.mem_filter.mpr ⟨h, hu⟩
/-- behind a call -/
theorem r_back {p : Program} {l : Launch} {e : Env} {s : State} {m : MethodId} {args a : Array Value} {below : List Frame} {meth : Method} {c : Code} {D : va_G} {ca : Nat → ClassId} {b : Nat} {H : Heap} {locs : List Loc} {ls : Array Slot} {st0 : List Value}
    (hr : va_Run p l e (rmd d mc ms) s m args below meth c H locs kc ks mc' ms' (F0 m pc ls st0) (st.map (tv b)) (QQ D ca b Q a) (fun q => b ≤ q))
    (C : Cx D ca b p s m args meth c Y) (hl : lv_has ls Y.2.2.1 (lv.map fun q => (q.1, tv b q.2))) (hF : ∀ q : Nat, q < b → H[q]? = s.heap[q]?) (hL : ∀ q ∈ locs, b ≤ q.base)
    (kk : WW Y d mc ms R (kc + mc') (ks + ms') (pc + 3) lv (Q.1.toList ++ st) Q.2.1 Q.2.2.1 Q.2.2.2) : W p l e (rmd d mc ms) s m args below meth c H locs kc ks (MQ below (QQ D ca b R) args s mc ms (fun q => b ≤ q)) (F0 m pc ls st0) := by
  intro T hT X
  obtain ⟨v, st₀, t, T', L, h0, X', hL', e1, e2, ⟨hv, hP, hk⟩, stp⟩ := hr T hT X
  cases hv
  obtain ⟨t2, a1, b1⟩ := kk p l e s m args below meth c D ca b T'.heap (locs ++ L) ls C hl (by rw [e1]; exact hP) (fun q hq => by rw [e1, hk q hq, h0]; exact hF q hq) (fun q hq => by
    rcases List.mem_append.mp hq with h | h
    · exact hL q h
    · exact hL' q h) T' rfl X'
  refine ⟨t2, stp t2 ?_, b1⟩
  have he : (Option.map (tv b) Q.1).toList ++ st.map (tv b) = (Q.1.toList ++ st).map (tv b) := by
    rw [List.map_append]
    cases Q.1 <;> rfl
  show Steps p.tables e below (T'.setTop { F0 m pc ls st0 with pc := pc + 3, stack := (Option.map (tv b) Q.1).toList ++ st.map (tv b) }) t2
  rw [he]
  exact a1
theorem pre_of {s : State} {D : va_G} {ca : Nat → ClassId} {b : Nat} {H : Heap} {args : Array Value} {av : List Value} (hP : Pic D ca b n im rm H) (hK : va_K D vwCl (tyL ca) s) (ht : TB args s) : PreS s H (va_Pc (av.map (tv b)) (fun U => Pic D ca b n im rm U.heap ∧ va_K D vwCl (tyL ca) U ∧ TB #[] U)) (av.map (tv b)) :=
  ⟨fun a U g mk q => ⟨q.1, q.2.1, va_K.moved (u := U) (U := U.calling g mk a) (Vm.Alike.refl U.vm) q.2.2.1, tb_move (s := U) (U := U.calling g mk a) (State.WarmedH.refl U) q.2.2.2⟩, fun U hU hW => ⟨rfl, by rw [hU]; exact hP, va_K.moved hW.alike hK, tb_move hW ht⟩⟩
theorem call_stk (b o : Nat) (As st : List Value) : (As.reverse ++ .ref o :: st).map (tv b) = (As.map (tv b)).reverse ++ .ref (b + o) :: st.map (tv b) := by
  rw [List.map_append, List.map_reverse]
  rfl
theorem call_stkS (b : Nat) (As st : List Value) : (As.reverse ++ st).map (tv b) = (As.map (tv b)).reverse ++ st.map (tv b) := by
  rw [List.map_append, List.map_reverse]
theorem r_callV {o ci : Nat} {As : List Value} (hc : CV Y.1.cls idx Z k) (hd : decode Y.2.1 pc = .ok (.invokevirtual idx, 3)) (hM : MT Z d' mc' ms' (.ref o :: As) n im rm Q) (hdp : d' + 1 ≤ d ∧ 8 + (Z.2.2.1 + 11) + 37 * d' ≤ 37 * d) (hlen : As.length = k) (ho : kd o = (0, ci)) (hon : o < n) (hcl : ∀ r : vw_C, vwCl[ci]? = some r → r.1 = Z.1.cls) (hw : (st.map fun v => v.category).sum ≤ 8) (hm : kc + mc' ≤ mc ∧ ks + ms' ≤ ms)
    (kk : WW Y d mc ms R (kc + mc') (ks + ms') (pc + 3) lv (Q.1.toList ++ st) Q.2.1 Q.2.2.1 Q.2.2.2) : WW Y d mc ms R kc ks pc lv (As.reverse ++ .ref o :: st) n im rm := by
  intro p l e s m args below meth c D ca b H locs ls C hl hP hF0 hL
  obtain ⟨hx, hb, hr, hml, hown, htb, hlocks, hK, hbs, hnm⟩ := id C
  obtain ⟨c1, c2, c3, c4, c5, c6⟩ := hc
  have cb : CallB (rmd d mc ms) s args Y.1.cls idx Z.1 Z.2.1 Z.2.2.1 Z.2.2.2 [Cond.code Z.1 Z.2.1 Z.2.2.1 Z.2.2.2] (rmd d' mc' ms') mc' ms' k := callB_of k htb.u (code_good htb c5) rfl rfl rfl (htb _ c4 rfl) (htb _ c1 rfl) c6 hdp
  have hpre := pre_of (av := .ref o :: As) hP hK htb
  obtain ⟨r, h1, cell, q1, q2, q3, q4⟩ := hP.obj ho hon
  have hcell : ∃ cellB : Cell, H[b + o]? = some cellB ∧ cellB.vm.isStatics = false ∧ s.vm.findClass Z.1.cls = some cellB.cls := ⟨cell, q1, by rw [q3]; rfl, by rw [q2, ← hcl r h1]; exact (hK.1 ci r h1).2.1⟩
  refine r_back (Q := Q) (a := (Value.ref (b + o) :: As.map (tv b)).toArray) (va_runV (C := Z.1.cls) (b := b + o) (As := As.map (tv b)) (rest := st.map (tv b)) (Ts := lw_u) (g := F0 m pc ls ((As.reverse ++ .ref o :: st).map (tv b))) ⟨hx, hb, hml, hown, htb.u⟩ (hM l D ca b) ⟨cb, htb _ c2 rfl, htb _ c3 rfl⟩ ⟨hpre.1, hcell, hpre.2⟩ rfl (by rw [List.length_map]; exact hlen) hl.1 (call_stk b o As st) (by rw [cat_sum]; exact lv_room (m := m) (pc := pc) (ls := ls) (rest := []) hw) hd hm) C hl hF0 hL kk
theorem r_callS {As : List Value} (hc : CS Y.1.cls idx Z k) (hd : decode Y.2.1 pc = .ok (.invokestatic idx, 3)) (hM : MT Z d' mc' ms' As n im rm Q) (hdp : d' + 1 ≤ d ∧ 8 + (Z.2.2.1 + 11) + 37 * d' ≤ 37 * d) (hlen : As.length = k) (hw : (st.map fun v => v.category).sum ≤ 8) (hm : kc + mc' ≤ mc ∧ ks + ms' ≤ ms)
    (kk : WW Y d mc ms R (kc + mc') (ks + ms') (pc + 3) lv (Q.1.toList ++ st) Q.2.1 Q.2.2.1 Q.2.2.2) : WW Y d mc ms R kc ks pc lv (As.reverse ++ st) n im rm := by
  intro p l e s m args below meth c D ca b H locs ls C hl hP hF0 hL
  obtain ⟨hx, hb, hr, hml, hown, htb, hlocks, hK, hbs, hnm⟩ := id C
  obtain ⟨c1, c2, c4, c5, c6⟩ := hc
  have cb : CallB (rmd d mc ms) s args Y.1.cls idx Z.1 Z.2.1 Z.2.2.1 Z.2.2.2 [Cond.code Z.1 Z.2.1 Z.2.2.1 Z.2.2.2] (rmd d' mc' ms') mc' ms' k := callB_of k htb.u (code_good htb c5) rfl rfl rfl (htb _ c4 rfl) (htb _ c1 rfl) c6 hdp
  have hpre := pre_of (av := As) hP hK htb
  refine r_back (Q := Q) (a := (As.map (tv b)).toArray) (va_runS (As := As.map (tv b)) (rest := st.map (tv b)) (Ts := lw_u) (g := F0 m pc ls ((As.reverse ++ st).map (tv b))) ⟨hx, hb, hml, hown, htb.u⟩ (hM l D ca b) ⟨cb, htb _ c2 rfl⟩ hpre rfl (by rw [List.length_map]; exact hlen) hl.1 (call_stkS b As st) (by rw [cat_sum]; exact lv_room (m := m) (pc := pc) (ls := ls) (rest := []) hw) hd hm) C hl hF0 hL kk
theorem r_callN {As : List Value} (hc : CN Y.1.cls idx Z k) (hd : decode Y.2.1 pc = .ok (.invokestatic idx, 3)) (hM : MT Z d' mc' ms' As n im rm Q) (hdp : d' + 1 ≤ d ∧ 8 + (Z.2.2.1 + 11) + 37 * d' ≤ 37 * d) (hlen : As.length = k) (hw : (st.map fun v => v.category).sum ≤ 8) (hm : kc + mc' ≤ mc ∧ ks + ms' ≤ ms)
    (kk : WW Y d mc ms R (kc + mc') (ks + ms') (pc + 3) lv (Q.1.toList ++ st) Q.2.1 Q.2.2.1 Q.2.2.2) : WW Y d mc ms R kc ks pc lv (As.reverse ++ st) n im rm := by
  intro p l e s m args below meth c D ca b H locs ls C hl hP hF0 hL
  obtain ⟨hx, hb, hr, hml, hown, htb, hlocks, hK, hbs, hnm⟩ := id C
  obtain ⟨c1, c2, c4, c5, c6⟩ := hc
  have cb : va_CN (rmd d mc ms) s args Y.1.cls idx Z.1 "TurningWheel" Z.2.1 Z.2.2.1 Z.2.2.2 [Cond.code Z.1 Z.2.1 Z.2.2.1 Z.2.2.2] (rmd d' mc' ms') mc' ms' k := va_cnB k htb.u (code_good htb c5) rfl rfl rfl (va_Nw.of rfl (htb _ c1 rfl)) (htb _ c4 rfl) c6 hdp
  have hpre := pre_of (av := As) hP hK htb
  refine r_back (Q := Q) (a := (As.map (tv b)).toArray) (va_runSN (As := As.map (tv b)) (rest := st.map (tv b)) (Ts := lw_u) (g := F0 m pc ls ((As.reverse ++ st).map (tv b))) ⟨hx, hb, hml, hown, htb.u⟩ (hM l D ca b) ⟨cb, htb _ c2 rfl, trivial⟩ hpre rfl (by rw [List.length_map]; exact hlen) hl.1 (call_stkS b As st) (by rw [cat_sum]; exact lv_room (m := m) (pc := pc) (ls := ls) (rest := []) hw) hd hm) C hl hF0 hL kk
theorem r_callI {o : Nat} {As : List Value} (hZ : Z.2.2.2 = none) (hc : CI Y.1.cls idx Z k) (hd : decode Y.2.1 pc = .ok (.invokespecial idx, 3)) (hM : MT Z d' mc' ms' (.ref o :: As) n im rm Q) (hdp : d' + 1 ≤ d ∧ 8 + (Z.2.2.1 + 11) + 37 * d' ≤ 37 * d) (hlen : As.length = k) (hw : (st.map fun v => v.category).sum ≤ 8) (hm : kc + mc' ≤ mc ∧ ks + ms' ≤ ms)
    (kk : WW Y d mc ms R (kc + mc') (ks + ms') (pc + 3) lv (Q.1.toList ++ st) Q.2.1 Q.2.2.1 Q.2.2.2) : WW Y d mc ms R kc ks pc lv (As.reverse ++ .ref o :: st) n im rm := by
  intro p l e s m args below meth c D ca b H locs ls C hl hP hF0 hL
  obtain ⟨hx, hb, hr, hml, hown, htb, hlocks, hK, hbs, hnm⟩ := id C
  obtain ⟨c1, ⟨c2, c3⟩, c4, c5, c6⟩ := hc
  have hM' := hM l D ca b
  rw [hZ] at hM'
  rw [hZ] at c5
  have hcg : GoodIn lw_u [Cond.code Z.1 Z.2.1 Z.2.2.1 none] := by
    intro w hw
    rw [List.mem_singleton.mp hw]
    exact ⟨List.mem_filter.mpr ⟨c5, rfl⟩, Or.inl rfl⟩
  have cb : CallB (rmd d mc ms) s args Y.1.cls idx Z.1 Z.2.1 Z.2.2.1 none [Cond.code Z.1 Z.2.1 Z.2.2.1 none] (rmd d' mc' ms') mc' ms' k := callB_of k htb.u hcg rfl rfl rfl (htb _ c4 rfl) (htb _ c1 rfl) c6 hdp
  have hpre := pre_of (av := .ref o :: As) hP hK htb
  refine r_back (Q := Q) (a := (Value.ref (b + o) :: As.map (tv b)).toArray) (va_runI (b := b + o) (As := As.map (tv b)) (rest := st.map (tv b)) (Ts := lw_u) (g := F0 m pc ls ((As.reverse ++ .ref o :: st).map (tv b))) ⟨hx, hb, hml, hown, htb.u⟩ hM' ⟨cb, c2, htb _ c3 rfl⟩ hpre rfl (by rw [List.length_map]; exact hlen) hl.1 (call_stk b o As st) (by rw [cat_sum]; exact lv_room (m := m) (pc := pc) (ls := ls) (rest := []) hw) hd hm) C hl hF0 hL kk
theorem r_callJ {o : Nat} {As : List Value} (hZ : Z.2.2.2 = none) (hc : CJ Y.1.cls idx Z k) (hd : decode Y.2.1 pc = .ok (.invokespecial idx, 3)) (hM : MT Z d' mc' ms' (.ref o :: As) n im rm Q) (hdp : d' + 1 ≤ d ∧ 8 + (Z.2.2.1 + 11) + 37 * d' ≤ 37 * d) (hlen : As.length = k) (hw : (st.map fun v => v.category).sum ≤ 8) (hm : kc + mc' ≤ mc ∧ ks + ms' ≤ ms)
    (kk : WW Y d mc ms R (kc + mc') (ks + ms') (pc + 3) lv (Q.1.toList ++ st) Q.2.1 Q.2.2.1 Q.2.2.2) : WW Y d mc ms R kc ks pc lv (As.reverse ++ .ref o :: st) n im rm := by
  intro p l e s m args below meth c D ca b H locs ls C hl hP hF0 hL
  obtain ⟨hx, hb, hr, hml, hown, htb, hlocks, hK, hbs, hnm⟩ := id C
  obtain ⟨c1, ⟨c2, c3⟩, c4, c5, c6⟩ := hc
  have hM' := hM l D ca b
  rw [hZ] at hM'
  rw [hZ] at c5
  have hcg : GoodIn lw_u [Cond.code Z.1 Z.2.1 Z.2.2.1 none] := by
    intro w hw
    rw [List.mem_singleton.mp hw]
    exact ⟨List.mem_filter.mpr ⟨c5, rfl⟩, Or.inl rfl⟩
  have cb : va_CN (rmd d mc ms) s args Y.1.cls idx Z.1 "TurningWheel" Z.2.1 Z.2.2.1 none [Cond.code Z.1 Z.2.1 Z.2.2.1 none] (rmd d' mc' ms') mc' ms' k := va_cnB k htb.u hcg rfl rfl rfl (va_Nw.of rfl (htb _ c1 rfl)) (htb _ c4 rfl) c6 hdp
  have hpre := pre_of (av := .ref o :: As) hP hK htb
  refine r_back (Q := Q) (a := (Value.ref (b + o) :: As.map (tv b)).toArray) (va_runIN (b := b + o) (As := As.map (tv b)) (rest := st.map (tv b)) (Ts := lw_u) (g := F0 m pc ls ((As.reverse ++ .ref o :: st).map (tv b))) ⟨hx, hb, hml, hown, htb.u⟩ hM' ⟨cb, c2, htb _ c3 rfl⟩ hpre rfl (by rw [List.length_map]; exact hlen) hl.1 (call_stk b o As st) (by rw [cat_sum]; exact lv_room (m := m) (pc := pc) (ls := ls) (rest := []) hw) hd hm) C hl hF0 hL kk
theorem r_objI {o : Nat} (hc : Cond.methodLink Y.1.cls idx Lib.objectInit ∈ lw_tbl) (hd : decode Y.2.1 pc = .ok (.invokespecial idx, 3)) (h1 : 1 ≤ d) (hw : (st.map fun v => v.category).sum + 12 ≤ 37)
    (kk : WW Y d mc ms R kc ks (pc + 3) lv st n im rm) : WW Y d mc ms R kc ks pc lv (.ref o :: st) n im rm := by
  intro p l e s m args below meth c D ca b H locs ls C hl hP hF0 hL
  obtain ⟨hx, hb, hr, hml, hown, htb, hlocks, hK, hbs, hnm⟩ := id C
  refine W.objInit (g := F0 m pc ls (.ref (b + o) :: st.map (tv b))) hx hb hown (htb _ hc rfl) (htb _ oi_in rfl) (htb _ oi_co rfl) rfl (by rw [hml]; exact hl.1) rfl hd h1 ?_ (kk p l e s m args below meth c D ca b H locs ls C hl hP hF0 hL)
  rw [cat_sum]
  show 2 * 0 + _ + 12 ≤ 37 * d
  omega
theorem WW.loop (S : Nat → LV) (I : Nat → IM) {N : Nat} (hx : WW Y d mc ms R kc ks pc (S N) st n (I N) rm) (hs : ∀ t, t < N → WW Y d mc ms R kc ks pc (S (t + 1)) st n (I (t + 1)) rm → WW Y d mc ms R kc ks pc (S t) st n (I t) rm) : ∀ t, t ≤ N → WW Y d mc ms R kc ks pc (S t) st n (I t) rm := by
  have key : ∀ j t, t + j = N → WW Y d mc ms R kc ks pc (S t) st n (I t) rm := by
    intro j
    induction j with
    | zero => intro t h; rw [show t = N by omega]; exact hx
    | succ j ih => intro t h; exact hs t (by omega) (ih (t + 1) (by omega))
  exact fun t h => key (N - t) t (by omega)
end CALLS
