/-! THE CLAIM OUT OF ONE WALK OF THE LAW'S BODY. Your part is whole_start (and what it stands on); all else here is the same for every law, but numbers. -/
def R_law : String := "TurningWheelLaw"
def lw_P (b : Addr) (xs : List Int32) (args : Array Value) (s : State) : Prop := args = #[.ref b] ∧ s.IntsAt b xs ∧ xs.length ≤ 256 ∧ (Jvm.Cond.and given_1 narrow_1).before args s = true
def lw_Q (_ : Array Value) (s : State) (o : Outcome) (t : State) : Prop := o = .returned (some (.int 1)) ∧ Framed s o t [] 600000 7302250
def lw_Z (below : List Frame) (a : Array Value) (s : State) : State → Prop := fun t => ∃ o, t.status = .running ∧ Ended t below o ∧ lw_Q a s o t
/-- the law's own end, with 1 on the stack, nothing written that was there before, its room as the claim has it -/
theorem lw_ret {p : Program} {l : Launch} {e : Env} {s : State} {m : MethodId} {below : List Frame} {meth : Method} {c : Code} {b : Nat} (hx : p.tables.exec = Jvm.exec) (hb : c.code = code) (hr : meth.sig.returnType = ret) (hlocks : meth.locks = false) {pc : Nat} {H : Heap} {ls : Array Slot} (hdg : decode code pc = .ok (.ireturn, 1)) : W p l e room_1 s m #[Value.ref b] below meth c H [] 600000 7302250 (lw_Z below #[Value.ref b] s) (F0 m pc ls [.int 1]) := by
  intro T hT X
  obtain ⟨fs, hret, hrun, hended, hW, hframe⟩ := X.leave (v := some (.int 1)) (hlocks := hlocks) (fun h => by rw [hr] at h; cases h)
  have hmeth' : T.vm.method? m = some meth := X.method'
  refine ⟨T.setFrames fs, ?_, .returned (some (.int 1)), hrun, hended, rfl, ⟨_, rfl⟩, hW, hframe⟩
  jvm_step X.here [X.here.top, hx, hb, hdg, hmeth', hr, ret, narrow_b1]
  (try refine ⟨rfl, ?_⟩); (try refine ⟨rfl, ?_⟩)
  first | (intro acts; rw [hret _ acts rfl rfl rfl]) | rw [hret _ _ rfl rfl rfl]
  exact Steps.refl _
/-- what holds at the law's entry: the machine, the code, the tables' words (any of lw_tbl by 'hts w (by decide +kernel)'), the script of L ints xs at the cell b, what the Statement gives of the start (any of its parts by flat_of_before) -/
def lw_At (p : Program) (s : State) (m : MethodId) (meth : Method) (c : Code) (b L : Nat) (xs : Nat → Int32) : Prop :=
  p.tables.exec = Jvm.exec ∧ c.code = code ∧ meth.sig.returnType = ret ∧ c.maxLocals = 4 ∧ s.vm.findClass R_law = some m.cls ∧ (∀ w ∈ lw_tbl, w.before #[Value.ref b] s = true) ∧ va_X b L xs s s.heap ∧ b < s.heap.size ∧ meth.locks = false ∧ (Jvm.Cond.and given_1 narrow_1).before #[Value.ref b] s = true
theorem isA_IM0 {a : Nat} (h : isA a) (j : Nat) : IM0 a j = 0 := by
  have := isA_mod h
  exact IM0_0 (by omega) (by omega) (by omega)
/-- both are alike at first -/
theorem rel0 : Rel IM0 IM0 10 3 := by
  have z : ∀ k, k ≠ 0 → k ≠ 1 → k ≠ 120 → ∀ j, IM0 k j = 0 := fun k a b c j => IM0_0 a b c
  refine ⟨isC_10, isC_3, by decide, ?_, ?_, ?_, ?_, ?_, 0, 0, 0, 0, ?_, ?_, ?_, ?_⟩
  · intro a ha
    rw [isA_IM0 ha, isA_IM0 ha]
    exact ⟨Or.inl rfl, Or.inl rfl⟩
  · refine ⟨?_, rfl, 0, rfl, rfl, by omega, fun j hj => absurd hj (by omega)⟩
    funext j
    rw [z 2 (by omega) (by omega) (by omega), z 121 (by omega) (by omega) (by omega)]
  · exact ⟨0, rfl, rfl, by omega, fun j hj => absurd hj (by omega)⟩
  · exact ⟨0, rfl, rfl, by omega, fun j hj => absurd hj (by omega)⟩
  · exact ⟨0, rfl, rfl, by omega⟩
  · exact ⟨rfl, rfl, by omega, rfl, rfl, by omega, rfl, rfl, by omega, rfl, rfl, rfl, by omega, ⟨0, rfl, by omega⟩, fun _ => ⟨rfl, rfl, rfl⟩, fun y => absurd y (by omega), fun j hj => absurd hj (by omega), fun j hj => absurd hj (by omega), fun j hj => absurd hj (by omega)⟩
  · refine ⟨fun j _ => ?_, ?_, ⟨?_, fun _ => ?_⟩, fun s hs => absurd hs (by omega)⟩
    · rw [z 17 (by omega) (by omega) (by omega), z 130 (by omega) (by omega) (by omega)]
    · exact Or.inl (z 130 (by omega) (by omega) (by omega) 2)
    · exact Or.inl (z 130 (by omega) (by omega) (by omega) 3)
    · exact z 130 (by omega) (by omega) (by omega) 2
  · exact HR.empty (e := 0) rfl (by omega) rfl rfl
  · intro i hi
    have e : IM0 134 i = 0 := z 134 (by omega) (by omega) (by omega) i
    rw [e, z (110 + 5 * i) (by omega) (by omega) (by omega)]
    exact ⟨rfl, Or.inl rfl, fun y => absurd rfl y⟩
/-- the classes are known at the start -/
theorem known {args : Array Value} {s : State} (hts : ∀ w ∈ lw_tbl, w.before args s = true) : ∃ (D : va_G) (ca : Nat → ClassId), va_K D vwCl (tyL ca) s := by
  obtain ⟨c0, i0, k0⟩ := u_known (C := RX0) (T := TX0) (N := 9) (n := 9) hts kin_0 (hts _ wm_187)
  obtain ⟨c1, i1, k1⟩ := u_known (C := RX1) (T := TX1) (N := 2) (n := 2) hts kin_1 (hts _ wm_268)
  obtain ⟨c2, i2, k2⟩ := u_known (C := RX2) (T := TX2) (N := 11) (n := 11) hts kin_2 (hts _ wm_85)
  obtain ⟨c3, i3, k3⟩ := u_known (C := RX3) (T := TX3) (N := 1) (n := 1) hts kin_3 (hts _ wm_282)
  obtain ⟨c4, i4, k4⟩ := u_known (C := RX4) (T := TX4) (N := 3) (n := 3) hts kin_4 (hts _ wm_250)
  obtain ⟨c5, i5, k5⟩ := u_known (C := RX5) (T := TX5) (N := 3) (n := 3) hts kin_5 (hts _ wm_230)
  obtain ⟨c6, i6, k6⟩ := u_known (C := RX6) (T := TX6) (N := 3) (n := 3) hts kin_6 (hts _ wm_294)
  obtain ⟨c7, i7, k7⟩ := u_known (C := RX7) (T := TX7) (N := 10) (n := 10) hts kin_7 (hts _ wm_79)
  obtain ⟨c8, i8, k8⟩ := u_known (C := RX8) (T := TX8) (N := 9) (n := 9) hts kin_8 (hts _ wm_71)
  obtain ⟨c9, i9, k9⟩ := u_known (C := RX9) (T := TX9) (N := 24) (n := 24) hts kin_9 (hts _ wm_747)
  obtain ⟨a1, e1, p1, f1, g1, h1⟩ := Cond.arrayClass_spec (hts _ ac_int)
  obtain ⟨a2, e2, p2, f2, g2, h2⟩ := Cond.arrayClass_spec (hts _ ac_boolean)
  obtain ⟨p3, a3, e3, f3, -, g3, h3, j3⟩ := Cond.arrayOver_spec (hts _ ao_0)
  obtain ⟨p4, a4, e4, f4, -, g4, h4, j4⟩ := Cond.arrayOver_spec (hts _ ao_6)
  refine ⟨(fun k => ([c0, c1, c2, c3, c4, c5, c6, c7, c8, c9] : List ClassId).getD k c0, fun k => ([i0, i1, i2, i3, i4, i5, i6, i7, i8, i9] : List (Nat → Nat)).getD k i0), fun t => if t = 1 then a1 else if t = 2 then a2 else if t = 3 then a3 else a4, ?_, ?_⟩
  · intro k q hq
    match k, hq with
    | 0, hq => cases hq; exact k0
    | 1, hq => cases hq; exact k1
    | 2, hq => cases hq; exact k2
    | 3, hq => cases hq; exact k3
    | 4, hq => cases hq; exact k4
    | 5, hq => cases hq; exact k5
    | 6, hq => cases hq; exact k6
    | 7, hq => cases hq; exact k7
    | 8, hq => cases hq; exact k8
    | 9, hq => cases hq; exact k9
    | k + 10, hq => simp [vwCl] at hq
  · intro k q hq
    match k, hq with
    | 0, hq => cases hq; exact ⟨fun n z => ⟨(fun k h => by cases h), e1, g1, p1, h1⟩, f1⟩
    | 1, hq => cases hq; exact ⟨fun n z => ⟨(fun k h => by cases h), e2, g2, p2, h2⟩, f2⟩
    | 2, hq => cases hq; exact ⟨fun n z => ⟨(fun k h => by cases h), e3, g3, p3, h3⟩, e3, p3, g3, h3, f3, j3⟩
    | 3, hq => cases hq; exact ⟨fun n z => ⟨(fun k h => by cases h), e4, g4, p4, h4⟩, e4, p4, g4, h4, f4, j4⟩
    | k + 4, hq => simp at hq
/-- the law's walk: the script lies at sb, all cells of ours from b on -/
def LW (p : Program) (l : Launch) (e : Env) (s : State) (m : MethodId) (below : List Frame) (meth : Method) (c : Code) (sb : Nat) (D : va_G) (ca : Nat → ClassId) (kc ks pc : Nat) (lv : LV) (sk : List Value) (n : Nat) (im : IM) (rm : RM) : Prop :=
  ∀ (H : Heap) (locs : List Loc) (ls : Array Slot), lv_has ls 4 lv → Pic D ca s.heap.size n im rm H → (∀ q : Nat, q < s.heap.size → H[q]? = s.heap[q]?) → (∀ q ∈ locs, s.heap.size ≤ q.base) →
    W p l e room_1 s m #[Value.ref sb] below meth c H locs kc ks (lw_Z below #[Value.ref sb] s) (F0 m pc ls sk)
def LC (p : Program) (s : State) (m : MethodId) (meth : Method) (c : Code) (sb L : Nat) (xs : Nat → Int32) (D : va_G) (ca : Nat → ClassId) : Prop := lw_At p s m meth c sb L xs ∧ va_K D vwCl (tyL ca) s
section LAW
variable {p : Program} {l : Launch} {e : Env} {s : State} {m : MethodId} {below : List Frame} {meth : Method} {c : Code} {sb L : Nat} {xs : Nat → Int32} {D : va_G} {ca : Nat → ClassId} {kc ks pc : Nat} {lv : LV} {sk : List Value} {n : Nat} {im : IM} {rm : RM}
theorem LC.tb (h : LC p s m meth c sb L xs D ca) : TB #[Value.ref sb] s := fun w hw _ => h.1.2.2.2.2.2.1 w hw
theorem l_aload {i : Fin 4} {x : Nat} (h : LC p s m meth c sb L xs D ca) (hd : decode code pc = .ok (.aload_n i, 1)) (hk : lk lv (i : Nat) = some (.ref x)) (kk : LW p l e s m below meth c sb D ca kc ks (pc + 1) lv (.ref x :: sk) n im rm) : LW p l e s m below meth c sb D ca kc ks pc lv sk n im rm :=
  fun H locs ls hl hP hF hL => lv_aload_n h.1.1 h.1.2.1 hd rfl (hl.2.2 _ (lk_mem _ _ _ hk)) (kk H locs ls hl hP hF hL)
theorem l_iload {i : Fin 4} {x : Int32} (h : LC p s m meth c sb L xs D ca) (hd : decode code pc = .ok (.iload_n i, 1)) (hk : lk lv (i : Nat) = some (.int x)) (kk : LW p l e s m below meth c sb D ca kc ks (pc + 1) lv (.int x :: sk) n im rm) : LW p l e s m below meth c sb D ca kc ks pc lv sk n im rm :=
  fun H locs ls hl hP hF hL => lv_iload_n h.1.1 h.1.2.1 hd rfl (hl.2.2 _ (lk_mem _ _ _ hk)) (kk H locs ls hl hP hF hL)
theorem l_iconst {i : Int} {v : Int32} (h : LC p s m meth c sb L xs D ca) (hd : decode code pc = .ok (.iconst i, 1)) (hv : Int32.ofInt i = v) (kk : LW p l e s m below meth c sb D ca kc ks (pc + 1) lv (.int v :: sk) n im rm) : LW p l e s m below meth c sb D ca kc ks pc lv sk n im rm :=
  fun H locs ls hl hP hF hL => lv_iconst h.1.1 h.1.2.1 hd hv (kk H locs ls hl hP hF hL)
theorem l_bipush {i : Int} {v : Int32} (h : LC p s m meth c sb L xs D ca) (hd : decode code pc = .ok (.bipush i, 2)) (hv : (Int8.ofInt i).toInt32 = v) (kk : LW p l e s m below meth c sb D ca kc ks (pc + 2) lv (.int v :: sk) n im rm) : LW p l e s m below meth c sb D ca kc ks pc lv sk n im rm :=
  fun H locs ls hl hP hF hL => lv_bipush h.1.1 h.1.2.1 hd hv (kk H locs ls hl hP hF hL)
theorem l_iadd {x y z : Int32} (h : LC p s m meth c sb L xs D ca) (hd : decode code pc = .ok (.iadd, 1)) (e' : x + y = z) (kk : LW p l e s m below meth c sb D ca kc ks (pc + 1) lv (.int z :: sk) n im rm) : LW p l e s m below meth c sb D ca kc ks pc lv (.int y :: .int x :: sk) n im rm := by
  subst e'
  exact fun H locs ls hl hP hF hL => lv_iadd h.1.1 h.1.2.1 hd (kk H locs ls hl hP hF hL)
theorem l_isub {x y : Int32} (h : LC p s m meth c sb L xs D ca) (hd : decode code pc = .ok (.isub, 1)) (kk : LW p l e s m below meth c sb D ca kc ks (pc + 1) lv (.int (x - y) :: sk) n im rm) : LW p l e s m below meth c sb D ca kc ks pc lv (.int y :: .int x :: sk) n im rm :=
  fun H locs ls hl hP hF hL => lv_isub h.1.1 h.1.2.1 hd (kk H locs ls hl hP hF hL)
theorem l_iand {x y : Int32} (h : LC p s m meth c sb L xs D ca) (hd : decode code pc = .ok (.iand, 1)) (kk : LW p l e s m below meth c sb D ca kc ks (pc + 1) lv (.int (x &&& y) :: sk) n im rm) : LW p l e s m below meth c sb D ca kc ks pc lv (.int y :: .int x :: sk) n im rm :=
  fun H locs ls hl hP hF hL => lv_iand h.1.1 h.1.2.1 hd (kk H locs ls hl hP hF hL)
theorem l_goto {off : Int} {tgt : Nat} (h : LC p s m meth c sb L xs D ca) (hd : decode code pc = .ok (.goto off, 3)) (ht : (pc : Int) + off = (tgt : Int)) (kk : LW p l e s m below meth c sb D ca kc ks tgt lv sk n im rm) : LW p l e s m below meth c sb D ca kc ks pc lv sk n im rm :=
  fun H locs ls hl hP hF hL => lv_goto h.1.1 h.1.2.1 hd ht (kk H locs ls hl hP hF hL)
theorem l_ifeq {x : Int32} {off : Int} {tgt : Nat} (h : LC p s m meth c sb L xs D ca) (hd : decode code pc = .ok (.ifCond .eq off, 3)) (ht : (pc : Int) + off = (tgt : Int)) (kt : x = 0 → LW p l e s m below meth c sb D ca kc ks tgt lv sk n im rm) (kf : ¬ x = 0 → LW p l e s m below meth c sb D ca kc ks (pc + 3) lv sk n im rm) : LW p l e s m below meth c sb D ca kc ks pc lv (.int x :: sk) n im rm :=
  fun H locs ls hl hP hF hL => lv_if_eq h.1.1 h.1.2.1 hd ht (fun q => kt q H locs ls hl hP hF hL) (fun q => kf q H locs ls hl hP hF hL)
theorem l_icmpeq {x : Int32} {off : Int} {tgt : Nat} (h : LC p s m meth c sb L xs D ca) (hd : decode code pc = .ok (.if_icmp .eq off, 3)) (ht : (pc : Int) + off = (tgt : Int)) (kt : LW p l e s m below meth c sb D ca kc ks tgt lv sk n im rm) : LW p l e s m below meth c sb D ca kc ks pc lv (.int x :: .int x :: sk) n im rm :=
  fun H locs ls hl hP hF hL => lv_icmp_eq h.1.1 h.1.2.1 hd ht (fun _ => kt H locs ls hl hP hF hL) (fun q => absurd rfl q)
theorem l_icmpgt {x y : Int32} {off : Int} {tgt : Nat} (h : LC p s m meth c sb L xs D ca) (hd : decode code pc = .ok (.if_icmp .gt off, 3)) (ht : (pc : Int) + off = (tgt : Int)) (kt : y < x → LW p l e s m below meth c sb D ca kc ks tgt lv sk n im rm) (kf : ¬ y < x → LW p l e s m below meth c sb D ca kc ks (pc + 3) lv sk n im rm) : LW p l e s m below meth c sb D ca kc ks pc lv (.int y :: .int x :: sk) n im rm :=
  fun H locs ls hl hP hF hL => lv_icmp_gt h.1.1 h.1.2.1 hd ht (fun q => kt q H locs ls hl hP hF hL) (fun q => kf q H locs ls hl hP hF hL)
theorem l_tabOut {dflt lo hi : Int} {offs : Array Int} {len : Nat} {x : Int32} {tgt : Nat} (h : LC p s m meth c sb L xs D ca) (hd : decode code pc = .ok (.tableswitch dflt lo hi offs, len)) (hx : x.toInt < lo ∨ hi < x.toInt) (ht : (pc : Int) + dflt = (tgt : Int)) (kk : LW p l e s m below meth c sb D ca kc ks tgt lv sk n im rm) : LW p l e s m below meth c sb D ca kc ks pc lv (.int x :: sk) n im rm :=
  fun H locs ls hl hP hF hL => lv_tableOut h.1.1 h.1.2.1 hd hx ht (kk H locs ls hl hP hF hL)
theorem l_tabIn {dflt lo hi : Int} {offs : Array Int} {len : Nat} {x : Int32} {off : Int} {tgt : Nat} (h : LC p s m meth c sb L xs D ca) (hd : decode code pc = .ok (.tableswitch dflt lo hi offs, len)) (h1 : ¬ x.toInt < lo) (h2 : ¬ hi < x.toInt) (ho : offs[(x.toInt - lo).toNat]? = some off) (ht : (pc : Int) + off = (tgt : Int)) (kk : LW p l e s m below meth c sb D ca kc ks tgt lv sk n im rm) : LW p l e s m below meth c sb D ca kc ks pc lv (.int x :: sk) n im rm :=
  fun H locs ls hl hP hF hL => lv_tableIn h.1.1 h.1.2.1 hd h1 h2 ho ht (kk H locs ls hl hP hF hL)
theorem l_S {H : Heap} {locs : List Loc} (hP : Pic D ca s.heap.size n im rm H) (hF : ∀ q : Nat, q < s.heap.size → H[q]? = s.heap[q]?) (hL : ∀ q ∈ locs, s.heap.size ≤ q.base) : va_S (fun q : Nat => s.heap.size ≤ q) s.heap H locs := ⟨by rw [hP.1]; omega, fun q hq _ => hF q hq, hL⟩
theorem l_sld {j : Nat} {i : Int32} (h : LC p s m meth c sb L xs D ca) (hL256 : L ≤ 256) (hd : decode code pc = .ok (.iaload, 1)) (hi : i = nI j) (hj : j < L) (kk : LW p l e s m below meth c sb D ca kc ks (pc + 1) lv (.int (xs j) :: sk) n im rm) : LW p l e s m below meth c sb D ca kc ks pc lv (.int i :: .ref sb :: sk) n im rm := by
  intro H locs ls hl hP hF hL
  obtain ⟨hx, hb, hr, hml, hown, hts, hX, hbl, hlocks, hgv⟩ := id h.1
  obtain ⟨hin, hcl⟩ := vp_in_of_nI hi hj (by omega)
  refine va_sld (A := fun q : Nat => s.heap.size ≤ q) hx hb hX hbl (Nat.not_le.mpr hbl) (l_S hP hF hL) hin hd ?_
  rw [hcl]
  exact kk H locs ls hl hP hF hL
theorem l_slen (h : LC p s m meth c sb L xs D ca) (hd : decode code pc = .ok (.arraylength, 1)) (kk : LW p l e s m below meth c sb D ca kc ks (pc + 1) lv (.int (nI L) :: sk) n im rm) : LW p l e s m below meth c sb D ca kc ks pc lv (.ref sb :: sk) n im rm := by
  intro H locs ls hl hP hF hL
  obtain ⟨hx, hb, hr, hml, hown, hts, hX, hbl, hlocks, hgv⟩ := id h.1
  exact va_slen (A := fun q : Nat => s.heap.size ≤ q) hx hb hX hbl (Nat.not_le.mpr hbl) (l_S hP hF hL) hd (kk H locs ls hl hP hF hL)
theorem l_dup {v : Value} (h : LC p s m meth c sb L xs D ca) (hd : decode code pc = .ok (.dup, 1)) (hv : v.category = 1) (kk : LW p l e s m below meth c sb D ca kc ks (pc + 1) lv (v :: v :: sk) n im rm) : LW p l e s m below meth c sb D ca kc ks pc lv (v :: sk) n im rm :=
  fun H locs ls hl hP hF hL => lv_dup h.1.1 h.1.2.1 hd hv (kk H locs ls hl hP hF hL)
theorem l_astore {i : Fin 4} {x : Nat} {lv' : LV} (h : LC p s m meth c sb L xs D ca) (hd : decode code pc = .ok (.astore_n i, 1)) (he : (((i : Nat), Value.ref x) :: ld lv (i : Nat)) = lv') (kk : LW p l e s m below meth c sb D ca kc ks (pc + 1) lv' sk n im rm) : LW p l e s m below meth c sb D ca kc ks pc lv (.ref x :: sk) n im rm :=
  fun H locs ls hl hP hF hL => lv_astore_n h.1.1 h.1.2.1 hd rfl hl i.2 he (fun ls hl => kk H locs ls hl hP hF hL)
theorem l_istore {i : Fin 4} {x : Int32} {lv' : LV} (h : LC p s m meth c sb L xs D ca) (hd : decode code pc = .ok (.istore_n i, 1)) (he : (((i : Nat), Value.int x) :: ld lv (i : Nat)) = lv') (kk : LW p l e s m below meth c sb D ca kc ks (pc + 1) lv' sk n im rm) : LW p l e s m below meth c sb D ca kc ks pc lv (.int x :: sk) n im rm :=
  fun H locs ls hl hP hF hL => lv_istore_n h.1.1 h.1.2.1 hd rfl hl i.2 he (fun ls hl => kk H locs ls hl hP hF hL)
theorem l_iinc {i k : Nat} {a : Int} {x v : Int32} {lv' : LV} (h : LC p s m meth c sb L xs D ca) (hd : decode code pc = .ok (.iinc i a, 3)) (hk : lv[k]? = some (i, .int x)) (hv : x + Int32.ofInt a = v) (hi : i < 4) (he : ((i, Value.int v) :: ld lv i) = lv') (kk : LW p l e s m below meth c sb D ca kc ks (pc + 3) lv' sk n im rm) : LW p l e s m below meth c sb D ca kc ks pc lv sk n im rm :=
  fun H locs ls hl hP hF hL => lv_iinc h.1.1 h.1.2.1 hd hl hk hv hi he (fun ls hl => kk H locs ls hl hP hF hL)
theorem l_back {H : Heap} {locs : List Loc} {ls : Array Slot} {mc' ms' : Nat} {Q : Rs} {a : Array Value} {st0 : List Value}
    (hr : va_Run p l e room_1 s m #[Value.ref sb] below meth c H locs kc ks mc' ms' (F0 m pc ls st0) sk (QQ D ca s.heap.size Q a) (fun q => s.heap.size ≤ q)) (hl : lv_has ls 4 lv) (hF : ∀ q : Nat, q < s.heap.size → H[q]? = s.heap[q]?) (hL : ∀ q ∈ locs, s.heap.size ≤ q.base)
    (kk : LW p l e s m below meth c sb D ca (kc + mc') (ks + ms') (pc + 3) lv ((Q.1.map (tv s.heap.size)).toList ++ sk) Q.2.1 Q.2.2.1 Q.2.2.2) : W p l e room_1 s m #[Value.ref sb] below meth c H locs kc ks (lw_Z below #[Value.ref sb] s) (F0 m pc ls st0) := by
  intro T hT X
  obtain ⟨v, st₀, t, T', L', h0, X', hL', e1, e2, ⟨hv, hP, hk⟩, stp⟩ := hr T hT X
  cases hv
  obtain ⟨t2, a1, b1⟩ := kk T'.heap (locs ++ L') ls hl (by rw [e1]; exact hP) (fun q hq => by rw [e1, hk q hq, h0]; exact hF q hq) (fun q hq => by
    rcases List.mem_append.mp hq with h | h
    · exact hL q h
    · exact hL' q h) T' rfl X'
  exact ⟨t2, stp t2 a1, b1⟩
theorem l_callV {Z : Card} {o ci idx k d' : Nat} {As : List Value} {v : Int32} {im1 : IM} {rm1 : RM} (h : LC p s m meth c sb L xs D ca) (hc : CV RL idx Z k) (hd : decode code pc = .ok (.invokevirtual idx, 3)) (hM : MT Z d' 0 0 (.ref o :: As) n im rm (some (.int v), 137, im1, rm1)) (hdp : d' ≤ 6 ∧ Z.2.2.1 ≤ 50) (hlen : As.length = k) (hAs : As.map (tv s.heap.size) = As) (ho : kd o = (0, ci)) (hon : o < n) (hcl : ∀ r : vw_C, vwCl[ci]? = some r → r.1 = Z.1.cls) (hw : (sk.map fun v => v.category).sum ≤ 8) (hkc : kc ≤ 600000 ∧ ks ≤ 7302250)
    (kk : LW p l e s m below meth c sb D ca kc ks (pc + 3) lv (.int v :: sk) 137 im1 rm1) : LW p l e s m below meth c sb D ca kc ks pc lv (As.reverse ++ .ref (s.heap.size + o) :: sk) n im rm := by
  intro H locs ls hl hP hF0 hL
  obtain ⟨hx, hb, hr, hml, hown, hts, hX, hbl, hlocks, hgv⟩ := id h.1
  have htb := h.tb
  have hK := h.2
  obtain ⟨c1, c2, c3, c4, c5, c6⟩ := hc
  have cb : CallB room_1 s #[Value.ref sb] RL idx Z.1 Z.2.1 Z.2.2.1 Z.2.2.2 [Cond.code Z.1 Z.2.1 Z.2.2.1 Z.2.2.2] (rmd d' 0 0) 0 0 k := callB_of k htb.u (code_good htb c5) rfl rfl rfl (htb _ c4 rfl) (htb _ c1 rfl) c6 ⟨show d' + 1 ≤ 9 by omega, show 8 + (Z.2.2.1 + 11) + 37 * d' ≤ 300 by omega⟩
  have hpre := pre_of (av := .ref o :: As) hP hK htb
  rw [List.map_cons, hAs] at hpre
  have hM' := hM l D ca s.heap.size
  rw [List.map_cons, hAs] at hM'
  obtain ⟨r, h1, cell, q1, q2, q3, q4⟩ := hP.obj ho hon
  have hcell : ∃ cellB : Cell, H[s.heap.size + o]? = some cellB ∧ cellB.vm.isStatics = false ∧ s.vm.findClass Z.1.cls = some cellB.cls := ⟨cell, q1, by rw [q3]; rfl, by rw [q2, ← hcl r h1]; exact (hK.1 ci r h1).2.1⟩
  exact l_back (Q := (some (.int v), 137, im1, rm1)) (a := (Value.ref (s.heap.size + o) :: As).toArray) (va_runV (C := Z.1.cls) (b := s.heap.size + o) (As := As) (rest := sk) (Ts := lw_u) (own := RL) (g := F0 m pc ls (As.reverse ++ .ref (s.heap.size + o) :: sk)) ⟨hx, hb, hml, hown, htb.u⟩ hM' ⟨cb, htb _ c2 rfl, htb _ c3 rfl⟩ ⟨hpre.1, hcell, hpre.2⟩ rfl hlen hl.1 rfl (lv_room (m := m) (pc := pc) (ls := ls) (rest := []) hw) hd ⟨hkc.1, hkc.2⟩) hl hF0 hL kk
theorem l_callI {Z : Card} {o idx d' mc' ms' n1 kc2 ks2 : Nat} {im1 : IM} {rm1 : RM} (h : LC p s m meth c sb L xs D ca) (hM : MT Z d' mc' ms' [.ref o] n im rm (none, n1, im1, rm1)) (hZ : Z.2.2.2 = none) (hc : CI RL idx Z 0) (hd : decode code pc = .ok (.invokespecial idx, 3)) (hdp : d' ≤ 6 ∧ Z.2.2.1 ≤ 50) (hw : (sk.map fun v => v.category).sum ≤ 8) (e1 : kc + mc' = kc2) (e2 : ks + ms' = ks2) (hkc : kc2 ≤ 600000 ∧ ks2 ≤ 7302250)
    (kk : LW p l e s m below meth c sb D ca kc2 ks2 (pc + 3) lv sk n1 im1 rm1) : LW p l e s m below meth c sb D ca kc ks pc lv (.ref (s.heap.size + o) :: sk) n im rm := by
  subst e1; subst e2
  intro H locs ls hl hP hF0 hL
  obtain ⟨hx, hb, hr, hml, hown, hts, hX, hbl, hlocks, hgv⟩ := id h.1
  have htb := h.tb
  have hK := h.2
  obtain ⟨c1, ⟨c2, c3⟩, c4, c5, c6⟩ := hc
  have hM' := hM l D ca s.heap.size
  rw [hZ] at hM'
  rw [hZ] at c5
  have hcg : GoodIn lw_u [Cond.code Z.1 Z.2.1 Z.2.2.1 none] := by
    intro w hw
    rw [List.mem_singleton.mp hw]
    exact ⟨List.mem_filter.mpr ⟨c5, rfl⟩, Or.inl rfl⟩
  have cb : CallB room_1 s #[Value.ref sb] RL idx Z.1 Z.2.1 Z.2.2.1 none [Cond.code Z.1 Z.2.1 Z.2.2.1 none] (rmd d' mc' ms') mc' ms' 0 := callB_of 0 htb.u hcg rfl rfl rfl (htb _ c4 rfl) (htb _ c1 rfl) c6 ⟨show d' + 1 ≤ 9 by omega, show 8 + (Z.2.2.1 + 11) + 37 * d' ≤ 300 by omega⟩
  have hpre := pre_of (av := [.ref o]) hP hK htb
  exact l_back (Q := (none, n1, im1, rm1)) (a := (Value.ref (s.heap.size + o) :: []).toArray) (va_runI (b := s.heap.size + o) (As := []) (rest := sk) (Ts := lw_u) (own := RL) (g := F0 m pc ls (.ref (s.heap.size + o) :: sk)) ⟨hx, hb, hml, hown, htb.u⟩ hM' ⟨cb, c2, htb _ c3 rfl⟩ hpre rfl rfl hl.1 rfl (lv_room (m := m) (pc := pc) (ls := ls) (rest := []) hw) hd ⟨hkc.1, hkc.2⟩) hl hF0 hL kk
theorem l_new {idx ci kc2 ks2 n2 : Nat} (h : LC p s m meth c sb L xs D ca) (hF : CK RL idx ci) (hd : decode code pc = .ok (.new idx, 3)) (hk : kd n = (0, ci)) (e1 : kc + 1 = kc2) (e2 : ks + nf ci = ks2) (e3 : n + 1 = n2) (hc : kc2 ≤ 600000) (hs : ks2 ≤ 7302250)
    (kk : LW p l e s m below meth c sb D ca kc2 ks2 (pc + 3) lv (.ref (s.heap.size + n) :: sk) n2 (upR im n (fun _ => 0)) (upN rm n)) : LW p l e s m below meth c sb D ca kc ks pc lv sk n im rm := by
  subst e1; subst e2; subst e3
  intro H locs ls hl hP hF0 hL
  obtain ⟨hx, hb, hr, hml, hown, hts, hX, hbl, hlocks, hgv⟩ := id h.1
  have htb := h.tb
  have hK := h.2
  obtain ⟨C0, T, N, hcl, hlink, hins, hini⟩ := hF
  obtain ⟨hin, ⟨ty0, hty, hnms, hdef⟩, hN⟩ := klass hcl
  subst hN
  have hKn := hK.1 ci _ hcl
  refine W.newcK hx hb (own := RL) hown (htb _ hlink rfl) (htb _ hins rfl) (htb _ hini rfl) rfl hd hc hs hKn.2.1 hP.1 fun H1 kC hkC e1 z1 o1 => ?_
  refine kk H1 _ ls hl (hP.push z1 o1 (fun a ha => ce_upN (by omega)) ?_) (fun q hq => (o1 q (by omega)).trans (hF0 q hq)) hL
  unfold ce ceT
  rw [hk]
  refine ⟨_, hcl, (u_born ty0 htb.u hin hKn hkC e1 hty).to (fun i hi => ?_)⟩
  show defaultValue (ty0 i) = vp_V ((List.range (nf ci)).map _) i
  rw [vp_V_fv hi, hdef i hi]
  unfold fv rr upN
  rw [upR_same, if_pos rfl]
  rfl
theorem l_pic {im' : IM} {rm' : RM} (h : ∀ k, k < n → im k = im' k ∧ rm k = rm' k) (kk : LW p l e s m below meth c sb D ca kc ks pc lv sk n im' rm') : LW p l e s m below meth c sb D ca kc ks pc lv sk n im rm := by
  intro H locs ls hl hP hF0 hL
  refine kk H locs ls hl ⟨hP.1, fun k hk => ?_⟩ hF0 hL
  have e : ce ca s.heap.size im' rm' k = ce ca s.heap.size im rm k := by
    unfold ce ceT fv rr
    rw [(h k hk).1, (h k hk).2]
  rw [e]
  exact hP.2 k hk
theorem l_end (h : LC p s m meth c sb L xs D ca) (hkc : kc ≤ 600000 ∧ ks ≤ 7302250) (hd : decode code pc = .ok (.ireturn, 1)) : LW p l e s m below meth c sb D ca kc ks pc lv [.int 1] n im rm := by
  intro H locs ls hl hP hF hL
  obtain ⟨hx, hb, hr, hml, hown, hts, hX, hbl, hlocks, hgv⟩ := id h.1
  refine va_forget hL ?_
  refine W.widen hkc.1 hkc.2 ?_
  exact lw_ret hx hb hr hlocks hd
end LAW
