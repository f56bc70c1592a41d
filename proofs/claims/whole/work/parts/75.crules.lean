section CRULES
variable {Y Z : Card} {d mc ms : Nat} {R : Rs} {kc ks pc : Nat} {lv : LV} {sk : List Value} {n : Nat} {im : IM} {rm : RM}
theorem r_aast {k t len j v ci : Nat} {i : Int32} (hd : decode Y.2.1 pc = .ok (.aastore, 1)) (hk : kd k = (t, len)) (ht : (t = 3 ∧ ci = 0) ∨ (t = 4 ∧ ci = 6)) (hn : k < n) (hv : kd v = (0, ci)) (hvn : v < n) (hi : i = nI j) (hj : j < len) (hlen : len < 2147483648)
    (kk : WW Y d mc ms R kc ks (pc + 1) lv sk n im (upQ rm k j (some v))) : WW Y d mc ms R kc ks pc lv (.ref v :: .int i :: .ref k :: sk) n im rm := by
  intro p l e s m args below meth c D ca b H locs ls C hl hP hF0 hL
  have hK : va_K D vwCl (tyL ca) s := C.2.2.2.2.2.2.2.1
  obtain ⟨hin, hcl⟩ := vp_in_of_nI hi hj hlen
  have ht' : t = 3 ∨ t = 4 := by omega
  have hA := hP.arq hk ht' hn
  obtain ⟨r, h1, cellV, g1, g2, g3, -⟩ := hP.obj hv hvn
  obtain ⟨i0, hi0⟩ : ∃ i0 : Nat, (tyL ca)[i0]? = some (ca t, FieldType.object r.1) := by
    rcases ht with ⟨rfl, rfl⟩ | ⟨rfl, rfl⟩
    · cases h1; exact ⟨2, rfl⟩
    · cases h1; exact ⟨3, rfl⟩
  have hcls := (hK.1 ci r h1).2
  obtain ⟨kA, comp, k1, k2, k3, -⟩ := (hK.2 i0 _ hi0).2
  have hcomp : comp = D.1 ci := Option.some.inj (k3.symm.trans hcls.1)
  subst hcomp
  obtain ⟨kC, hkC, -⟩ := hcls.2
  have h0 : ¬ i < 0 := fun q => hin (Or.inl q)
  refine W.aast (a := b + k) (v := b + v) (j := i) C.1 C.2.1 hA (fun q h => by cases h) (fun h => by cases h) k1 k2 rfl hkC ⟨h0, by show _ < (arrV _ _ _).slots.size; rw [arrV_size, hcl]; exact hj⟩ g1 (fun q h => by rw [g3] at h; cases h) (by rw [g2]; exact hkC) (by rw [g2]; exact va_assign hcls) rfl rfl hd fun H' e1 e2 e3 => ?_
  refine kk p l e s m args below meth c D ca b H' _ ls C hl (hP.set e2 e3 (fun a h => ce_upQ h) (fun _ => ?_)) (fun q hq => (e3 q (Nat.ne_of_lt (Nat.lt_of_lt_of_le hq (Nat.le_add_right b k)))).trans (hF0 q hq)) (fun q hq => ?_)
  · have hgoal : H'[b + k]? = some (vp_cell (ca t) (len, .inr (.inr (.inr (.inr (rr b (upQ rm k j (some v)) k)))))) := by
      rw [e1, hcl, vp_cell_q, vp_cell_q, arrV_store]
      congr 2
      funext q
      unfold updV rr upQ
      by_cases hq : q = j
      · subst hq
        rw [if_pos rfl, if_pos ⟨rfl, rfl⟩]
        rfl
      · rw [if_neg hq, if_neg (fun z => hq z.2)]
    unfold ce ceT
    rw [hk]
    rcases ht' with rfl | rfl <;> exact hgoal
  · rcases List.mem_append.mp hq with h | h
    · exact hL q h
    · rw [List.mem_singleton.mp h]
      exact Nat.le_add_right b k
theorem r_pic {im' : IM} {rm' : RM} (h : ∀ k, k < n → im k = im' k ∧ rm k = rm' k) (kk : WW Y d mc ms R kc ks pc lv sk n im' rm') : WW Y d mc ms R kc ks pc lv sk n im rm := by
  intro p l e s m args below meth c D ca b H locs ls C hl hP hF0 hL
  refine kk p l e s m args below meth c D ca b H locs ls C hl ⟨hP.1, fun k hk => ?_⟩ hF0 hL
  have e : ce ca b im' rm' k = ce ca b im rm k := by
    unfold ce ceT fv rr
    rw [(h k hk).1, (h k hk).2]
  rw [e]
  exact hP.2 k hk
theorem q_new {idx ci kc2 ks2 n2 : Nat} (hF : CK Y.1.cls idx ci) (hd : decode Y.2.1 pc = .ok (.new idx, 3)) (hk : kd n = (0, ci)) (e1 : kc + 1 = kc2) (e2 : ks + nf ci = ks2) (e3 : n + 1 = n2) (hc : kc2 ≤ mc) (hs : ks2 ≤ ms)
    (kk : WW Y d mc ms R kc2 ks2 (pc + 3) lv (.ref n :: sk) n2 (upR im n (fun _ => 0)) (upN rm n)) : WW Y d mc ms R kc ks pc lv sk n im rm := by
  subst e1; subst e2; subst e3
  exact r_new hF hd hk hc hs kk
theorem q_newi {len kc2 ks2 n2 : Nat} {i : Int32} (hd : decode Y.2.1 pc = .ok (.newarray .int, 2)) (hk : kd n = (1, len)) (hi : i = nI len) (hlen : len < 1000) (e1 : kc + 1 = kc2) (e2 : ks + len = ks2) (e3 : n + 1 = n2) (hc : kc2 ≤ mc) (hs : ks2 ≤ ms)
    (kk : WW Y d mc ms R kc2 ks2 (pc + 2) lv (.ref n :: sk) n2 (upR im n (fun _ => 0)) (upN rm n)) : WW Y d mc ms R kc ks pc lv (.int i :: sk) n im rm := by
  subst e1; subst e2; subst e3
  exact r_newi hd hk hi hlen hc hs kk
theorem q_newz {len kc2 ks2 n2 : Nat} {i : Int32} (hd : decode Y.2.1 pc = .ok (.newarray .boolean, 2)) (hk : kd n = (2, len)) (hi : i = nI len) (hlen : len < 1000) (e1 : kc + 1 = kc2) (e2 : ks + len = ks2) (e3 : n + 1 = n2) (hc : kc2 ≤ mc) (hs : ks2 ≤ ms)
    (kk : WW Y d mc ms R kc2 ks2 (pc + 2) lv (.ref n :: sk) n2 (upR im n (fun _ => 0)) (upN rm n)) : WW Y d mc ms R kc ks pc lv (.int i :: sk) n im rm := by
  subst e1; subst e2; subst e3
  exact r_newz hd hk hi hlen hc hs kk
theorem q_newq {len t idx ci kc2 ks2 n2 : Nat} {i : Int32} (hd : decode Y.2.1 pc = .ok (.anewarray idx, 3)) (hF : CK Y.1.cls idx ci) (ht : (t = 3 ∧ ci = 0) ∨ (t = 4 ∧ ci = 6)) (hk : kd n = (t, len)) (hi : i = nI len) (hlen : len < 1000) (e1 : kc + 1 = kc2) (e2 : ks + len = ks2) (e3 : n + 1 = n2) (hc : kc2 ≤ mc) (hs : ks2 ≤ ms)
    (kk : WW Y d mc ms R kc2 ks2 (pc + 3) lv (.ref n :: sk) n2 (upR im n (fun _ => 0)) (upN rm n)) : WW Y d mc ms R kc ks pc lv (.int i :: sk) n im rm := by
  subst e1; subst e2; subst e3
  exact r_newq hd hF ht hk hi hlen hc hs kk
theorem q_callJ {d' mc' ms' idx o kc2 ks2 n1 n2 : Nat} {im1 : IM} {rm1 : RM} (hM : MT Z d' mc' ms' [.ref o] n im rm (none, n1, im1, rm1)) (hZ : Z.2.2.2 = none) (hc : CJ Y.1.cls idx Z 0) (hd : decode Y.2.1 pc = .ok (.invokespecial idx, 3)) (hdp : d' + 1 ≤ d ∧ 8 + (Z.2.2.1 + 11) + 37 * d' ≤ 37 * d) (hw : (sk.map fun v => v.category).sum ≤ 8) (e1 : kc + mc' = kc2) (e2 : ks + ms' = ks2) (e3 : n1 = n2) (h1 : kc2 ≤ mc) (h2 : ks2 ≤ ms)
    (kk : WW Y d mc ms R kc2 ks2 (pc + 3) lv sk n2 im1 rm1) : WW Y d mc ms R kc ks pc lv (.ref o :: sk) n im rm := by
  subst e1; subst e2; subst e3
  exact r_callJ (As := []) hZ hc hd hM hdp rfl hw ⟨h1, h2⟩ kk
theorem q_callI {d' mc' ms' idx o kc2 ks2 n1 n2 : Nat} {im1 : IM} {rm1 : RM} (hM : MT Z d' mc' ms' [.ref o] n im rm (none, n1, im1, rm1)) (hZ : Z.2.2.2 = none) (hc : CI Y.1.cls idx Z 0) (hd : decode Y.2.1 pc = .ok (.invokespecial idx, 3)) (hdp : d' + 1 ≤ d ∧ 8 + (Z.2.2.1 + 11) + 37 * d' ≤ 37 * d) (hw : (sk.map fun v => v.category).sum ≤ 8) (e1 : kc + mc' = kc2) (e2 : ks + ms' = ks2) (e3 : n1 = n2) (h1 : kc2 ≤ mc) (h2 : ks2 ≤ ms)
    (kk : WW Y d mc ms R kc2 ks2 (pc + 3) lv sk n2 im1 rm1) : WW Y d mc ms R kc ks pc lv (.ref o :: sk) n im rm := by
  subst e1; subst e2; subst e3
  exact r_callI (As := []) hZ hc hd hM hdp rfl hw ⟨h1, h2⟩ kk
theorem q_callI1 {d' mc' ms' idx o a kc2 ks2 n1 n2 : Nat} {im1 : IM} {rm1 : RM} (hM : MT Z d' mc' ms' [.ref o, .ref a] n im rm (none, n1, im1, rm1)) (hZ : Z.2.2.2 = none) (hc : CI Y.1.cls idx Z 1) (hd : decode Y.2.1 pc = .ok (.invokespecial idx, 3)) (hdp : d' + 1 ≤ d ∧ 8 + (Z.2.2.1 + 11) + 37 * d' ≤ 37 * d) (hw : (sk.map fun v => v.category).sum ≤ 8) (e1 : kc + mc' = kc2) (e2 : ks + ms' = ks2) (e3 : n1 = n2) (h1 : kc2 ≤ mc) (h2 : ks2 ≤ ms)
    (kk : WW Y d mc ms R kc2 ks2 (pc + 3) lv sk n2 im1 rm1) : WW Y d mc ms R kc ks pc lv (.ref a :: .ref o :: sk) n im rm := by
  subst e1; subst e2; subst e3
  exact r_callI (As := [.ref a]) hZ hc hd hM hdp rfl hw ⟨h1, h2⟩ kk
end CRULES
/-- the memory at first -/
def IM0 : IM := fun k j => if (k = 0 ∧ j = 0) ∨ (k = 1 ∧ j = 9) ∨ (k = 120 ∧ j = 2) then -1 else 0
def oI (im : IM) (a c : Nat) : IM := fun k j => if a ≤ k ∧ k < c then IM0 k j else im k j
def oR (rm : RM) (a c : Nat) : RM := fun k j => if a ≤ k ∧ k < c then RR 10 3 k j else rm k j
theorem IM0_0 {k j : Nat} (h : k ≠ 0) (h1 : k ≠ 1) (h2 : k ≠ 120) : IM0 k j = 0 := by
  unfold IM0
  rw [if_neg (by omega)]
theorem upR_at {im : IM} {k a j : Nat} {f : Nat → Int32} : upR im k f a j = if a = k then f j else im a j := by
  unfold upR
  split <;> rfl
theorem RR_none {pl it k j : Nat} (hk : (kd k).1 = 1 ∨ (kd k).1 = 2) : RR pl it k j = none := by
  unfold RR
  rw [if_neg (fun z => by subst z; revert hk; decide), if_neg (fun z => by subst z; revert hk; decide), if_neg (fun z => by rw [z] at hk; revert hk; decide), if_neg (fun z => by rw [z] at hk; revert hk; decide), if_neg (fun z => by subst z; revert hk; decide), if_neg (fun z => by subst z; revert hk; decide), if_neg (fun z => by subst z; revert hk; decide), if_neg (fun z => by subst z; revert hk; decide), if_neg (fun z => by subst z; revert hk; decide), if_neg (fun z => by rw [z] at hk; revert hk; decide), if_neg (fun z => by subst z; revert hk; decide)]
theorem RR_A {o j : Nat} (h : isA o) : RR 10 3 o j = if j = 6 then some (o + 1) else if j = 7 then some (o + 2) else if j = 8 then some (o + 3) else none := by
  obtain ⟨h1, h2, h3⟩ := isA_ne h
  unfold RR
  rw [if_neg h1, if_neg h2, if_neg h3, if_pos (kA0 h)]
  match j with
  | 0 => rfl
  | 1 => rfl
  | 2 => rfl
  | 3 => rfl
  | 4 => rfl
  | 5 => rfl
  | 6 => rfl
  | 7 => rfl
  | 8 => rfl
  | j + 9 => rw [if_neg (by omega), if_neg (by omega), if_neg (by omega)]; rfl
theorem RR_C {o j : Nat} (h : isC o) : RR 10 3 o j = if j = 1 then some (o + 1) else if j = 3 then some (o + 2) else if j = 4 then some (o + 3) else if j = 5 then some (o + 4) else if j = 7 then some (o + 5) else if j = 8 then some (o + 6) else none := by
  have h1 : o ≠ 0 ∧ o ≠ 1 := by rcases h with rfl | rfl <;> omega
  unfold RR
  rw [if_neg h1.1, if_neg h1.2, if_pos (kC0 h)]
  match j with
  | 0 => rfl
  | 1 => rfl
  | 2 => rfl
  | 3 => rfl
  | 4 => rfl
  | 5 => rfl
  | 6 => rfl
  | 7 => rfl
  | 8 => rfl
  | j + 9 => rw [if_neg (by omega), if_neg (by omega), if_neg (by omega), if_neg (by omega), if_neg (by omega), if_neg (by omega)]; rfl
