/-- what the model's reader leaves as it was -/
def ZF (M M' : IM) : Prop := (∀ r, r ≠ 120 → (r < 126 ∨ 129 < r) → M' r = M r) ∧ (∀ j, j ≠ 22 → j ≠ 23 → M' 120 j = M 120 j)
theorem ZF.rfl' {M : IM} : ZF M M := ⟨fun _ _ _ => rfl, fun _ _ _ => rfl⟩
theorem ZF.trans {M M' M2 : IM} (h : ZF M M') (h' : ZF M' M2) : ZF M M2 := ⟨fun r a b => (h'.1 r a b).trans (h.1 r a b), fun j a b => (h'.2 j a b).trans (h.2 j a b)⟩
theorem ZF.arr {M : IM} {k j : Nat} {x : Int32} (hk : 126 ≤ k ∧ k ≤ 129) : ZF M (st M k j x) := ⟨fun r _ b => st_row (by omega), fun _ _ _ => st_ne (by omega)⟩
theorem ZF.pos {M : IM} {j : Nat} {x : Int32} (hj : j = 22 ∨ j = 23) : ZF M (st M 120 j x) := ⟨fun r a _ => st_row a, fun _ _ _ => st_ne (by omega)⟩
theorem ZF.skz {M : IM} : ZF M (zsk M) := by
  unfold zsk
  split
  · exact ZF.pos (Or.inl rfl)
  · exact ZF.rfl'
theorem ZF.fl {M : IM} {k : Int32} : ZF M (zfl M k) := ZF.pos (Or.inr rfl)
theorem ZF.wd {M : IM} {c : Int32} : ZF M (zwd M c) := by
  unfold zwd
  split
  · split
    · exact ZF.skz.trans (ZF.pos (Or.inl rfl))
    · exact ZF.skz.trans ZF.fl
  · exact ZF.skz
theorem ZF.nn {M : IM} {lo hi : Int32} : ZF M (znn M lo hi).2 := by
  unfold znn
  split
  · split
    · exact ZF.fl
    · dsimp only
      split
      · exact ZF.fl
      · exact ZF.pos (Or.inl rfl)
  · exact ZF.rfl'
theorem ZF.nm {M : IM} {lo hi : Int32} : ZF M (znm M lo hi).2 := ZF.skz.trans ZF.nn
theorem ZF.op {M : IM} {f : Bool} : ZF M (zop M f) := by
  cases f with
  | false => exact ZF.pos (Or.inl rfl)
  | true => exact ZF.fl.trans (ZF.pos (Or.inl rfl))
theorem ZF.wq {q : Int32 × IM} {x a : Int32} : ZF q.2 (zwq x a q).2 := by
  unfold zwq
  split
  · exact (ZF.pos (Or.inl rfl)).trans ZF.fl
  · exact ZF.rfl'
theorem ZF.wy {M : IM} {a lo : Int32} : ZF M (zwy M a lo).2 := ZF.skz.trans (ZF.nm.trans ZF.wq)
theorem ZF.py {M : IM} : ZF M (zpy M) := by
  unfold zpy
  split
  · unfold zpy2 zpy3
    exact ZF.op.trans (ZF.nm.trans ((ZF.arr (by omega)).trans (ZF.nm.trans ((ZF.arr (by omega)).trans ZF.wd))))
  · exact ZF.op
theorem ZF.sv {M : IM} : ZF M (zsv M) := by
  unfold zsv
  split
  · exact ZF.op
  · unfold zsv2 zsv3 zsv4
    exact ZF.op.trans (ZF.wy.trans ((ZF.arr (by omega)).trans (ZF.nm.trans ((ZF.arr (by omega)).trans (ZF.wd.trans (ZF.arr (by omega)))))))
theorem ZF.ts {M : IM} : ZF M (zts M) := by
  unfold zts
  split
  · exact ZF.op
  · unfold zts2 zts3 zts4 zts5
    exact ZF.op.trans (ZF.wy.trans ((ZF.arr (by omega)).trans (ZF.nm.trans ((ZF.arr (by omega)).trans (ZF.nm.trans ((ZF.arr (by omega)).trans (ZF.wd.trans (ZF.arr (by omega)))))))))
theorem ZF.ww2 {n : Nat} {q : Int32 × IM} : ZF q.2 (zww2 n q) := (ZF.arr (by omega)).trans (ZF.arr (by omega))
theorem ZF.ww {M : IM} : ZF M (zww M) := by
  unfold zww
  split
  · exact (ZF.pos (Or.inl rfl)).trans (ZF.nm.trans ZF.ww2)
  · exact ZF.fl
theorem ZF.wv : ∀ {n : Nat} {M : IM}, ZF M (zwv n M)
  | 0, _ => ZF.rfl'
  | n + 1, M => by
    unfold zwv
    split
    · exact ZF.ww.trans (ZF.skz.trans ZF.wv)
    · exact ZF.rfl'
theorem ZF.ws {M : IM} : ZF M (zws M) := by
  unfold zws
  split
  · unfold zws2
    exact ZF.op.trans (ZF.nm.trans ((ZF.arr (by omega)).trans ((ZF.arr (by omega)).trans (ZF.skz.trans (ZF.wv.trans ZF.wd)))))
  · exact ZF.op
theorem ZF.cl {M : IM} : ZF M (zcl M) := by
  unfold zcl
  split
  · exact ZF.ws
  · split
    · exact ZF.fl
    · split
      · exact ZF.ts
      · split
        · exact ZF.sv
        · split
          · exact ZF.py
          · exact ZF.fl
theorem ZF.rd : ∀ {n : Nat} {M : IM}, ZF M (zrd n M)
  | 0, _ => ZF.rfl'
  | n + 1, M => by
    unfold zrd
    split
    · exact ZF.cl.trans (ZF.skz.trans ZF.rd)
    · exact ZF.rfl'
def DQ (X M : IM) (it : Nat) : Prop := ∃ W T S, 2 ≤ W ∧ DW X M it W ∧ DT X M it W T ∧ DV X M it W S ∧ DP X M it
theorem DQ.skz {X M : IM} {it : Nat} (h : DQ X M it) : DQ X (zsk M) it := by
  obtain ⟨W, T, S, h2, hW, hT, hS, hP⟩ := h
  have e : ∀ r, r ≠ 120 → zsk M r = M r := fun r h => zsk_row h
  exact ⟨W, T, S, h2, hW.skz, hT.congr rfl (by rw [e _ (by decide)]) rfl rfl rfl (e _ (by decide)), hS.congr rfl (by rw [e _ (by decide)]) rfl rfl (e _ (by decide)), hP.congr rfl rfl rfl (by rw [e _ (by decide)]) (by rw [e _ (by decide)])⟩
/-- a clause -/
theorem rc_sim {X M : IM} {it L p : Nat} (hI : isC it) (h : PS X M L p) (hs : sk (M 121) L p = p) (hD : DQ X M it) :
    ((rcF X it).1 = true ∧ (∃ p', PS (rcF X it).2 (zcl M) L p') ∧ DQ (rcF X it).2 (zcl M) it) ∨ ((rcF X it).1 = false ∧ FS (rcF X it).2 (zcl M)) := by
  obtain ⟨W, T, S, h2, hW, hT, hS, hP⟩ := hD
  have hlk := look_fix h hs
  have hW8 := hW.2.2.1
  have hp0 : ¬ M 126 0 ≤ 0 := by
    rw [hW.2.1]
    exact nI_ge (a := 0) (by omega) (by omega)
  have hn0 : ¬ M 126 0 = 0 := fun z => hp0 (by rw [z]; decide)
  unfold rcF zcl
  rw [← hlk]
  by_cases q1 : lxX X = 119
  · right
    have q1' : lxX X = nI 119 := q1
    rw [if_pos q1', if_pos q1, zws, if_neg hp0]
    exact ⟨rfl, op_full h hs⟩
  · have q1' : ¬ lxX X = nI 119 := q1
    rw [if_neg q1', if_neg q1, if_neg hn0]
    by_cases q2 : lxX X = 116
    · have q2' : lxX X = nI 116 := q2
      rw [if_pos q2', if_pos q2]
      rcases ts_sim hI h hs q2 hW hT hS hP with ⟨a, b, c, d, e, f⟩ | g
      · exact Or.inl ⟨a, b, W, T + 1, S, h2, c, d, e, f⟩
      · exact Or.inr g
    · have q2' : ¬ lxX X = nI 116 := q2
      rw [if_neg q2', if_neg q2]
      by_cases q3 : lxX X = 115
      · have q3' : lxX X = nI 115 := q3
        rw [if_pos q3', if_pos q3]
        rcases sv_sim hI h hs q3 hW hT hS hP with ⟨a, b, c, d, e, f⟩ | g
        · exact Or.inl ⟨a, b, W, T, S + 1, h2, c, d, e, f⟩
        · exact Or.inr g
      · have q3' : ¬ lxX X = nI 115 := q3
        rw [if_neg q3', if_neg q3]
        by_cases q4 : lxX X = 112
        · have q4' : lxX X = nI 112 := q4
          rw [if_pos q4', if_pos q4]
          rcases py_sim hI h hs q4 hW hT hS hP with ⟨a, b, c, d, e, f⟩ | g
          · exact Or.inl ⟨a, b, W, T, S, h2, c, d, e, f⟩
          · exact Or.inr g
        · have q4' : ¬ lxX X = nI 112 := q4
          rw [if_neg q4', if_neg q4]
          exact Or.inr ⟨rfl, nofail h hs (by decide)⟩
theorem clF_false {it n : Nat} {X : IM} {b : Bool} (h : b = false) : clF it n (b, X) = X := by
  cases n with
  | zero => rfl
  | succ n => rw [clF, if_pos h]
theorem zrd_bad {n : Nat} {M : IM} (h : ¬ M 120 23 = 0) : zrd n M = M := zrd_st (fun z => h z.1)
/-- the clauses -/
theorem cl_sim {it L : Nat} (hI : isC it) : ∀ n X M a m p, L ≤ a + n → L ≤ a + m → MZ M L a → PS X M L p → sk (M 121) L p = p → DQ X M it → (∀ j, j < L → ¬ M 121 j = -1) →
    ((∃ p', PS (clF it n (true, X)) (zrd m M) L p') ∧ DQ (clF it n (true, X)) (zrd m M) it) ∨ FS (clF it n (true, X)) (zrd m M) := by
  intro n
  induction n with
  | zero =>
    intro X M a m p hn hm hz h hs hD ht
    have hw0 : M 120 23 = 0 := h.2.2.2.2.2.2.2.1
    rw [zrd_st (fun z => z.2 (hz.end (by omega) hw0))]
    exact Or.inl ⟨⟨p, h⟩, hD⟩
  | succ n ih =>
    intro X M a m p hn hm hz h hs hD ht
    have hw0 : M 120 23 = 0 := h.2.2.2.2.2.2.2.1
    have hlk := look_fix h hs
    have hL := h.2.1
    have hL2 := h.2.2.2.1
    have hp2 := h.2.2.2.2.2.1
    have hx := h.2.2.2.2.2.2.1
    rw [hs] at hx
    by_cases q : p < L
    · have hap : a ≤ p := by
        obtain ⟨-, -, p', e1, e2, e3⟩ := hz.1
        have e4 := e3 hw0
        have e5 := (nI_eq (by omega) (by omega)).mp (e1.symm.trans h.2.2.2.2.1)
        omega
      have hl1 : ¬ zlk M = -1 := by
        rw [zlk_lt h.2.2.1 hL2 h.2.2.2.2.1 hp2, if_pos q]
        exact ht p q
      cases m with
      | zero => omega
      | succ m =>
        rw [zrd_go hw0 hl1]
        have hcl : clF it (n + 1) (true, X) = clF it n (rcF X it) := cl_go rfl (by show ¬ X 1 2 ≤ X 1 3; rw [hL, hx]; exact nI_ge q (by omega))
        rw [hcl]
        rcases rc_sim hI h hs hD with ⟨r1, ⟨p', r2⟩, r3⟩ | ⟨r1, r2⟩
        · have e : rcF X it = (true, (rcF X it).2) := by rw [← r1]
          rw [e]
          have e121 : zsk (zcl M) 121 = M 121 := by rw [zsk_row (by decide)]; exact ZF.cl.1 121 (by decide) (by decide)
          refine ih _ _ (a + 1) m _ (by omega) (by omega) (hz.cl hl1).skz r2.skz.1 ?_ r3.skz ?_
          · rw [zsk_row (by decide), sk_sk]
          · intro j hj
            rw [e121]
            exact ht j hj
        · right
          have e : rcF X it = (false, (rcF X it).2) := by rw [← r1]
          rw [e, clF_false rfl, zsk_bad r2.1, zrd_bad r2.1]
          exact r2
    · have hp : p = L := by omega
      have hl1 : zlk M = -1 := by rw [zlk_lt h.2.2.1 hL2 h.2.2.2.2.1 hp2, if_neg q]
      have hst : clF it (n + 1) (true, X) = X := by
        rw [clF, if_neg (fun z => Bool.noConfusion z), if_pos (by show X 1 2 ≤ X 1 3; rw [hL, hx, hp]; exact nI_le (Nat.le_refl _) (by omega))]
      rw [zrd_st (fun z => z.2 hl1), hst]
      exact Or.inl ⟨⟨p, h⟩, hD⟩
