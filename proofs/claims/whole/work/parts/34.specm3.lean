def zlk (im : IM) : Int32 := if im 120 1 ≤ im 120 22 then -1 else im 121 (tn (im 120 22))
def zsk (im : IM) : IM := if im 120 23 = 0 then st im 120 22 (nI (sk (im 121) (tn (im 120 1)) (tn (im 120 22)))) else im
def zfl (im : IM) (k : Int32) : IM := st im 120 23 (if im 120 23 = 0 then k else im 120 23)
def zwd (im : IM) (c : Int32) : IM := if zsk im 120 23 = 0 then (if zlk (zsk im) = c then st (zsk im) 120 22 (zsk im 120 22 + 1) else zfl (zsk im) 1) else zsk im
def vM (tx : Nat → Int32) (p : Nat) : Nat → Int32
  | 0 => 0
  | t + 1 => if t < 3 then 10 * vM tx p t + tx (p + t) - 48 else vM tx p t
def zdn (im : IM) : Nat := nd (im 121) (tn (im 120 1)) (tn (im 120 22)) - tn (im 120 22)
def znn (J : IM) (lo hi : Int32) : Int32 × IM :=
  if J 120 23 = 0 then (if inB (zlk J) 48 57 = false then (0, zfl J 1) else (vM (J 121) (tn (J 120 22)) (zdn J), if 3 < zdn J ∨ inB (vM (J 121) (tn (J 120 22)) (zdn J)) lo hi = false then zfl J 2 else st J 120 22 (nI (tn (J 120 22) + zdn J)))) else (0, J)
def znm (im : IM) (lo hi : Int32) : Int32 × IM := znn (zsk im) lo hi
def zop (im : IM) (f : Bool) : IM := st (if f then zfl im 3 else im) 120 22 (im 120 22 + if f then 0 else 1)
def zwq (at0 a : Int32) (q : Int32 × IM) : Int32 × IM := if q.2 120 23 = 0 ∧ ¬ q.1 &&& (a ^^^ (-1)) = 0 then (q.1, zfl (st q.2 120 22 at0) 2) else q
def zwy (im : IM) (a lo : Int32) : Int32 × IM := zwq (zsk im 120 22) a (znm (zsk im) lo 255)
def zpy3 (r : Int32 × IM) : IM := zwd (st r.2 126 4 r.1) 59
def zpy2 (q : Int32 × IM) : IM := zpy3 (znm (st q.2 126 3 q.1) 1 30)
def zpy (im : IM) : IM := if im 126 3 ≤ 0 then zpy2 (znm (zop im false) 1 99) else zop im true
def zsv4 (M : IM) : IM := st M 126 2 (M 126 2 + 1)
def zsv3 (n : Nat) (r : Int32 × IM) : IM := zsv4 (zwd (st r.2 129 (2 * n + 1) r.1) 59)
def zsv2 (n : Nat) (q : Int32 × IM) : IM := zsv3 n (znm (st q.2 129 (2 * n) q.1) 0 999)
def zsv (im : IM) : IM := if im 126 2 = 5 then zop im true else zsv2 (tn (im 126 2)) (zwy (zop im false) (alS (im 126 0)) 1)
def zts5 (M : IM) : IM := st M 126 1 (M 126 1 + 1)
def zts4 (n : Nat) (r : Int32 × IM) : IM := zts5 (zwd (st r.2 128 (3 * n + 2) r.1) 59)
def zts3 (n : Nat) (r : Int32 × IM) : IM := zts4 n (znm (st r.2 128 (3 * n + 1) r.1) 0 999)
def zts2 (n : Nat) (q : Int32 × IM) : IM := zts3 n (znm (st q.2 128 (3 * n) q.1) 0 63)
def zts (im : IM) : IM := if im 126 1 = 6 then zop im true else zts2 (tn (im 126 1)) (zwy (zop im false) (alS (im 126 0) &&& (-2)) 0)
def zww2 (n : Nat) (q : Int32 × IM) : IM := st (st q.2 127 n q.1) 126 0 (q.2 126 0 + 1)
def zww (im : IM) : IM := if zlk im = 44 ∧ ¬ im 126 0 = 8 then zww2 (tn (im 126 0)) (znm (st im 120 22 (im 120 22 + 1)) 1 999) else zfl im 1
def zwv : Nat → IM → IM
  | 0, im => im
  | n + 1, im => if im 120 23 = 0 ∧ (zlk im = 44 ∨ im 126 0 = 1) then zwv n (zsk (zww im)) else im
def zws2 (q : Int32 × IM) : IM := zwd (zwv 9 (zsk (st (st q.2 127 0 q.1) 126 0 1))) 59
def zws (im : IM) : IM := if im 126 0 ≤ 0 then zws2 (znm (zop im false) 1 999) else zop im true
def zcl (im : IM) : IM := if zlk im = 119 then zws im else if im 126 0 = 0 then zfl im 1 else if zlk im = 116 then zts im else if zlk im = 115 then zsv im else if zlk im = 112 then zpy im else zfl im 1
def zrd : Nat → IM → IM
  | 0, im => im
  | n + 1, im => if im 120 23 = 0 ∧ ¬ zlk im = -1 then zrd n (zsk (zcl im)) else im
theorem zsk_row {im : IM} {r : Nat} (h : r ≠ 120) : zsk im r = im r := by
  unfold zsk
  split
  · exact st_row h
  · rfl
theorem zfl_row {im : IM} {k : Int32} {r : Nat} (h : r ≠ 120) : zfl im k r = im r := by unfold zfl; exact st_row h
theorem zwd_row {im : IM} {c : Int32} {r : Nat} (h : r ≠ 120) : zwd im c r = im r := by
  unfold zwd
  split
  · split
    · rw [st_row h, zsk_row h]
    · rw [zfl_row h, zsk_row h]
  · exact zsk_row h
theorem znn_row {im : IM} {lo hi : Int32} {r : Nat} (h : r ≠ 120) : (znn im lo hi).2 r = im r := by
  unfold znn
  split
  · split
    · exact zfl_row h
    · dsimp only
      split
      · exact zfl_row h
      · exact st_row h
  · rfl
theorem znm_row {im : IM} {lo hi : Int32} {r : Nat} (h : r ≠ 120) : (znm im lo hi).2 r = im r := (znn_row h).trans (zsk_row h)
theorem zop_row {im : IM} {f : Bool} {r : Nat} (h : r ≠ 120) : zop im f r = im r := by
  unfold zop
  rw [st_row h]
  split
  · exact zfl_row h
  · rfl
theorem zwq_row {at0 a : Int32} {q : Int32 × IM} {r : Nat} (h : r ≠ 120) : (zwq at0 a q).2 r = q.2 r := by
  unfold zwq
  split
  · show zfl _ _ r = _
    rw [zfl_row h, st_row h]
  · rfl
theorem zwy_row {im : IM} {a lo : Int32} {r : Nat} (h : r ≠ 120) : (zwy im a lo).2 r = im r := (zwq_row h).trans ((znm_row h).trans (zsk_row h))
/-- the model's reader stands in the text, at a or behind it, or has failed -/
def MR (im : IM) (L a : Nat) : Prop := im 120 1 = nI L ∧ L ≤ 240 ∧ ∃ p : Nat, im 120 22 = nI p ∧ p ≤ L ∧ (im 120 23 = 0 → a ≤ p)
theorem MR.keep {im im' : IM} {L a : Nat} (h : MR im L a) (h1 : im' 120 = im 120) : MR im' L a := by
  unfold MR
  rw [h1]
  exact h
theorem MR.arr {im : IM} {L a k j : Nat} {x : Int32} (h : MR im L a) (hk : k ≠ 120) : MR (st im k j x) L a := h.keep (st_row hk.symm)
theorem mr_fl {im : IM} {L p : Nat} {k : Int32} (hL : im 120 1 = nI L) (hL2 : L ≤ 240) (hp : im 120 22 = nI p) (hp2 : p ≤ L) (hk : ¬ k = 0) (a : Nat) : MR (zfl im k) L a := by
  refine ⟨by unfold zfl; rw [st_ne (by omega)]; exact hL, hL2, p, by unfold zfl; rw [st_ne (by omega)]; exact hp, hp2, ?_⟩
  intro q
  unfold zfl at q
  rw [st_same] at q
  split at q
  · exact absurd q hk
  · exact absurd q ‹_›
theorem MR.fl {im : IM} {L a : Nat} {k : Int32} (h : MR im L a) (hk : ¬ k = 0) (a' : Nat) : MR (zfl im k) L a' := by
  obtain ⟨hL, hL2, p, hp, hp2, -⟩ := h
  exact mr_fl hL hL2 hp hp2 hk a'
theorem zsk_L {im : IM} {L p : Nat} (hL : im 120 1 = nI L) (hL2 : L ≤ 240) (hp : im 120 22 = nI p) (hp2 : p ≤ L) : zsk im = if im 120 23 = 0 then st im 120 22 (nI (sk (im 121) L p)) else im := by
  rw [zsk, hL, hp, tn_nI (by omega), tn_nI (by omega)]
theorem MR.skz {im : IM} {L a : Nat} (h : MR im L a) : MR (zsk im) L a := by
  obtain ⟨hL, hL2, p, hp, hp2, ha⟩ := id h
  rw [zsk_L hL hL2 hp hp2]
  split
  · have h3 := sk_stop (im 121) L p
    have h4 := h3.2.2 hp2
    refine ⟨by rw [st_ne (by omega)]; exact hL, hL2, _, st_same _ _ _ _, h4, fun q => ?_⟩
    rw [st_ne (by omega)] at q
    have := ha q
    omega
  · exact h
theorem zlk_lt {im : IM} {L p : Nat} (hL : im 120 1 = nI L) (hL2 : L ≤ 240) (hp : im 120 22 = nI p) (hp2 : p ≤ L) : zlk im = if p < L then im 121 p else -1 := by
  unfold zlk
  rw [hL, hp, tn_nI (by omega)]
  by_cases h : p < L
  · rw [if_neg (nI_ge h (by omega)), if_pos h]
  · rw [if_pos (nI_le (by omega) (by omega)), if_neg h]
theorem MR.inc {im : IM} {L a : Nat} (h : MR im L a) (hl : ¬ zlk im = -1) : MR (st im 120 22 (im 120 22 + 1)) L (a + 1) := by
  obtain ⟨hL, hL2, p, hp, hp2, ha⟩ := id h
  rw [zlk_lt hL hL2 hp hp2] at hl
  have hlt : p < L := by
    apply Nat.lt_of_not_le
    intro z
    rw [if_neg (by omega)] at hl
    exact hl rfl
  refine ⟨by rw [st_ne (by omega)]; exact hL, hL2, p + 1, by rw [st_same, hp]; exact nI_1 p, by omega, fun q => ?_⟩
  rw [st_ne (by omega)] at q
  have := ha q
  omega
theorem MR.weak {im : IM} {L a : Nat} (h : MR im L (a + 1)) : MR im L a := by
  obtain ⟨hL, hL2, p, hp, hp2, ha⟩ := id h
  exact ⟨hL, hL2, p, hp, hp2, fun q => by have := ha q; omega⟩
theorem MR.wd {im : IM} {L a : Nat} {c : Int32} (h : MR im L a) (hc : ¬ c = -1) : MR (zwd im c) L a := by
  unfold zwd
  split
  · split
    · next q => exact (h.skz.inc (by rw [q]; exact hc)).weak
    · exact h.skz.fl (by decide) a
  · exact h.skz
theorem MR.nn {im : IM} {L a : Nat} {lo hi : Int32} (h : MR im L a) : MR (znn im lo hi).2 L a := by
  unfold znn
  split
  · next q0 =>
    split
    · exact h.fl (by decide) a
    · dsimp only
      split
      · exact h.fl (by decide) a
      · obtain ⟨hL, hL2, p, hp, hp2, ha⟩ := id h
        have e : zdn im = nd (im 121) L p - p := by unfold zdn; rw [hL, hp, tn_nI (by omega), tn_nI (by omega)]
        have h1 := nd_le (im 121) L p
        have h2 := h1.2 hp2
        refine ⟨by rw [st_ne (by omega)]; exact hL, hL2, p + zdn im, by rw [st_same, hp, tn_nI (by omega)], by omega, fun q => ?_⟩
        have := ha q0
        omega
  · exact h
theorem MR.nm {im : IM} {L a : Nat} {lo hi : Int32} (h : MR im L a) : MR (znm im lo hi).2 L a := h.skz.nn
theorem MR.opt {im : IM} {L a : Nat} (h : MR im L a) (a' : Nat) : MR (zop im true) L a' := by
  obtain ⟨hL, hL2, p, hp, hp2, ha⟩ := id (h.fl (k := 3) (by decide) a')
  have e : zfl im 3 120 22 = im 120 22 := by unfold zfl; rw [st_ne (by omega)]
  refine ⟨?_, hL2, p, ?_, hp2, ?_⟩
  · show st (zfl im 3) 120 22 _ 120 1 = _
    rw [st_ne (by omega)]
    exact hL
  · show st (zfl im 3) 120 22 (im 120 22 + 0) 120 22 = _
    rw [st_same, Int32.add_zero, ← e]
    exact hp
  · intro q
    apply ha
    have q' : st (zfl im 3) 120 22 (im 120 22 + 0) 120 23 = 0 := q
    rw [st_ne (by omega)] at q'
    exact q'
theorem MR.opf {im : IM} {L a : Nat} (h : MR im L a) (hl : ¬ zlk im = -1) : MR (zop im false) L (a + 1) := h.inc hl
theorem MR.wq {q : Int32 × IM} {L a b : Nat} {at0 x : Int32} (h : MR q.2 L a) (h0 : at0 = nI b) (hb : b ≤ L) : MR (zwq at0 x q).2 L a := by
  unfold zwq
  split
  · obtain ⟨hL, hL2, p, hp, hp2, ha⟩ := id h
    exact mr_fl (p := b) (by rw [st_ne (by omega)]; exact hL) hL2 (by rw [st_same]; exact h0) hb (by decide) a
  · exact h
theorem MR.wy {im : IM} {L a : Nat} {x lo : Int32} (h : MR im L a) : MR (zwy im x lo).2 L a := by
  obtain ⟨hL, hL2, p, hp, hp2, ha⟩ := id h.skz
  exact h.skz.nm.wq hp hp2
/-- and the draft's counts are in bounds -/
def MZ (im : IM) (L a : Nat) : Prop := MR im L a ∧ ∃ W T S : Nat, im 126 0 = nI W ∧ W ≤ 8 ∧ im 126 1 = nI T ∧ T ≤ 6 ∧ im 126 2 = nI S ∧ S ≤ 5
theorem MZ.row {im im' : IM} {L a a' : Nat} (h : MZ im L a) (hr : MR im' L a') (hrow : im' 126 = im 126) : MZ im' L a' := ⟨hr, by rw [hrow]; exact h.2⟩
theorem MZ.skz {im : IM} {L a : Nat} (h : MZ im L a) : MZ (zsk im) L a := h.row h.1.skz (zsk_row (by decide))
theorem MZ.fl {im : IM} {L a : Nat} {k : Int32} (h : MZ im L a) (hk : ¬ k = 0) (a' : Nat) : MZ (zfl im k) L a' := h.row (h.1.fl hk a') (zfl_row (by decide))
theorem MZ.wd {im : IM} {L a : Nat} {c : Int32} (h : MZ im L a) (hc : ¬ c = -1) : MZ (zwd im c) L a := h.row (h.1.wd hc) (zwd_row (by decide))
theorem MZ.nm {im : IM} {L a : Nat} {lo hi : Int32} (h : MZ im L a) : MZ (znm im lo hi).2 L a := h.row h.1.nm (znm_row (by decide))
theorem MZ.wy {im : IM} {L a : Nat} {x lo : Int32} (h : MZ im L a) : MZ (zwy im x lo).2 L a := h.row h.1.wy (zwy_row (by decide))
theorem MZ.opt {im : IM} {L a : Nat} (h : MZ im L a) (a' : Nat) : MZ (zop im true) L a' := h.row (h.1.opt a') (zop_row (by decide))
theorem MZ.opf {im : IM} {L a : Nat} (h : MZ im L a) (hl : ¬ zlk im = -1) : MZ (zop im false) L (a + 1) := h.row (h.1.opf hl) (zop_row (by decide))
theorem MZ.arr {im : IM} {L a k j : Nat} {x : Int32} (h : MZ im L a) (hk : k ≠ 120) (hk2 : k ≠ 126 ∨ 3 ≤ j) : MZ (st im k j x) L a := by
  refine ⟨h.1.arr hk, ?_⟩
  obtain ⟨W, T, S, hW, hW8, hT, hT6, hS, hS5⟩ := h.2
  exact ⟨W, T, S, by rw [st_ne (by omega)]; exact hW, hW8, by rw [st_ne (by omega)]; exact hT, hT6, by rw [st_ne (by omega)]; exact hS, hS5⟩
theorem MZ.cnt {im : IM} {L a : Nat} (h : MZ im L a) {j n m : Nat} {x : Int32} (hj : (j = 0 ∧ m = 8) ∨ (j = 1 ∧ m = 6) ∨ (j = 2 ∧ m = 5)) (hx : x = nI n) (hn : n ≤ m) : MZ (st im 126 j x) L a := by
  refine ⟨h.1.arr (by decide), ?_⟩
  obtain ⟨W, T, S, hW, hW8, hT, hT6, hS, hS5⟩ := h.2
  rcases hj with ⟨rfl, rfl⟩ | ⟨rfl, rfl⟩ | ⟨rfl, rfl⟩
  · exact ⟨n, T, S, by rw [st_same]; exact hx, hn, by rw [st_ne (by omega)]; exact hT, hT6, by rw [st_ne (by omega)]; exact hS, hS5⟩
  · exact ⟨W, n, S, by rw [st_ne (by omega)]; exact hW, hW8, by rw [st_same]; exact hx, hn, by rw [st_ne (by omega)]; exact hS, hS5⟩
  · exact ⟨W, T, n, by rw [st_ne (by omega)]; exact hW, hW8, by rw [st_ne (by omega)]; exact hT, hT6, by rw [st_same]; exact hx, hn⟩
theorem MZ.py {im : IM} {L a : Nat} (h : MZ im L a) (hl : ¬ zlk im = -1) : MZ (zpy im) L (a + 1) := by
  unfold zpy
  split
  · unfold zpy2 zpy3
    exact ((((h.opf hl).nm.arr (by decide) (by omega)).nm.arr (by decide) (by omega)).wd (by decide))
  · exact h.opt _
theorem MZ.sv {im : IM} {L a : Nat} (h : MZ im L a) (hl : ¬ zlk im = -1) : MZ (zsv im) L (a + 1) := by
  unfold zsv
  split
  · exact h.opt _
  · next q =>
    obtain ⟨W, T, S, hW, hW8, hT, hT6, hS, hS5⟩ := h.2
    have hl5 : S < 5 := Nat.lt_of_le_of_ne hS5 (fun z => q (by rw [hS, z]; rfl))
    have h1 := ((((h.opf hl).wy (x := alS (im 126 0)) (lo := 1)).arr (k := 129) (j := 2 * tn (im 126 2)) (x := (zwy (zop im false) (alS (im 126 0)) 1).1) (by decide) (by omega)).nm (lo := 0) (hi := 999))
    have h2 := (h1.arr (k := 129) (j := 2 * tn (im 126 2) + 1) (x := (znm (st (zwy (zop im false) (alS (im 126 0)) 1).2 129 (2 * tn (im 126 2)) (zwy (zop im false) (alS (im 126 0)) 1).1) 0 999).1) (by decide) (by omega)).wd (c := 59) (by decide)
    refine h2.cnt (Or.inr (Or.inr ⟨rfl, rfl⟩)) (n := S + 1) ?_ (by omega)
    rw [zwd_row (by decide), st_row (by decide), znm_row (by decide), st_row (by decide), zwy_row (by decide), zop_row (by decide), hS]
    exact nI_1 S
theorem MZ.ts {im : IM} {L a : Nat} (h : MZ im L a) (hl : ¬ zlk im = -1) : MZ (zts im) L (a + 1) := by
  unfold zts
  split
  · exact h.opt _
  · next q =>
    obtain ⟨W, T, S, hW, hW8, hT, hT6, hS, hS5⟩ := h.2
    have hl5 : T < 6 := Nat.lt_of_le_of_ne hT6 (fun z => q (by rw [hT, z]; rfl))
    have h0 := (h.opf hl).wy (x := alS (im 126 0) &&& (-2)) (lo := 0)
    have e0 : (zwy (zop im false) (alS (im 126 0) &&& (-2)) 0).2 126 = im 126 := by rw [zwy_row (by decide), zop_row (by decide)]
    generalize zwy (zop im false) (alS (im 126 0) &&& (-2)) 0 = q0 at h0 e0
    unfold zts2
    have h1 := (h0.arr (k := 128) (j := 3 * tn (im 126 1)) (x := q0.1) (by decide) (by omega)).nm (lo := 0) (hi := 63)
    have e1 : (znm (st q0.2 128 (3 * tn (im 126 1)) q0.1) 0 63).2 126 = im 126 := by rw [znm_row (by decide), st_row (by decide), e0]
    generalize znm (st q0.2 128 (3 * tn (im 126 1)) q0.1) 0 63 = q1 at h1 e1
    unfold zts3
    have h2 := (h1.arr (k := 128) (j := 3 * tn (im 126 1) + 1) (x := q1.1) (by decide) (by omega)).nm (lo := 0) (hi := 999)
    have e2 : (znm (st q1.2 128 (3 * tn (im 126 1) + 1) q1.1) 0 999).2 126 = im 126 := by rw [znm_row (by decide), st_row (by decide), e1]
    generalize znm (st q1.2 128 (3 * tn (im 126 1) + 1) q1.1) 0 999 = q2 at h2 e2
    unfold zts4 zts5
    have h3 := (h2.arr (k := 128) (j := 3 * tn (im 126 1) + 2) (x := q2.1) (by decide) (by omega)).wd (c := 59) (by decide)
    refine h3.cnt (Or.inr (Or.inl ⟨rfl, rfl⟩)) (n := T + 1) ?_ (by omega)
    rw [zwd_row (by decide), st_row (by decide), e2, hT]
    exact nI_1 T
theorem MZ.ww {im : IM} {L a : Nat} (h : MZ im L a) : MZ (zww im) L a := by
  unfold zww
  split
  · next q =>
    obtain ⟨W, T, S, hW, hW8, hT, hT6, hS, hS5⟩ := h.2
    have hl5 : W < 8 := Nat.lt_of_le_of_ne hW8 (fun z => q.2 (by rw [hW, z]; rfl))
    have h1 : MZ (st im 120 22 (im 120 22 + 1)) L a := h.row (h.1.inc (by rw [q.1]; decide)).weak (st_row (by decide))
    refine (h1.nm.arr (by decide) (by omega)).cnt (Or.inl ⟨rfl, rfl⟩) (n := W + 1) ?_ (by omega)
    rw [znm_row (by decide), st_row (by decide), hW]
    exact nI_1 W
  · exact h.fl (by decide) a
theorem MZ.wv {L a : Nat} : ∀ {n : Nat} {im : IM}, MZ im L a → MZ (zwv n im) L a
  | 0, im, h => h
  | n + 1, im, h => by
    unfold zwv
    split
    · exact MZ.wv h.ww.skz
    · exact h
theorem MZ.ws {im : IM} {L a : Nat} (h : MZ im L a) (hl : ¬ zlk im = -1) : MZ (zws im) L (a + 1) := by
  unfold zws
  split
  · unfold zws2
    exact (MZ.wv ((((h.opf hl).nm.arr (by decide) (by omega)).cnt (Or.inl ⟨rfl, rfl⟩) (n := 1) rfl (by omega)).skz)).wd (by decide)
  · exact h.opt _
theorem MZ.cl {im : IM} {L a : Nat} (h : MZ im L a) (hl : ¬ zlk im = -1) : MZ (zcl im) L (a + 1) := by
  unfold zcl
  split
  · exact h.ws hl
  · split
    · exact h.fl (by decide) _
    · split
      · exact h.ts hl
      · split
        · exact h.sv hl
        · split
          · exact h.py hl
          · exact h.fl (by decide) _
