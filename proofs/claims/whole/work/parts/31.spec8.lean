theorem r_alen {Y : Card} {d mc ms : Nat} {R : Rs} {kc ks pc : Nat} {lv : LV} {sk : List Value} {n : Nat} {im : IM} {rm : RM} {k len : Nat} {v : Int32} (hd : decode Y.2.1 pc = .ok (.arraylength, 1)) (hk : kd k = (1, len)) (hn : k < n) (hv : nI len = v)
    (kk : WW Y d mc ms R kc ks (pc + 1) lv (.int v :: sk) n im rm) : WW Y d mc ms R kc ks pc lv (.ref k :: sk) n im rm := by
  subst hv
  intro p l e s m args below meth c D ca b H locs ls C hl hP hF0 hL
  have hK : va_K D vwCl (tyL ca) s := C.2.2.2.2.2.2.2.1
  exact W.alen (n := Int32.ofNat len) C.1 C.2.1 (hP.arr hk (Or.inl rfl) hn) ((hK.2 0 _ rfl).1 len (fun j => .int (im k j))) (by show Nat.toInt32 (arrV _ _ _).slots.size = _; rw [arrV_size]) rfl rfl hd (kk p l e s m args below meth c D ca b H locs ls C hl hP hF0 hL)
theorem upQ_it {pl it x : Nat} : upQ (RR pl it) 1 4 (some x) = RR pl x := by
  funext k j
  unfold upQ RR
  by_cases h : k = 1
  · subst h
    simp only [true_and, show ¬ (1 = 0) by decide, if_true, if_false, reduceIte]
    rcases j with _ | _ | _ | _ | _ | j
    · rfl
    · rfl
    · rfl
    · rfl
    · rfl
    · rw [if_neg (by omega)]
      rfl
  · rw [if_neg (fun q => h q.1)]
    simp only [if_neg h]
theorem upQ_pl {pl it x : Nat} : upQ (RR pl it) 0 2 (some x) = RR x it := by
  funext k j
  unfold upQ RR
  by_cases h : k = 0
  · subst h
    simp only [true_and, if_true, reduceIte]
    rcases j with _ | _ | _ | j
    · rfl
    · rfl
    · rfl
    · rw [if_neg (by omega)]
      rfl
  · rw [if_neg (fun q => h q.1)]
    simp only [if_neg h]
theorem RC.pry {im : IM} {it : Nat} (h : RC im it) : RC (ryF im it).2 it := by
  have h4 : RC (st im 1 5 1) it := h.row2 (h.1.sto (by omega)) (fun _ q => st_row q)
  have h5 := h4.tk (c := 112) (by decide)
  unfold ryF
  split
  · split
    · try dsimp only
      exact h5
    · unfold ryH
      split
      · try dsimp only
        exact h5.rn
      · unfold ryI
        split
        · try dsimp only
          exact (h5.rn.fld (Or.inl rfl)).rn
        · try dsimp only
          exact ((h5.rn.fld (Or.inl rfl)).rn.fld (Or.inr rfl)).tk (by decide)
  · try dsimp only
    exact h.rf
theorem RC.prs {im : IM} {it : Nat} (h : RC im it) : RC (rsF im it).2 it := by
  have h5 := h.tk (c := 115) (by decide)
  unfold rsF
  split
  · next q =>
    split
    · try dsimp only
      exact h5
    · split
      · try dsimp only
        exact h5.ws
      · obtain ⟨hC, W, T, S, hW, hW8, hT, hT6, hS, hS5⟩ := h.2
        have hl : S < 5 := lt_of_nI hS (cI 5) q (by omega) (by omega)
        unfold rsI
        split
        · try dsimp only
          exact (h5.ws.arr (by omega)).rn
        · try dsimp only
          exact (((h5.ws.arr (by omega)).rn.arr (by omega)).cnt (Or.inr (Or.inr ⟨rfl, rfl⟩)) (n := S + 1) (by rw [hS]; exact nI_1 S) (by omega)).tk (by decide)
  · try dsimp only
    exact h.rf
theorem RC.prt {im : IM} {it : Nat} (h : RC im it) : RC (rtF im it).2 it := by
  have h5 := h.tk (c := 116) (by decide)
  unfold rtF
  split
  · next q =>
    split
    · try dsimp only
      exact h5
    · split
      · try dsimp only
        exact h5.ws
      · obtain ⟨hC, W, T, S, hW, hW8, hT, hT6, hS, hS5⟩ := h.2
        have hl : T < 6 := lt_of_nI hT (cI 6) q (by omega) (by omega)
        unfold rtG
        split
        · try dsimp only
          exact h5.ws.rf
        · unfold rtH
          split
          · try dsimp only
            exact (h5.ws.arr (by omega)).rn
          · unfold rtI
            split
            · try dsimp only
              exact ((h5.ws.arr (by omega)).rn.arr (by omega)).rn
            · try dsimp only
              exact ((((h5.ws.arr (by omega)).rn.arr (by omega)).rn.arr (by omega)).cnt (Or.inr (Or.inl ⟨rfl, rfl⟩)) (n := T + 1) (by rw [hT]; exact nI_1 T) (by omega)).tk (by decide)
  · try dsimp only
    exact h.rf
theorem RC.prc {im : IM} {it : Nat} (h : RC im it) : RC (rcF im it).2 it := by
  unfold rcF
  split
  · try dsimp only
    exact h.rf
  · split
    · try dsimp only
      exact h.prt
    · split
      · try dsimp only
        exact h.prs
      · split
        · try dsimp only
          exact h.pry
        · try dsimp only
          exact h.rf
theorem RC.pwm {it : Nat} : ∀ {n : Nat} {im : IM}, RC im it → RC (wmF it n im).2 it
  | 0, im, h => h.tk (by decide)
  | n + 1, im, h => by
    unfold wmF
    split
    · split
      · try dsimp only
        exact h.tk (by decide)
      · split
        · try dsimp only
          exact (h.tk (by decide)).rwy
        · exact RC.pwm (h.tk (by decide)).rwy
    · try dsimp only
      exact h.tk (by decide)
theorem RC.pwa {im : IM} {it : Nat} (h : RC im it) : RC (waF im it).2 it := by
  have h5 := h.tk (c := 119) (by decide)
  unfold waF
  split
  · try dsimp only
    exact h5
  · split
    · try dsimp only
      exact h5.rwy
    · unfold waI
      split
      · try dsimp only
        exact h5.rwy.tk (by decide)
      · split
        · try dsimp only
          exact (h5.rwy.tk (by decide)).rwy
        · exact RC.pwm (h5.rwy.tk (by decide)).rwy
theorem wm_go {it n : Nat} {im : IM} (h : lxX im = 44) (h1 : ¬ (tkF im 44).1 = false) (h2 : ¬ (rwF (tkF im 44).2 it).1 = false) : wmF it (n + 1) im = wmF it n (rwF (tkF im 44).2 it).2 := by
  rw [wmF, if_pos h, if_neg h1, if_neg h2]
def clF (it : Nat) : Nat → Bool × IM → IM
  | 0, p => p.2
  | n + 1, p => if p.1 = false then p.2 else if p.2 1 2 ≤ p.2 1 3 then p.2 else clF it n (rcF p.2 it)
theorem RC.pcl {it : Nat} : ∀ {n : Nat} {p : Bool × IM}, RC p.2 it → RC (clF it n p) it
  | 0, p, h => h
  | n + 1, p, h => by
    unfold clF
    split
    · exact h
    · split
      · exact h
      · exact RC.pcl h.prc
def clC (im : IM) (it : Nat) : IM := st (st (st (st (st im it 0 0) it 2 0) it 6 0) it 9 0) it 10 0
theorem clC_row {im : IM} {it r : Nat} (h : r ≠ it) : clC im it r = im r := by
  unfold clC
  rw [st_row h, st_row h, st_row h, st_row h, st_row h]
theorem clC_CA {im : IM} {it : Nat} (h : isC it) : CA (clC im it) it := by
  refine ⟨h, 0, 0, 0, ?_, by omega, ?_, by omega, ?_, by omega⟩
  · unfold clC
    rw [st_ne (by omega), st_ne (by omega), st_ne (by omega), st_ne (by omega), st_same]
    rfl
  · unfold clC
    rw [st_ne (by omega), st_ne (by omega), st_ne (by omega), st_same]
    rfl
  · unfold clC
    rw [st_ne (by omega), st_ne (by omega), st_same]
    rfl
def txA (im : IM) (it : Nat) : IM := clC (st (st (st (st (st (st im 1 2 (im 1 1)) 1 1 0) 1 3 0) 1 5 0) 1 8 0) 1 9 (-1)) it
def txB (im : IM) (it : Nat) : IM := skX (txA im it)
def txC (im : IM) (it : Nat) : IM := clF it 240 (waF (st (st (txB im it) it 9 1) it 10 1) it)
def txF (im : IM) (it : Nat) : Int32 × IM := if txB im it 1 3 < txB im it 1 2 then (txC im it 1 8, txC im it) else (0, txB im it)
theorem txA_RC {im : IM} {it C : Nat} (hI : isC it) (hc : im 1 1 = nI C) (hC : C ≤ 240) : RC (txA im it) it := by
  refine ⟨?_, clC_CA hI⟩
  unfold txA
  refine ⟨C, 0, ?_, hC, ?_, by omega⟩
  · rw [clC_row (isC_ne2 hI).symm, st_ne (by omega), st_ne (by omega), st_ne (by omega), st_ne (by omega), st_ne (by omega), st_same, hc]
  · rw [clC_row (isC_ne2 hI).symm, st_ne (by omega), st_ne (by omega), st_ne (by omega), st_same]
    rfl
theorem txB_RC {im : IM} {it C : Nat} (hI : isC it) (hc : im 1 1 = nI C) (hC : C ≤ 240) : RC (txB im it) it := by
  have h := txA_RC hI hc hC
  exact h.row2 h.1.skp (fun _ q => by unfold txB skX; exact st_row q)
theorem txC0_RC {im : IM} {it C : Nat} (hI : isC it) (hc : im 1 1 = nI C) (hC : C ≤ 240) : RC (st (st (txB im it) it 9 1) it 10 1) it := ((txB_RC hI hc hC).fld (Or.inl rfl)).fld (Or.inr rfl)
theorem txC_RC {im : IM} {it C : Nat} (hI : isC it) (hc : im 1 1 = nI C) (hC : C ≤ 240) : RC (txC im it) it := RC.pcl (txC0_RC hI hc hC).pwa
theorem txF_RC {im : IM} {it C : Nat} (hI : isC it) (hc : im 1 1 = nI C) (hC : C ≤ 240) : RC (txF im it).2 it := by
  unfold txF
  split
  · exact txC_RC hI hc hC
  · exact txB_RC hI hc hC
/-- castle(): the reading, then the fault's place or the exchange -/
def csU (im : IM) (it : Nat) : Int32 × IM := txF im it
def csX (im : IM) (it : Nat) : IM := if (csU im it).1 = 0 then bnX (st (csU im it).2 0 0 (-1)) it else st (csU im it).2 0 0 ((csU im it).2 1 9)
def csW (im : IM) (it : Nat) : Int32 := if (csU im it).1 = 0 then csX im it it 0 else -10 - (csU im it).1
