def bI (b : Bool) : Int32 := if b = true then 1 else 0
theorem bI_t {b : Bool} (h : b = true) : bI b = 1 := by rw [h]; rfl
theorem bI_f {b : Bool} (h : b = false) : bI b = 0 := by rw [h]; rfl
theorem bI_0 {b : Bool} (h : bI b = 0) : b = false := by cases b <;> first | rfl | (exact absurd h (by decide))
theorem bI_1 {b : Bool} (h : ¬ bI b = 0) : b = true := by cases b <;> first | rfl | (exact absurd rfl h)
theorem bI_nar (b : Bool) : narrow .boolean (.int (bI b)) = .int (bI b) := by cases b <;> decide +kernel
theorem nar0 : narrow .boolean (.int 0) = .int 0 := by decide +kernel
theorem nar1 : narrow .boolean (.int 1) = .int 1 := by decide +kernel
theorem fit_bI (b : Bool) : fits .boolean (.int (bI b)) = true := by cases b <;> decide +kernel
def st (im : IM) (k j : Nat) (x : Int32) : IM := upR im k (upd (im k) j x)
def tn (x : Int32) : Nat := x.toNatClampNeg
theorem tn_nI {n : Nat} (h : n < 2147483648) : tn (nI n) = n := nI_clamp h
theorem st_same (im : IM) (k j : Nat) (x : Int32) : st im k j x k j = x := by unfold st upR upd; rw [if_pos rfl, if_pos rfl]
theorem st_row {im : IM} {k j a : Nat} {x : Int32} (h : a ≠ k) : st im k j x a = im a := upR_ne h
theorem st_ne {im : IM} {k j a i : Nat} {x : Int32} (h : ¬ (a = k ∧ i = j)) : st im k j x a i = im a i := by
  unfold st upR upd
  by_cases h1 : a = k
  · subst h1
    rw [if_pos rfl, if_neg (fun q => h ⟨rfl, q⟩)]
  · rw [if_neg h1]
theorem st_at (im : IM) (k j a i : Nat) (x : Int32) : st im k j x a i = if a = k ∧ i = j then x else im a i := by
  by_cases h : a = k ∧ i = j
  · rw [if_pos h, h.1, h.2, st_same]
  · rw [if_neg h, st_ne h]
theorem cI (n : Nat) : (OfNat.ofNat n : Int32) = nI n := rfl
theorem ix_add {x y : Int32} {a b : Nat} (h : x = nI a) (h2 : y = nI b) : x + y = nI (a + b) := by rw [h, h2, nI_add]
theorem ix_mul {x y : Int32} {a b : Nat} (h : x = nI a) (h2 : y = nI b) : x * y = nI (a * b) := by rw [h, h2, pk_mul]
theorem ix_sub {x y : Int32} {a b : Nat} (h : x = nI a) (h2 : y = nI b) (hb : b ≤ a) : x - y = nI (a - b) := by rw [h, h2, pk_sub hb]
theorem ix_inc {x : Int32} {a : Nat} (h : x = nI a) : x + Int32.ofInt 1 = nI (a + 1) := by rw [h]; exact nI_1 a
def AL (lv lv' : LV) : Prop := ∀ q ∈ lv', lk lv q.1 = some q.2
theorem al_nil {lv : LV} : AL lv [] := fun q h => by cases h
theorem al_cons {lv r : LV} {i : Nat} {v : Value} (h : lk lv i = some v) (t : AL lv r) : AL lv ((i, v) :: r) := fun q hq => by
  rcases List.mem_cons.mp hq with rfl | hq
  · exact h
  · exact t q hq
theorem al_int {lv r : LV} {i : Nat} {x y : Int32} (h : lk lv i = some (.int x)) (e : x = y) (t : AL lv r) : AL lv ((i, .int y) :: r) := al_cons (e ▸ h) t
section AUX
variable {Y : Card} {d mc ms : Nat} {R : Rs} {kc ks pc : Nat} {lv : LV} {sk : List Value} {n : Nat} {im : IM} {rm : RM}
theorem r_lv {lv' : LV} (h : AL lv lv') (k : WW Y d mc ms R kc ks pc lv' sk n im rm) : WW Y d mc ms R kc ks pc lv sk n im rm :=
  r_sub (fun q hq => lk_mem lv q.1 q.2 (h q hq)) k
theorem r_im {im' : IM} (h : im = im') (k : WW Y d mc ms R kc ks pc lv sk n im' rm) : WW Y d mc ms R kc ks pc lv sk n im rm := h ▸ k
theorem r_rm {rm' : RM} (h : rm = rm') (k : WW Y d mc ms R kc ks pc lv sk n im rm') : WW Y d mc ms R kc ks pc lv sk n im rm := h ▸ k
theorem r_top {x y : Int32} (h : x = y) (k : WW Y d mc ms R kc ks pc lv (.int y :: sk) n im rm) : WW Y d mc ms R kc ks pc lv (.int x :: sk) n im rm := h ▸ k
theorem r_getx {k ci j idx : Nat} {ty : FieldType} {fin : Bool} {x : Int32} (hF : FL Y.1.cls idx ci j ty fin) (hd : decode Y.2.1 pc = .ok (.getfield idx, 3)) (hk : kd k = (0, ci)) (hn : k < n) (hi : rft ci j = false) (hx : im k j = x)
    (kk : WW Y d mc ms R kc ks (pc + 3) lv (.int x :: sk) n im rm) : WW Y d mc ms R kc ks pc lv (.ref k :: sk) n im rm := r_geti hF hd hk hn hi (hx.symm ▸ kk)
theorem r_ialx {k len j : Nat} {i x : Int32} (hd : decode Y.2.1 pc = .ok (.iaload, 1)) (hk : kd k = (1, len)) (hn : k < n) (hi : i = nI j) (hj : j < len) (hlen : len < 2147483648) (hx : im k j = x)
    (kk : WW Y d mc ms R kc ks (pc + 1) lv (.int x :: sk) n im rm) : WW Y d mc ms R kc ks pc lv (.int i :: .ref k :: sk) n im rm := r_iald hd hk hn hi hj hlen (hx.symm ▸ kk)
theorem r_zalx {k len j : Nat} {i x : Int32} (hd : decode Y.2.1 pc = .ok (.baload, 1)) (hk : kd k = (2, len)) (hn : k < n) (hi : i = nI j) (hj : j < len) (hlen : len < 2147483648) (hx : im k j = x)
    (kk : WW Y d mc ms R kc ks (pc + 1) lv (.int x :: sk) n im rm) : WW Y d mc ms R kc ks pc lv (.int i :: .ref k :: sk) n im rm := r_zald hd hk hn hi hj hlen (hx.symm ▸ kk)
theorem r_bz_eq {b : Bool} {off : Int} {tgt : Nat} (hd : decode Y.2.1 pc = .ok (.ifCond .eq off, 3)) (ht : (pc : Int) + off = (tgt : Int)) (kt : b = false → WW Y d mc ms R kc ks tgt lv sk n im rm) (kf : b = true → WW Y d mc ms R kc ks (pc + 3) lv sk n im rm) : WW Y d mc ms R kc ks pc lv (.int (bI b) :: sk) n im rm :=
  r_if_eq hd ht (fun h => kt (bI_0 h)) (fun h => kf (bI_1 h))
theorem r_bz_ne {b : Bool} {off : Int} {tgt : Nat} (hd : decode Y.2.1 pc = .ok (.ifCond .ne off, 3)) (ht : (pc : Int) + off = (tgt : Int)) (kt : b = true → WW Y d mc ms R kc ks tgt lv sk n im rm) (kf : b = false → WW Y d mc ms R kc ks (pc + 3) lv sk n im rm) : WW Y d mc ms R kc ks pc lv (.int (bI b) :: sk) n im rm :=
  r_if_ne hd ht (fun h => kt (bI_1 (by first | exact h | simpa using h))) (fun h => kf (bI_0 (by first | exact h | simpa using h)))
end AUX
