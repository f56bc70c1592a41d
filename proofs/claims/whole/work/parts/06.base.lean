abbrev IM : Type := Nat → Nat → Int32
abbrev RM : Type := Nat → Nat → Option Nat
abbrev Rs : Type := Option Value × Nat × IM × RM
abbrev LV : Type := List (Nat × Value)
def KS : List (Nat × Nat) := [(0, 8), (0, 7), (1, 240), (0, 2), (1, 8), (1, 6), (1, 6), (1, 6), (1, 5), (1, 5), (0, 2), (1, 8), (1, 6), (1, 6), (1, 6), (1, 5), (1, 5), (0, 0), (1, 5), (1, 5), (1, 5), (0, 5), (3, 20), (0, 0), (1, 5), (1, 5), (1, 5), (0, 0), (1, 5), (1, 5), (1, 5), (0, 0), (1, 5), (1, 5), (1, 5), (0, 0), (1, 5), (1, 5), (1, 5), (0, 0), (1, 5), (1, 5), (1, 5), (0, 0), (1, 5), (1, 5), (1, 5), (0, 0), (1, 5), (1, 5), (1, 5), (0, 0), (1, 5), (1, 5), (1, 5), (0, 0), (1, 5), (1, 5), (1, 5), (0, 0), (1, 5), (1, 5), (1, 5), (0, 0), (1, 5), (1, 5), (1, 5), (0, 0), (1, 5), (1, 5), (1, 5), (0, 0), (1, 5), (1, 5), (1, 5), (0, 0), (1, 5), (1, 5), (1, 5), (0, 0), (1, 5), (1, 5), (1, 5), (0, 0), (1, 5), (1, 5), (1, 5), (0, 0), (1, 5), (1, 5), (1, 5), (0, 0), (1, 5), (1, 5), (1, 5), (0, 0), (1, 5), (1, 5), (1, 5), (0, 0), (1, 5), (1, 5), (1, 5), (0, 4), (1, 6), (2, 6), (0, 1), (1, 15), (0, 3), (4, 2), (0, 6), (0, 0), (1, 5), (1, 5), (1, 5), (0, 6), (0, 0), (1, 5), (1, 5), (1, 5), (0, 9), (1, 240), (1, 5), (1, 8), (1, 18), (1, 10), (1, 5), (1, 8), (1, 18), (1, 10), (1, 21), (1, 420), (1, 42), (1, 2), (2, 2), (1, 12), (1, 15)]
def kd (k : Nat) : Nat × Nat := KS.getD k (9, 0)
def nf (ci : Nat) : Nat := ([9, 2, 11, 1, 3, 3, 3, 10, 9, 24] : List Nat).getD ci 0
def rfL : List (List Bool) := [[false, false, false, false, false, false, true, true, true], [true, false], [false, true, false, true, true, true, false, true, true, false, false], [false], [true, true, false], [true, false, false], [false, true, false], [true, false, false, false, true, false, false, false, false, false], [false, true, true, true, true, true, true, true, true], [true, false, false, true, true, true, true, true, true, true, true, true, true, false, true, true, true, false, true, false, true, false, false, false]]
def rft (ci j : Nat) : Bool := (rfL.getD ci []).getD j false
def tv (b : Nat) (v : Value) : Value := match v with
  | .ref k => .ref (b + k)
  | w => w
def rr (b : Nat) (rm : RM) (k : Nat) : Nat → Option Nat := fun j => (rm k j).map (b + ·)
def fv (b : Nat) (im : IM) (rm : RM) (ci k j : Nat) : Value := if rft ci j = true then va_rf (rr b rm k j) else .int (im k j)
def ceT (ca : Nat → ClassId) (b : Nat) (im : IM) (rm : RM) (k : Nat) (q : Nat × Nat) : va_E :=
  if q.1 = 0 then .inr (q.2, (List.range (nf q.2)).map (fv b im rm q.2 k)) else if q.1 = 1 ∨ q.1 = 2 then .inl (ca q.1, q.2, .inl (im k)) else .inl (ca q.1, q.2, .inr (.inr (.inr (.inr (rr b rm k)))))
def ce (ca : Nat → ClassId) (b : Nat) (im : IM) (rm : RM) (k : Nat) : va_E := ceT ca b im rm k (kd k)
def Pic (D : va_G) (ca : Nat → ClassId) (b n : Nat) (im : IM) (rm : RM) (H : Heap) : Prop := H.size = b + n ∧ ∀ k, k < n → va_at D vwCl (b + k, ce ca b im rm k) H
abbrev tyL (ca : Nat → ClassId) : List (ClassId × FieldType) := [(ca 1, .int), (ca 2, .boolean), (ca 3, .object RX0), (ca 4, .object RX6)]
def rmd (d mc ms : Nat) : Room := { frames := d, cells := mc, slots := ms, locals := 37 * d }
def uw : Cond → Bool
  | .methodLinkNest .. => true
  | .arrayOver (.object _) => true
  | w => goodWord w
def TB (args : Array Value) (s : State) : Prop := ∀ w ∈ lw_tbl, uw w = true → w.before args s = true
theorem tb_move {args a' : Array Value} {s U : State} (hW : s.WarmedH U.vm) (h : TB args s) : TB a' U := by
  intro w hw hu
  have h1 := h w hw hu
  unfold uw at hu
  split at hu
  · exact va_Nw.use rfl (va_Nw.warmM hW (va_Nw.of rfl h1))
  · exact va_AO.use (va_AO.moved hW.alike (va_AO.of h1))
  · exact word_at hW (good_of_word hu) h1
def lw_u : List Cond := lw_tbl.filter uw
theorem TB.u {args : Array Value} {s : State} (h : TB args s) : ∀ w ∈ lw_u, w.before args s = true := fun w hw => h w (List.mem_filter.mp hw).1 (List.mem_filter.mp hw).2
def Cx (D : va_G) (ca : Nat → ClassId) (b : Nat) (p : Program) (s : State) (m : MethodId) (args : Array Value) (meth : Method) (c : Code) (Y : Card) : Prop :=
  p.tables.exec = Jvm.exec ∧ c.code = Y.2.1 ∧ meth.sig.returnType = Y.2.2.2 ∧ c.maxLocals = Y.2.2.1 ∧ s.vm.findClass Y.1.cls = some m.cls ∧ TB args s ∧ meth.locks = false ∧ va_K D vwCl (tyL ca) s ∧ b ≤ s.heap.size ∧ meth.name = Y.1.name
def QQ (D : va_G) (ca : Nat → ClassId) (b : Nat) (R : Rs) : Array Value → State → Outcome → State → Prop := fun _ st o t => o = .returned (R.1.map (tv b)) ∧ Pic D ca b R.2.1 R.2.2.1 R.2.2.2 t.heap ∧ ∀ q : Nat, q < b → t.heap[q]? = st.heap[q]?
def WW (Y : Card) (d mc ms : Nat) (R : Rs) (kc ks pc : Nat) (lv : LV) (st : List Value) (n : Nat) (im : IM) (rm : RM) : Prop :=
  ∀ (p : Program) (l : Launch) (e : Env) (s : State) (m : MethodId) (args : Array Value) (below : List Frame) (meth : Method) (c : Code) (D : va_G) (ca : Nat → ClassId) (b : Nat) (H : Heap) (locs : List Loc) (ls : Array Slot),
    Cx D ca b p s m args meth c Y → lv_has ls Y.2.2.1 (lv.map fun q => (q.1, tv b q.2)) → Pic D ca b n im rm H → (∀ q : Nat, q < b → H[q]? = s.heap[q]?) → (∀ q ∈ locs, b ≤ q.base) →
      W p l e (rmd d mc ms) s m args below meth c H locs kc ks (MQ below (QQ D ca b R) args s mc ms (fun q => b ≤ q)) (F0 m pc ls (st.map (tv b)))
def MT (Y : Card) (d mc ms : Nat) (av : List Value) (n : Nat) (im : IM) (rm : RM) (R : Rs) : Prop := ∀ (l : Launch) (D : va_G) (ca : Nat → ClassId) (b : Nat),
  Met l Y.1 [.code Y.1 Y.2.1 Y.2.2.1 Y.2.2.2] (rmd d mc ms) (va_Pc (av.map (tv b)) (fun U => Pic D ca b n im rm U.heap ∧ va_K D vwCl (tyL ca) U ∧ TB #[] U)) (QQ D ca b R) mc ms (fun q => b ≤ q)
def lk (l : LV) (i : Nat) : Option Value := match l with
  | [] => none
  | q :: r => if q.1 = i then some q.2 else lk r i
theorem lk_mem : ∀ (l : LV) (i : Nat) (v : Value), lk l i = some v → (i, v) ∈ l
  | [], i, v, h => by cases h
  | q :: r, i, v, h => by
    unfold lk at h
    split at h
    · next hq =>
      cases h
      subst hq
      exact List.mem_cons_self
    · exact List.mem_cons_of_mem _ (lk_mem r i v h)
theorem lk_at {ls : Array Slot} {nL b i : Nat} {lv : LV} {v : Value} (h : lv_has ls nL (lv.map fun q => (q.1, tv b q.2))) (hk : lk lv i = some v) : ls[i]? = some (.val (tv b v)) :=
  h.2.2 (i, tv b v) (List.mem_map.mpr ⟨(i, v), lk_mem lv i v hk, rfl⟩)
def ld (l : LV) (i : Nat) : LV := l.filter (fun q => !(q.1 == i) && !(q.1 + 1 == i && q.2.category == 2))
def ld2 (l : LV) (i : Nat) : LV := l.filter (fun q => !(q.1 == i) && (!(q.1 == i + 1) && !(q.1 + 1 == i && q.2.category == 2)))
theorem tv_cat (b : Nat) (v : Value) : (tv b v).category = v.category := by cases v <;> rfl
theorem ld_map (b i : Nat) (l : LV) : (l.map fun q => (q.1, tv b q.2)).filter (fun q => !(q.1 == i) && !(q.1 + 1 == i && q.2.category == 2)) = (ld l i).map fun q => (q.1, tv b q.2) := by
  unfold ld
  rw [List.filter_map]
  congr 1
  apply List.filter_congr
  intro q _
  simp [tv_cat]
theorem ld2_map (b i : Nat) (l : LV) : (l.map fun q => (q.1, tv b q.2)).filter (fun q => !(q.1 == i) && (!(q.1 == i + 1) && !(q.1 + 1 == i && q.2.category == 2))) = (ld2 l i).map fun q => (q.1, tv b q.2) := by
  unfold ld2
  rw [List.filter_map]
  congr 1
  apply List.filter_congr
  intro q _
  simp [tv_cat]
theorem cat_sum (b : Nat) (st : List Value) : ((st.map (tv b)).map fun v => v.category).sum = (st.map fun v => v.category).sum := by
  rw [List.map_map]
  congr 1
  apply List.map_congr_left
  intro v _
  exact tv_cat b v
theorem vp_in_of_nI {i : Int32} {k N : Nat} (h : i = nI k) (hk : k < N) (hN : N < 2147483648) : vp_in i N ∧ i.toNatClampNeg = k := by
  subst h
  exact ⟨vp_in_nI hk hN, nI_clamp (by omega)⟩
def upR (im : IM) (k : Nat) (f : Nat → Int32) : IM := fun a => if a = k then f else im a
def upQ (rm : RM) (k j : Nat) (v : Option Nat) : RM := fun a c => if a = k ∧ c = j then v else rm a c
theorem upR_same (im : IM) (k : Nat) (f : Nat → Int32) : upR im k f k = f := if_pos rfl
theorem upR_ne {im : IM} {k a : Nat} {f : Nat → Int32} (h : a ≠ k) : upR im k f a = im a := if_neg h
theorem upR_upR (im : IM) (k : Nat) (f g : Nat → Int32) : upR (upR im k f) k g = upR im k g := by
  funext a
  unfold upR
  split <;> rfl
theorem upR_comm (im : IM) {k j : Nat} (f g : Nat → Int32) (h : k ≠ j) : upR (upR im k f) j g = upR (upR im j g) k f := by
  funext a
  unfold upR
  by_cases h1 : a = j
  · rw [if_pos h1, if_neg (fun q => h (q.symm.trans h1)), if_pos h1]
  · rw [if_neg h1]
    by_cases h2 : a = k
    · rw [if_pos h2, if_pos h2]
    · rw [if_neg h2, if_neg h2, if_neg h1]
theorem upR_id (im : IM) (k : Nat) : upR im k (im k) = im := by
  funext a
  unfold upR
  split
  · next h => rw [h]
  · rfl
section PICS
variable {D : va_G} {ca : Nat → ClassId} {b n : Nat} {im : IM} {rm : RM} {H : Heap}
theorem Pic.obj (h : Pic D ca b n im rm H) {k ci : Nat} (hk : kd k = (0, ci)) (hn : k < n) : ∃ r : vw_C, vwCl[ci]? = some r ∧ t_OB (b + k) (D.1 ci) r.2.2 (D.2 ci) H (vp_V ((List.range (nf ci)).map (fv b im rm ci k))) := by
  have h1 := h.2 k hn
  unfold ce ceT at h1
  rw [hk] at h1
  exact h1
theorem Pic.arr (h : Pic D ca b n im rm H) {k t len : Nat} (hk : kd k = (t, len)) (ht : t = 1 ∨ t = 2) (hn : k < n) : H[b + k]? = some (vp_cell (ca t) (len, .inl (im k))) := by
  have h1 := h.2 k hn
  unfold ce ceT at h1
  rw [hk] at h1
  rcases ht with rfl | rfl <;> exact h1
theorem Pic.arq (h : Pic D ca b n im rm H) {k t len : Nat} (hk : kd k = (t, len)) (ht : t = 3 ∨ t = 4) (hn : k < n) : H[b + k]? = some (vp_cell (ca t) (len, .inr (.inr (.inr (.inr (rr b rm k)))))) := by
  have h1 := h.2 k hn
  unfold ce ceT at h1
  rw [hk] at h1
  rcases ht with rfl | rfl <;> exact h1
theorem Pic.set (h : Pic D ca b n im rm H) {im' : IM} {rm' : RM} {k : Nat} {H' : Heap} (hz : H'.size = H.size) (oq : ∀ q, q ≠ b + k → H'[q]? = H[q]?) (ho : ∀ a, a ≠ k → ce ca b im' rm' a = ce ca b im rm a) (hc : k < n → va_at D vwCl (b + k, ce ca b im' rm' k) H') : Pic D ca b n im' rm' H' := by
  refine ⟨hz.trans h.1, fun a ha => ?_⟩
  by_cases hak : a = k
  · subst hak
    exact hc ha
  · rw [ho a hak]
    exact (h.2 a ha).kept (oq _ (by show b + a ≠ b + k; omega))
theorem ce_upR {k a : Nat} {f : Nat → Int32} (h : a ≠ k) : ce ca b (upR im k f) rm a = ce ca b im rm a := by
  have e : upR im k f a = im a := upR_ne h
  unfold ce ceT fv
  rw [e]
theorem ce_upQ {k j a : Nat} {v : Option Nat} (h : a ≠ k) : ce ca b im (upQ rm k j v) a = ce ca b im rm a := by
  have e : rr b (upQ rm k j v) a = rr b rm a := by
    funext c
    unfold rr upQ
    rw [if_neg (fun q => h q.1)]
  unfold ce ceT fv
  rw [e]
theorem kin_u {C : String} {T : u_T} {N : Nat} (h : ∀ w ∈ u_ws C T N, w ∈ lw_tbl) : ∀ w ∈ u_ws C T N, w ∈ lw_u := by
  intro w hw
  refine List.mem_filter.mpr ⟨h w hw, ?_⟩
  obtain ⟨k, -, rfl⟩ := List.mem_map.mp hw
  unfold u_lay
  split <;> rfl
theorem klass {ci : Nat} {C : String} {T : u_T} {N : Nat} (h : vwCl[ci]? = some (C, T, N)) : (∀ w ∈ u_ws C T N, w ∈ lw_u) ∧ (∃ ty0 : Nat → FieldType, (∀ k, k < N → parseFieldDescriptor (T k).2.2.1 = some (ty0 k)) ∧ (∀ a, a < N → ∀ b, b < N → a ≠ b → (T a).2.1 ≠ (T b).2.1) ∧ ∀ k, k < N → defaultValue (ty0 k) = if rft ci k = true then .null else .int 0) ∧ N = nf ci := by
  match ci, h with
  | 0, h => cases h; exact ⟨kin_u kin_0, ⟨tyX0, tyX0_ok, nmX0, by decide +kernel⟩, rfl⟩
  | 1, h => cases h; exact ⟨kin_u kin_1, ⟨tyX1, tyX1_ok, nmX1, by decide +kernel⟩, rfl⟩
  | 2, h => cases h; exact ⟨kin_u kin_2, ⟨tyX2, tyX2_ok, nmX2, by decide +kernel⟩, rfl⟩
  | 3, h => cases h; exact ⟨kin_u kin_3, ⟨tyX3, tyX3_ok, nmX3, by decide +kernel⟩, rfl⟩
  | 4, h => cases h; exact ⟨kin_u kin_4, ⟨tyX4, tyX4_ok, nmX4, by decide +kernel⟩, rfl⟩
  | 5, h => cases h; exact ⟨kin_u kin_5, ⟨tyX5, tyX5_ok, nmX5, by decide +kernel⟩, rfl⟩
  | 6, h => cases h; exact ⟨kin_u kin_6, ⟨tyX6, tyX6_ok, nmX6, by decide +kernel⟩, rfl⟩
  | 7, h => cases h; exact ⟨kin_u kin_7, ⟨tyX7, tyX7_ok, nmX7, by decide +kernel⟩, rfl⟩
  | 8, h => cases h; exact ⟨kin_u kin_8, ⟨tyX8, tyX8_ok, nmX8, by decide +kernel⟩, rfl⟩
  | 9, h => cases h; exact ⟨kin_u kin_9, ⟨tyX9, tyX9_ok, nmX9, by decide +kernel⟩, rfl⟩
  | n + 10, h => simp [vwCl] at h
theorem vp_V_fv {ci k j : Nat} (hj : j < nf ci) : vp_V ((List.range (nf ci)).map (fv b im rm ci k)) j = fv b im rm ci k j := by
  unfold vp_V
  rw [List.getD_eq_getElem?_getD, List.getElem?_map, List.getElem?_range hj]
  rfl
end PICS
