theorem rem_k {x : Int32} {a d : Nat} (h : x = nI a) (ha : a < 1000) (hd0 : 0 < d) (hd : d < 1000) : x - x / nI d * nI d = nI (a % d) := by
  rw [h]
  exact pk_rem (d := d) (by omega) (by omega) (by omega)
theorem zZ_eq (im : IM) : ∀ t, zZ im t = fun k j => if (k = 126 ∧ j < 5 ∧ j < t) ∨ (k = 127 ∧ j < 8 ∧ j < t) ∨ (k = 128 ∧ j < t) ∨ (k = 129 ∧ j < 10 ∧ j < t) then 0 else im k j
  | 0 => by
    funext k j
    rw [if_neg (by omega)]
    rfl
  | t + 1 => by
    rw [zZ, zZ_eq im t]
    funext k j
    simp only [st_at]
    by_cases h1 : k = 126
    · subst h1
      by_cases h : j = t % 5
      · rw [if_neg (by omega), if_neg (by omega), if_neg (by omega), if_pos ⟨rfl, h⟩, if_pos (Or.inl ⟨rfl, by omega, by omega⟩)]
      · rw [if_neg (by omega), if_neg (by omega), if_neg (by omega), if_neg (by omega)]
        by_cases h2 : j < 5 ∧ j < t
        · rw [if_pos (by omega), if_pos (by omega)]
        · rw [if_neg (by omega), if_neg (by omega)]
    · by_cases h1 : k = 127
      · subst h1
        by_cases h : j = t % 8
        · rw [if_neg (by omega), if_neg (by omega), if_pos ⟨rfl, h⟩, if_pos (by omega)]
        · rw [if_neg (by omega), if_neg (by omega), if_neg (by omega), if_neg (by omega)]
          by_cases h2 : j < 8 ∧ j < t
          · rw [if_pos (by omega), if_pos (by omega)]
          · rw [if_neg (by omega), if_neg (by omega)]
      · by_cases h1 : k = 128
        · subst h1
          by_cases h : j = t
          · rw [if_neg (by omega), if_pos ⟨rfl, h⟩, if_pos (by omega)]
          · rw [if_neg (by omega), if_neg (by omega), if_neg (by omega), if_neg (by omega)]
            by_cases h2 : j < t
            · rw [if_pos (by omega), if_pos (by omega)]
            · rw [if_neg (by omega), if_neg (by omega)]
        · by_cases h1 : k = 129
          · subst h1
            by_cases h : j = t % 10
            · rw [if_pos ⟨rfl, h⟩, if_pos (by omega)]
            · rw [if_neg (by omega), if_neg (by omega), if_neg (by omega), if_neg (by omega)]
              by_cases h2 : j < 10 ∧ j < t
              · rw [if_pos (by omega), if_pos (by omega)]
              · rw [if_neg (by omega), if_neg (by omega)]
          · rw [if_neg (by omega), if_neg (by omega), if_neg (by omega), if_neg (by omega), if_neg (by omega), if_neg (by omega)]
theorem zA_eq (im : IM) : zA im = fun k j => if (k = 126 ∧ j < 5) ∨ (k = 127 ∧ j < 8) ∨ (k = 128 ∧ j < 18) ∨ (k = 129 ∧ j < 10) ∨ (k = 120 ∧ (j = 22 ∨ j = 23)) then 0 else im k j := by
  rw [zA, zZ_eq]
  funext k j
  simp only [st_at]
  grind
theorem zA_MZ {im : IM} {L : Nat} (hL : im 120 1 = nI L) (hL2 : L ≤ 240) : MZ (zA im) L 0 := by
  rw [zA_eq]
  exact ⟨⟨hL, hL2, 0, rfl, by omega, fun _ => by omega⟩, 0, 0, 0, rfl, by omega, rfl, by omega, rfl, by omega⟩
theorem MZ.zero {im : IM} {L : Nat} : ∀ {a : Nat}, MZ im L a → MZ im L 0
  | 0, h => h
  | _ + 1, h => MZ.zero h.weak
theorem MZ.rd {L : Nat} : ∀ {n a : Nat} {im : IM}, MZ im L a → MZ (zrd n im) L 0
  | 0, _, _, h => h.zero
  | n + 1, a, im, h => by
    unfold zrd
    split
    · next q => exact MZ.rd (h.cl q.2).skz
    · exact h.zero
theorem zB_MZ {im : IM} {L : Nat} (hL : im 120 1 = nI L) (hL2 : L ≤ 240) : MZ (zB im) L 0 := (zA_MZ hL hL2).skz.rd
theorem zW_in {im : IM} : im = zW im 0 := by
  funext k j
  simp only [zW]
  grind
theorem zW_go {im : IM} {t : Nat} : st (zW im t) 130 t 0 = zW im (t + 1) := by
  funext k j
  simp only [zW, st_at]
  grind
theorem zS_row {im : IM} {r : Nat} (h : r ≠ 130) : ∀ t, zS im t r = im r
  | 0 => rfl
  | t + 1 => by rw [zS, st_row h, zS_row h t]
theorem zW_row {im : IM} {r t : Nat} (h : r ≠ 130) : zW im t r = im r := by
  funext j
  simp only [zW]
  rw [if_neg (fun q => h q.1)]
theorem zG_row {im : IM} {r : Nat} (h : r ≠ 130) : zG im r = im r := by
  unfold zG
  rw [st_row h, st_row h, zW_row h]
