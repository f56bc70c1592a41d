theorem lim {L i : Nat} (hL : L ≤ 256) (hi : i ≤ 300) (q : ¬ nI L - 4 < nI i) : i + 4 ≤ L := by
  have h0 : (0 : Int32) ≤ nI i := nI_le (a := 0) (by omega) (by omega)
  by_cases h4 : 4 ≤ L
  · have e : nI L - 4 = nI (L - 4) := pk_sub (b := 4) h4
    rw [e] at q
    apply Classical.byContradiction
    intro z
    exact q ((nI_ltI (by omega) (by omega)).mpr (by omega))
  · exfalso
    apply q
    have : L = 0 ∨ L = 1 ∨ L = 2 ∨ L = 3 := by omega
    rcases this with rfl | rfl | rfl | rfl
    · exact Int32.lt_of_lt_of_le (b := 0) (by decide) h0
    · exact Int32.lt_of_lt_of_le (b := 0) (by decide) h0
    · exact Int32.lt_of_lt_of_le (b := 0) (by decide) h0
    · exact Int32.lt_of_lt_of_le (b := 0) (by decide) h0

set_option maxRecDepth 100000 in
set_option maxHeartbeats 4000000 in
theorem law_loop {p : Program} {l : Launch} {e : Env} {s : State} {m : MethodId} {below : List Frame} {meth : Method} {c : Code} {sb L : Nat} {xs : Nat → Int32} {D : va_G} {ca : Nat → ClassId} (h : LC p s m meth c sb L xs D ca) (hL : L ≤ 256) : ∀ (w i : Nat) (im : IM) (pl it : Nat), L < i + w → i ≤ 300 → Rel im im pl it → LW p l e s m below meth c sb D ca 137 1829 18 (LVi s.heap.size sb i) [] 137 im (RR pl it) := by
  intro w
  induction w with
  | zero =>
    intro i im pl it hw hi3 hR
    refine l_iload h dL_law_18 rfl ?_
    refine l_aload h dL_law_19 rfl ?_
    refine l_slen h dL_law_20 ?_
    refine l_iconst (v := 4) h dL_law_21 (by decide) ?_
    refine l_isub h dL_law_22 ?_
    refine l_icmpgt (tgt := 1033) h dL_law_23 (by decide) (fun _ => ?_) (fun q => ?_)
    · refine l_iconst (v := 1) h dL_law_1033 (by decide) ?_
      exact l_end h ⟨by decide, by decide⟩ dL_law_1034
    · have hi := lim hL hi3 q
      exact absurd hw (by omega)
  | succ w ih =>
    intro i im pl it hw hi3 hR
    refine l_iload h dL_law_18 rfl ?_
    refine l_aload h dL_law_19 rfl ?_
    refine l_slen h dL_law_20 ?_
    refine l_iconst (v := 4) h dL_law_21 (by decide) ?_
    refine l_isub h dL_law_22 ?_
    refine l_icmpgt (tgt := 1033) h dL_law_23 (by decide) (fun _ => ?_) (fun q => ?_)
    · refine l_iconst (v := 1) h dL_law_1033 (by decide) ?_
      exact l_end h ⟨by decide, by decide⟩ dL_law_1034
    have hi := lim hL hi3 q
    refine l_aload h dL_law_26 rfl ?_
    refine l_iload h dL_law_27 rfl ?_
    refine l_sld (j := i) h hL dL_law_28 rfl (by omega) ?_
    refine l_bipush (v := 63) h dL_law_29 (by decide) ?_
    refine l_iand h dL_law_31 ?_
    have K : ∀ im pl it, Rel im im pl it → LW p l e s m below meth c sb D ca 137 1829 1027 (LVi s.heap.size sb i) [] 137 im (RR pl it) := by
      intro im pl it hr
      refine l_iinc (k := 0) (v := nI (i + 4)) (lv' := LVi s.heap.size sb (i + 4)) h dL_law_1027 rfl (ix_add rfl (by decide)) (by decide) rfl ?_
      refine l_goto (tgt := 18) h dL_law_1030 (by decide) ?_
      exact ih (i + 4) im pl it (by omega) (by omega) hr
    rcases sw_split (x := xs i &&& 63) (lo := 0) (n := 33) (by decide) (by decide) with hsw | ⟨jsw, hjsw, hsw⟩
    · exact l_tabOut (tgt := 1027) h dL_law_32 (sw_out hsw) (by decide) (K _ _ _ hR)
    · match jsw, hjsw, hsw with
      | 0, _, hsw =>
        refine l_tabIn (off := 148) (tgt := 180) h dL_law_32 (sw_a hsw (by decide) (by decide)) (sw_b hsw (by decide) (by decide)) (sw_c hsw (by decide) (by decide)) (by decide) ?_
        exact la_feed h hL hi hR K
      | 1, _, hsw =>
        refine l_tabIn (off := 171) (tgt := 203) h dL_law_32 (sw_a hsw (by decide) (by decide)) (sw_b hsw (by decide) (by decide)) (sw_c hsw (by decide) (by decide)) (by decide) ?_
        exact la_castle h hL hi hR K
      | 2, _, hsw =>
        refine l_tabIn (off := 184) (tgt := 216) h dL_law_32 (sw_a hsw (by decide) (by decide)) (sw_b hsw (by decide) (by decide)) (sw_c hsw (by decide) (by decide)) (by decide) ?_
        exact la_fault h hL hi hR K
      | 3, _, hsw =>
        refine l_tabIn (off := 197) (tgt := 229) h dL_law_32 (sw_a hsw (by decide) (by decide)) (sw_b hsw (by decide) (by decide)) (sw_c hsw (by decide) (by decide)) (by decide) ?_
        exact la_told h hL hi hR K
      | 4, _, hsw =>
        refine l_tabIn (off := 220) (tgt := 252) h dL_law_32 (sw_a hsw (by decide) (by decide)) (sw_b hsw (by decide) (by decide)) (sw_c hsw (by decide) (by decide)) (by decide) ?_
        exact la_likely h hL hi hR K
      | 5, _, hsw =>
        refine l_tabIn (off := 243) (tgt := 275) h dL_law_32 (sw_a hsw (by decide) (by decide)) (sw_b hsw (by decide) (by decide)) (sw_c hsw (by decide) (by decide)) (by decide) ?_
        exact la_test h hL hi hR K
      | 6, _, hsw =>
        refine l_tabIn (off := 276) (tgt := 308) h dL_law_32 (sw_a hsw (by decide) (by decide)) (sw_b hsw (by decide) (by decide)) (sw_c hsw (by decide) (by decide)) (by decide) ?_
        exact la_servant h hL hi hR K
      | 7, _, hsw =>
        refine l_tabIn (off := 309) (tgt := 341) h dL_law_32 (sw_a hsw (by decide) (by decide)) (sw_b hsw (by decide) (by decide)) (sw_c hsw (by decide) (by decide)) (by decide) ?_
        exact la_day h hL hi hR K
      | 8, _, hsw =>
        refine l_tabIn (off := 332) (tgt := 364) h dL_law_32 (sw_a hsw (by decide) (by decide)) (sw_b hsw (by decide) (by decide)) (sw_c hsw (by decide) (by decide)) (by decide) ?_
        exact la_make h hL hi hR K
      | 9, _, hsw =>
        refine l_tabIn (off := 355) (tgt := 387) h dL_law_32 (sw_a hsw (by decide) (by decide)) (sw_b hsw (by decide) (by decide)) (sw_c hsw (by decide) (by decide)) (by decide) ?_
        exact la_seal h hL hi hR K
      | 10, _, hsw =>
        refine l_tabIn (off := 394) (tgt := 426) h dL_law_32 (sw_a hsw (by decide) (by decide)) (sw_b hsw (by decide) (by decide)) (sw_c hsw (by decide) (by decide)) (by decide) ?_
        exact la_smash h hL hi hR K
      | 11, _, hsw =>
        refine l_tabIn (off := 407) (tgt := 439) h dL_law_32 (sw_a hsw (by decide) (by decide)) (sw_b hsw (by decide) (by decide)) (sw_c hsw (by decide) (by decide)) (by decide) ?_
        exact la_hire h hL hi hR K
      | 12, _, hsw =>
        refine l_tabIn (off := 456) (tgt := 488) h dL_law_32 (sw_a hsw (by decide) (by decide)) (sw_b hsw (by decide) (by decide)) (sw_c hsw (by decide) (by decide)) (by decide) ?_
        exact la_buy h hL hi hR K
      | 13, _, hsw =>
        refine l_tabIn (off := 499) (tgt := 531) h dL_law_32 (sw_a hsw (by decide) (by decide)) (sw_b hsw (by decide) (by decide)) (sw_c hsw (by decide) (by decide)) (by decide) ?_
        exact la_drift h hL hi hR K
      | 14, _, hsw =>
        refine l_tabIn (off := 522) (tgt := 554) h dL_law_32 (sw_a hsw (by decide) (by decide)) (sw_b hsw (by decide) (by decide)) (sw_c hsw (by decide) (by decide)) (by decide) ?_
        exact la_undo h hL hi hR K
      | 15, _, hsw =>
        refine l_tabIn (off := 535) (tgt := 567) h dL_law_32 (sw_a hsw (by decide) (by decide)) (sw_b hsw (by decide) (by decide)) (sw_c hsw (by decide) (by decide)) (by decide) ?_
        exact la_belief h hL hi hR K
      | 16, _, hsw =>
        refine l_tabIn (off := 558) (tgt := 590) h dL_law_32 (sw_a hsw (by decide) (by decide)) (sw_b hsw (by decide) (by decide)) (sw_c hsw (by decide) (by decide)) (by decide) ?_
        exact la_liars h hL hi hR K
      | 17, _, hsw =>
        refine l_tabIn (off := 581) (tgt := 613) h dL_law_32 (sw_a hsw (by decide) (by decide)) (sw_b hsw (by decide) (by decide)) (sw_c hsw (by decide) (by decide)) (by decide) ?_
        exact la_leastLiars h hL hi hR K
      | 18, _, hsw =>
        refine l_tabIn (off := 604) (tgt := 636) h dL_law_32 (sw_a hsw (by decide) (by decide)) (sw_b hsw (by decide) (by decide)) (sw_c hsw (by decide) (by decide)) (by decide) ?_
        exact la_ruleOut h hL hi hR K
      | 19, _, hsw =>
        refine l_tabIn (off := 647) (tgt := 679) h dL_law_32 (sw_a hsw (by decide) (by decide)) (sw_b hsw (by decide) (by decide)) (sw_c hsw (by decide) (by decide)) (by decide) ?_
        exact la_next h hL hi hR K
      | 20, _, hsw =>
        refine l_tabIn (off := 660) (tgt := 692) h dL_law_32 (sw_a hsw (by decide) (by decide)) (sw_b hsw (by decide) (by decide)) (sw_c hsw (by decide) (by decide)) (by decide) ?_
        exact la_offer h hL hi hR K
      | 21, _, hsw =>
        refine l_tabIn (off := 693) (tgt := 725) h dL_law_32 (sw_a hsw (by decide) (by decide)) (sw_b hsw (by decide) (by decide)) (sw_c hsw (by decide) (by decide)) (by decide) ?_
        exact la_both h hL hi hR K
      | 22, _, hsw =>
        refine l_tabIn (off := 736) (tgt := 768) h dL_law_32 (sw_a hsw (by decide) (by decide)) (sw_b hsw (by decide) (by decide)) (sw_c hsw (by decide) (by decide)) (by decide) ?_
        exact la_worth h hL hi hR K
      | 23, _, hsw =>
        refine l_tabIn (off := 769) (tgt := 801) h dL_law_32 (sw_a hsw (by decide) (by decide)) (sw_b hsw (by decide) (by decide)) (sw_c hsw (by decide) (by decide)) (by decide) ?_
        exact la_secret h hL hi hR K
      | 24, _, hsw =>
        refine l_tabIn (off := 802) (tgt := 834) h dL_law_32 (sw_a hsw (by decide) (by decide)) (sw_b hsw (by decide) (by decide)) (sw_c hsw (by decide) (by decide)) (by decide) ?_
        exact la_hear h hL hi hR K
      | 25, _, hsw =>
        refine l_tabIn (off := 851) (tgt := 883) h dL_law_32 (sw_a hsw (by decide) (by decide)) (sw_b hsw (by decide) (by decide)) (sw_c hsw (by decide) (by decide)) (by decide) ?_
        exact la_paid h hL hi hR K
      | 26, _, hsw =>
        refine l_tabIn (off := 864) (tgt := 896) h dL_law_32 (sw_a hsw (by decide) (by decide)) (sw_b hsw (by decide) (by decide)) (sw_c hsw (by decide) (by decide)) (by decide) ?_
        exact la_ask h hL hi hR K
      | 27, _, hsw =>
        refine l_tabIn (off := 877) (tgt := 909) h dL_law_32 (sw_a hsw (by decide) (by decide)) (sw_b hsw (by decide) (by decide)) (sw_c hsw (by decide) (by decide)) (by decide) ?_
        exact la_write h hL hi hR K
      | 28, _, hsw =>
        refine l_tabIn (off := 900) (tgt := 932) h dL_law_32 (sw_a hsw (by decide) (by decide)) (sw_b hsw (by decide) (by decide)) (sw_c hsw (by decide) (by decide)) (by decide) ?_
        exact la_tear h hL hi hR K
      | 29, _, hsw =>
        refine l_tabIn (off := 913) (tgt := 945) h dL_law_32 (sw_a hsw (by decide) (by decide)) (sw_b hsw (by decide) (by decide)) (sw_c hsw (by decide) (by decide)) (by decide) ?_
        exact la_judge h hL hi hR K
      | 30, _, hsw =>
        refine l_tabIn (off := 926) (tgt := 958) h dL_law_32 (sw_a hsw (by decide) (by decide)) (sw_b hsw (by decide) (by decide)) (sw_c hsw (by decide) (by decide)) (by decide) ?_
        exact la_seed h hL hi hR K
      | 31, _, hsw =>
        refine l_tabIn (off := 949) (tgt := 981) h dL_law_32 (sw_a hsw (by decide) (by decide)) (sw_b hsw (by decide) (by decide)) (sw_c hsw (by decide) (by decide)) (by decide) ?_
        exact la_keep h hL hi hR K
      | 32, _, hsw =>
        refine l_tabIn (off := 972) (tgt := 1004) h dL_law_32 (sw_a hsw (by decide) (by decide)) (sw_b hsw (by decide) (by decide)) (sw_c hsw (by decide) (by decide)) (by decide) ?_
        exact la_goBack h hL hi hR K
      | j + 33, hj, _ => exact absurd hj (by omega)
