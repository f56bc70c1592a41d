abbrev LVi (b sb i : Nat) : LV := [(3, .int (nI i)), (2, .ref (b + 120)), (1, .ref (b + 0)), (0, .ref sb)]
def zb (x : Int32) : Int32 := if x = 0 then 0 else 1
theorem zb01 (x : Int32) : b01 (zb x) := by
  unfold zb
  split
  · exact Or.inl rfl
  · exact Or.inr rfl
section CASES
variable {p : Program} {l : Launch} {e : Env} {s : State} {m : MethodId} {below : List Frame} {meth : Method} {c : Code} {sb L : Nat} {xs : Nat → Int32} {D : va_G} {ca : Nat → ClassId} {i : Nat} {im : IM} {pl it : Nat}
theorem l_arg {k pc kc ks n : Nat} {kI : Int} {sk : List Value} {rm : RM} (h : LC p s m meth c sb L xs D ca) (hL : L ≤ 256) (hi : i + k < L) (d0 : decode code pc = .ok (.aload_n 0, 1)) (d1 : decode code (pc + 1) = .ok (.iload_n 3, 1)) (d2 : decode code (pc + 2) = .ok (.iconst kI, 1)) (d3 : decode code (pc + 3) = .ok (.iadd, 1)) (d4 : decode code (pc + 4) = .ok (.iaload, 1)) (hk : Int32.ofInt kI = nI k)
    (kk : LW p l e s m below meth c sb D ca kc ks (pc + 5) (LVi s.heap.size sb i) (.int (xs (i + k)) :: sk) n im rm) : LW p l e s m below meth c sb D ca kc ks pc (LVi s.heap.size sb i) sk n im rm :=
  l_aload h d0 rfl (l_iload h d1 rfl (l_iconst h d2 hk (l_iadd h d3 (ix_add rfl rfl) (l_sld h hL d4 rfl hi kk))))
theorem l_argb {k pc kc ks n : Nat} {kI : Int} {sk : List Value} {rm : RM} (h : LC p s m meth c sb L xs D ca) (hL : L ≤ 256) (hi : i + k < L) (d0 : decode code pc = .ok (.aload_n 0, 1)) (d1 : decode code (pc + 1) = .ok (.iload_n 3, 1)) (d2 : decode code (pc + 2) = .ok (.iconst kI, 1)) (d3 : decode code (pc + 3) = .ok (.iadd, 1)) (d4 : decode code (pc + 4) = .ok (.iaload, 1)) (d5 : decode code (pc + 5) = .ok (.ifCond .eq 7, 3)) (d6 : decode code (pc + 8) = .ok (.iconst 1, 1)) (d7 : decode code (pc + 9) = .ok (.goto 4, 3)) (d8 : decode code (pc + 12) = .ok (.iconst 0, 1)) (hk : Int32.ofInt kI = nI k)
    (kk : LW p l e s m below meth c sb D ca kc ks (pc + 13) (LVi s.heap.size sb i) (.int (zb (xs (i + k))) :: sk) n im rm) : LW p l e s m below meth c sb D ca kc ks pc (LVi s.heap.size sb i) sk n im rm := by
  refine l_arg h hL hi d0 d1 d2 d3 d4 hk ?_
  refine l_ifeq (tgt := pc + 12) h d5 (by omega) (fun q => ?_) (fun q => ?_)
  · refine l_iconst (v := 0) h d8 (by decide) ?_
    have e0 : zb (xs (i + k)) = 0 := if_pos q
    rw [e0] at kk
    exact kk
  · refine l_iconst (v := 1) h d6 (by decide) ?_
    have e1 : zb (xs (i + k)) = 1 := if_neg q
    rw [e1] at kk
    exact l_goto (tgt := pc + 13) h d7 (by omega) kk

theorem la_feed (h : LC p s m meth c sb L xs D ca) (hL : L ≤ 256) (hi : i + 4 ≤ L) (hR : Rel im im pl it) (K : ∀ im pl it, Rel im im pl it → LW p l e s m below meth c sb D ca 137 1829 1027 (LVi s.heap.size sb i) [] 137 im (RR pl it)) : LW p l e s m below meth c sb D ca 137 1829 180 (LVi s.heap.size sb i) [] 137 im (RR pl it) := by
  obtain ⟨v, im1, pl', it', im2, hc, hm, hr⟩ := k_feed hR (xs (i + 1))
  refine l_aload h dL_law_180 rfl ?_
  refine l_arg (k := 1) h hL (by omega) dL_law_181 dL_law_182 dL_law_183 dL_law_184 dL_law_185 (by decide) ?_
  refine l_callV (sk := []) (As := [.int (xs (i + 1))]) (o := 0) h cv_L_13 dL_law_186 hc ⟨by decide, by decide⟩ rfl rfl rfl (by decide) cl_8 (Nat.le_of_ble_eq_true rfl) ⟨by decide, by decide⟩ ?_
  refine l_aload h dL_law_189 rfl ?_
  refine l_arg (k := 1) h hL (by omega) dL_law_190 dL_law_191 dL_law_192 dL_law_193 dL_law_194 (by decide) ?_
  refine l_callV (sk := [.int v]) (As := [.int (xs (i + 1))]) (o := 120) h cv_L_17 dL_law_195 hm ⟨by decide, by decide⟩ rfl rfl rfl (by decide) cl_9 (Nat.le_of_ble_eq_true rfl) ⟨by decide, by decide⟩ ?_
  exact l_icmpeq (tgt := 1027) h dL_law_198 (by decide) (K im2 pl' it' hr)
theorem la_castle (h : LC p s m meth c sb L xs D ca) (hL : L ≤ 256) (hi : i + 4 ≤ L) (hR : Rel im im pl it) (K : ∀ im pl it, Rel im im pl it → LW p l e s m below meth c sb D ca 137 1829 1027 (LVi s.heap.size sb i) [] 137 im (RR pl it)) : LW p l e s m below meth c sb D ca 137 1829 203 (LVi s.heap.size sb i) [] 137 im (RR pl it) := by
  obtain ⟨v, im1, pl', it', im2, hc, hm, hr⟩ := k_castle hR 
  refine l_aload h dL_law_203 rfl ?_
  refine l_callV (sk := []) (As := []) (o := 0) h cv_L_18 dL_law_204 hc ⟨by decide, by decide⟩ rfl rfl rfl (by decide) cl_8 (Nat.le_of_ble_eq_true rfl) ⟨by decide, by decide⟩ ?_
  refine l_aload h dL_law_207 rfl ?_
  refine l_callV (sk := [.int v]) (As := []) (o := 120) h cv_L_22 dL_law_208 hm ⟨by decide, by decide⟩ rfl rfl rfl (by decide) cl_9 (Nat.le_of_ble_eq_true rfl) ⟨by decide, by decide⟩ ?_
  exact l_icmpeq (tgt := 1027) h dL_law_211 (by decide) (K im2 pl' it' hr)
theorem la_fault (h : LC p s m meth c sb L xs D ca) (hL : L ≤ 256) (hi : i + 4 ≤ L) (hR : Rel im im pl it) (K : ∀ im pl it, Rel im im pl it → LW p l e s m below meth c sb D ca 137 1829 1027 (LVi s.heap.size sb i) [] 137 im (RR pl it)) : LW p l e s m below meth c sb D ca 137 1829 216 (LVi s.heap.size sb i) [] 137 im (RR pl it) := by
  obtain ⟨v, im1, pl', it', im2, hc, hm, hr⟩ := k_fault hR 
  refine l_aload h dL_law_216 rfl ?_
  refine l_callV (sk := []) (As := []) (o := 0) h cv_L_23 dL_law_217 hc ⟨by decide, by decide⟩ rfl rfl rfl (by decide) cl_8 (Nat.le_of_ble_eq_true rfl) ⟨by decide, by decide⟩ ?_
  refine l_aload h dL_law_220 rfl ?_
  refine l_callV (sk := [.int v]) (As := []) (o := 120) h cv_L_26 dL_law_221 hm ⟨by decide, by decide⟩ rfl rfl rfl (by decide) cl_9 (Nat.le_of_ble_eq_true rfl) ⟨by decide, by decide⟩ ?_
  exact l_icmpeq (tgt := 1027) h dL_law_224 (by decide) (K im2 pl' it' hr)
theorem la_told (h : LC p s m meth c sb L xs D ca) (hL : L ≤ 256) (hi : i + 4 ≤ L) (hR : Rel im im pl it) (K : ∀ im pl it, Rel im im pl it → LW p l e s m below meth c sb D ca 137 1829 1027 (LVi s.heap.size sb i) [] 137 im (RR pl it)) : LW p l e s m below meth c sb D ca 137 1829 229 (LVi s.heap.size sb i) [] 137 im (RR pl it) := by
  obtain ⟨v, im1, pl', it', im2, hc, hm, hr⟩ := k_told hR (xs (i + 1))
  refine l_aload h dL_law_229 rfl ?_
  refine l_arg (k := 1) h hL (by omega) dL_law_230 dL_law_231 dL_law_232 dL_law_233 dL_law_234 (by decide) ?_
  refine l_callV (sk := []) (As := [.int (xs (i + 1))]) (o := 0) h cv_L_27 dL_law_235 hc ⟨by decide, by decide⟩ rfl rfl rfl (by decide) cl_8 (Nat.le_of_ble_eq_true rfl) ⟨by decide, by decide⟩ ?_
  refine l_aload h dL_law_238 rfl ?_
  refine l_arg (k := 1) h hL (by omega) dL_law_239 dL_law_240 dL_law_241 dL_law_242 dL_law_243 (by decide) ?_
  refine l_callV (sk := [.int v]) (As := [.int (xs (i + 1))]) (o := 120) h cv_L_30 dL_law_244 hm ⟨by decide, by decide⟩ rfl rfl rfl (by decide) cl_9 (Nat.le_of_ble_eq_true rfl) ⟨by decide, by decide⟩ ?_
  exact l_icmpeq (tgt := 1027) h dL_law_247 (by decide) (K im2 pl' it' hr)
theorem la_likely (h : LC p s m meth c sb L xs D ca) (hL : L ≤ 256) (hi : i + 4 ≤ L) (hR : Rel im im pl it) (K : ∀ im pl it, Rel im im pl it → LW p l e s m below meth c sb D ca 137 1829 1027 (LVi s.heap.size sb i) [] 137 im (RR pl it)) : LW p l e s m below meth c sb D ca 137 1829 252 (LVi s.heap.size sb i) [] 137 im (RR pl it) := by
  obtain ⟨v, im1, pl', it', im2, hc, hm, hr⟩ := k_likely hR (xs (i + 1))
  refine l_aload h dL_law_252 rfl ?_
  refine l_arg (k := 1) h hL (by omega) dL_law_253 dL_law_254 dL_law_255 dL_law_256 dL_law_257 (by decide) ?_
  refine l_callV (sk := []) (As := [.int (xs (i + 1))]) (o := 0) h cv_L_31 dL_law_258 hc ⟨by decide, by decide⟩ rfl rfl rfl (by decide) cl_8 (Nat.le_of_ble_eq_true rfl) ⟨by decide, by decide⟩ ?_
  refine l_aload h dL_law_261 rfl ?_
  refine l_arg (k := 1) h hL (by omega) dL_law_262 dL_law_263 dL_law_264 dL_law_265 dL_law_266 (by decide) ?_
  refine l_callV (sk := [.int v]) (As := [.int (xs (i + 1))]) (o := 120) h cv_L_34 dL_law_267 hm ⟨by decide, by decide⟩ rfl rfl rfl (by decide) cl_9 (Nat.le_of_ble_eq_true rfl) ⟨by decide, by decide⟩ ?_
  exact l_icmpeq (tgt := 1027) h dL_law_270 (by decide) (K im2 pl' it' hr)
theorem la_test (h : LC p s m meth c sb L xs D ca) (hL : L ≤ 256) (hi : i + 4 ≤ L) (hR : Rel im im pl it) (K : ∀ im pl it, Rel im im pl it → LW p l e s m below meth c sb D ca 137 1829 1027 (LVi s.heap.size sb i) [] 137 im (RR pl it)) : LW p l e s m below meth c sb D ca 137 1829 275 (LVi s.heap.size sb i) [] 137 im (RR pl it) := by
  obtain ⟨v, im1, pl', it', im2, hc, hm, hr⟩ := k_test hR (xs (i + 1)) (xs (i + 2))
  refine l_aload h dL_law_275 rfl ?_
  refine l_arg (k := 1) h hL (by omega) dL_law_276 dL_law_277 dL_law_278 dL_law_279 dL_law_280 (by decide) ?_
  refine l_arg (k := 2) h hL (by omega) dL_law_281 dL_law_282 dL_law_283 dL_law_284 dL_law_285 (by decide) ?_
  refine l_callV (sk := []) (As := [.int (xs (i + 1)), .int (xs (i + 2))]) (o := 0) h cv_L_35 dL_law_286 hc ⟨by decide, by decide⟩ rfl rfl rfl (by decide) cl_8 (Nat.le_of_ble_eq_true rfl) ⟨by decide, by decide⟩ ?_
  refine l_aload h dL_law_289 rfl ?_
  refine l_arg (k := 1) h hL (by omega) dL_law_290 dL_law_291 dL_law_292 dL_law_293 dL_law_294 (by decide) ?_
  refine l_arg (k := 2) h hL (by omega) dL_law_295 dL_law_296 dL_law_297 dL_law_298 dL_law_299 (by decide) ?_
  refine l_callV (sk := [.int v]) (As := [.int (xs (i + 1)), .int (xs (i + 2))]) (o := 120) h cv_L_39 dL_law_300 hm ⟨by decide, by decide⟩ rfl rfl rfl (by decide) cl_9 (Nat.le_of_ble_eq_true rfl) ⟨by decide, by decide⟩ ?_
  exact l_icmpeq (tgt := 1027) h dL_law_303 (by decide) (K im2 pl' it' hr)
theorem la_servant (h : LC p s m meth c sb L xs D ca) (hL : L ≤ 256) (hi : i + 4 ≤ L) (hR : Rel im im pl it) (K : ∀ im pl it, Rel im im pl it → LW p l e s m below meth c sb D ca 137 1829 1027 (LVi s.heap.size sb i) [] 137 im (RR pl it)) : LW p l e s m below meth c sb D ca 137 1829 308 (LVi s.heap.size sb i) [] 137 im (RR pl it) := by
  obtain ⟨v, im1, pl', it', im2, hc, hm, hr⟩ := k_servant hR (xs (i + 1)) (xs (i + 2))
  refine l_aload h dL_law_308 rfl ?_
  refine l_arg (k := 1) h hL (by omega) dL_law_309 dL_law_310 dL_law_311 dL_law_312 dL_law_313 (by decide) ?_
  refine l_arg (k := 2) h hL (by omega) dL_law_314 dL_law_315 dL_law_316 dL_law_317 dL_law_318 (by decide) ?_
  refine l_callV (sk := []) (As := [.int (xs (i + 1)), .int (xs (i + 2))]) (o := 0) h cv_L_40 dL_law_319 hc ⟨by decide, by decide⟩ rfl rfl rfl (by decide) cl_8 (Nat.le_of_ble_eq_true rfl) ⟨by decide, by decide⟩ ?_
  refine l_aload h dL_law_322 rfl ?_
  refine l_arg (k := 1) h hL (by omega) dL_law_323 dL_law_324 dL_law_325 dL_law_326 dL_law_327 (by decide) ?_
  refine l_arg (k := 2) h hL (by omega) dL_law_328 dL_law_329 dL_law_330 dL_law_331 dL_law_332 (by decide) ?_
  refine l_callV (sk := [.int v]) (As := [.int (xs (i + 1)), .int (xs (i + 2))]) (o := 120) h cv_L_43 dL_law_333 hm ⟨by decide, by decide⟩ rfl rfl rfl (by decide) cl_9 (Nat.le_of_ble_eq_true rfl) ⟨by decide, by decide⟩ ?_
  exact l_icmpeq (tgt := 1027) h dL_law_336 (by decide) (K im2 pl' it' hr)
theorem la_day (h : LC p s m meth c sb L xs D ca) (hL : L ≤ 256) (hi : i + 4 ≤ L) (hR : Rel im im pl it) (K : ∀ im pl it, Rel im im pl it → LW p l e s m below meth c sb D ca 137 1829 1027 (LVi s.heap.size sb i) [] 137 im (RR pl it)) : LW p l e s m below meth c sb D ca 137 1829 341 (LVi s.heap.size sb i) [] 137 im (RR pl it) := by
  obtain ⟨v, im1, pl', it', im2, hc, hm, hr⟩ := k_day hR (xs (i + 1))
  refine l_aload h dL_law_341 rfl ?_
  refine l_arg (k := 1) h hL (by omega) dL_law_342 dL_law_343 dL_law_344 dL_law_345 dL_law_346 (by decide) ?_
  refine l_callV (sk := []) (As := [.int (xs (i + 1))]) (o := 0) h cv_L_44 dL_law_347 hc ⟨by decide, by decide⟩ rfl rfl rfl (by decide) cl_8 (Nat.le_of_ble_eq_true rfl) ⟨by decide, by decide⟩ ?_
  refine l_aload h dL_law_350 rfl ?_
  refine l_arg (k := 1) h hL (by omega) dL_law_351 dL_law_352 dL_law_353 dL_law_354 dL_law_355 (by decide) ?_
  refine l_callV (sk := [.int v]) (As := [.int (xs (i + 1))]) (o := 120) h cv_L_47 dL_law_356 hm ⟨by decide, by decide⟩ rfl rfl rfl (by decide) cl_9 (Nat.le_of_ble_eq_true rfl) ⟨by decide, by decide⟩ ?_
  exact l_icmpeq (tgt := 1027) h dL_law_359 (by decide) (K im2 pl' it' hr)
theorem la_make (h : LC p s m meth c sb L xs D ca) (hL : L ≤ 256) (hi : i + 4 ≤ L) (hR : Rel im im pl it) (K : ∀ im pl it, Rel im im pl it → LW p l e s m below meth c sb D ca 137 1829 1027 (LVi s.heap.size sb i) [] 137 im (RR pl it)) : LW p l e s m below meth c sb D ca 137 1829 364 (LVi s.heap.size sb i) [] 137 im (RR pl it) := by
  obtain ⟨v, im1, pl', it', im2, hc, hm, hr⟩ := k_make hR (xs (i + 1))
  refine l_aload h dL_law_364 rfl ?_
  refine l_arg (k := 1) h hL (by omega) dL_law_365 dL_law_366 dL_law_367 dL_law_368 dL_law_369 (by decide) ?_
  refine l_callV (sk := []) (As := [.int (xs (i + 1))]) (o := 0) h cv_L_48 dL_law_370 hc ⟨by decide, by decide⟩ rfl rfl rfl (by decide) cl_8 (Nat.le_of_ble_eq_true rfl) ⟨by decide, by decide⟩ ?_
  refine l_aload h dL_law_373 rfl ?_
  refine l_arg (k := 1) h hL (by omega) dL_law_374 dL_law_375 dL_law_376 dL_law_377 dL_law_378 (by decide) ?_
  refine l_callV (sk := [.int v]) (As := [.int (xs (i + 1))]) (o := 120) h cv_L_51 dL_law_379 hm ⟨by decide, by decide⟩ rfl rfl rfl (by decide) cl_9 (Nat.le_of_ble_eq_true rfl) ⟨by decide, by decide⟩ ?_
  exact l_icmpeq (tgt := 1027) h dL_law_382 (by decide) (K im2 pl' it' hr)
theorem la_seal (h : LC p s m meth c sb L xs D ca) (hL : L ≤ 256) (hi : i + 4 ≤ L) (hR : Rel im im pl it) (K : ∀ im pl it, Rel im im pl it → LW p l e s m below meth c sb D ca 137 1829 1027 (LVi s.heap.size sb i) [] 137 im (RR pl it)) : LW p l e s m below meth c sb D ca 137 1829 387 (LVi s.heap.size sb i) [] 137 im (RR pl it) := by
  obtain ⟨v, im1, pl', it', im2, hc, hm, hr⟩ := k_seal hR (zb (xs (i + 1))) (zb01 _)
  refine l_aload h dL_law_387 rfl ?_
  refine l_argb (k := 1) h hL (by omega) dL_law_388 dL_law_389 dL_law_390 dL_law_391 dL_law_392 dL_law_393 dL_law_396 dL_law_397 dL_law_400 (by decide) ?_
  refine l_callV (sk := []) (As := [.int (zb (xs (i + 1)))]) (o := 0) h cv_L_52 dL_law_401 hc ⟨by decide, by decide⟩ rfl rfl rfl (by decide) cl_8 (Nat.le_of_ble_eq_true rfl) ⟨by decide, by decide⟩ ?_
  refine l_aload h dL_law_404 rfl ?_
  refine l_argb (k := 1) h hL (by omega) dL_law_405 dL_law_406 dL_law_407 dL_law_408 dL_law_409 dL_law_410 dL_law_413 dL_law_414 dL_law_417 (by decide) ?_
  refine l_callV (sk := [.int v]) (As := [.int (zb (xs (i + 1)))]) (o := 120) h cv_L_56 dL_law_418 hm ⟨by decide, by decide⟩ rfl rfl rfl (by decide) cl_9 (Nat.le_of_ble_eq_true rfl) ⟨by decide, by decide⟩ ?_
  exact l_icmpeq (tgt := 1027) h dL_law_421 (by decide) (K im2 pl' it' hr)
theorem la_smash (h : LC p s m meth c sb L xs D ca) (hL : L ≤ 256) (hi : i + 4 ≤ L) (hR : Rel im im pl it) (K : ∀ im pl it, Rel im im pl it → LW p l e s m below meth c sb D ca 137 1829 1027 (LVi s.heap.size sb i) [] 137 im (RR pl it)) : LW p l e s m below meth c sb D ca 137 1829 426 (LVi s.heap.size sb i) [] 137 im (RR pl it) := by
  obtain ⟨v, im1, pl', it', im2, hc, hm, hr⟩ := k_smash hR 
  refine l_aload h dL_law_426 rfl ?_
  refine l_callV (sk := []) (As := []) (o := 0) h cv_L_57 dL_law_427 hc ⟨by decide, by decide⟩ rfl rfl rfl (by decide) cl_8 (Nat.le_of_ble_eq_true rfl) ⟨by decide, by decide⟩ ?_
  refine l_aload h dL_law_430 rfl ?_
  refine l_callV (sk := [.int v]) (As := []) (o := 120) h cv_L_60 dL_law_431 hm ⟨by decide, by decide⟩ rfl rfl rfl (by decide) cl_9 (Nat.le_of_ble_eq_true rfl) ⟨by decide, by decide⟩ ?_
  exact l_icmpeq (tgt := 1027) h dL_law_434 (by decide) (K im2 pl' it' hr)
theorem la_hire (h : LC p s m meth c sb L xs D ca) (hL : L ≤ 256) (hi : i + 4 ≤ L) (hR : Rel im im pl it) (K : ∀ im pl it, Rel im im pl it → LW p l e s m below meth c sb D ca 137 1829 1027 (LVi s.heap.size sb i) [] 137 im (RR pl it)) : LW p l e s m below meth c sb D ca 137 1829 439 (LVi s.heap.size sb i) [] 137 im (RR pl it) := by
  obtain ⟨v, im1, pl', it', im2, hc, hm, hr⟩ := k_hire hR (xs (i + 1)) (zb (xs (i + 2)))
  refine l_aload h dL_law_439 rfl ?_
  refine l_arg (k := 1) h hL (by omega) dL_law_440 dL_law_441 dL_law_442 dL_law_443 dL_law_444 (by decide) ?_
  refine l_argb (k := 2) h hL (by omega) dL_law_445 dL_law_446 dL_law_447 dL_law_448 dL_law_449 dL_law_450 dL_law_453 dL_law_454 dL_law_457 (by decide) ?_
  refine l_callV (sk := []) (As := [.int (xs (i + 1)), .int (zb (xs (i + 2)))]) (o := 0) h cv_L_61 dL_law_458 hc ⟨by decide, by decide⟩ rfl rfl rfl (by decide) cl_8 (Nat.le_of_ble_eq_true rfl) ⟨by decide, by decide⟩ ?_
  refine l_aload h dL_law_461 rfl ?_
  refine l_arg (k := 1) h hL (by omega) dL_law_462 dL_law_463 dL_law_464 dL_law_465 dL_law_466 (by decide) ?_
  refine l_argb (k := 2) h hL (by omega) dL_law_467 dL_law_468 dL_law_469 dL_law_470 dL_law_471 dL_law_472 dL_law_475 dL_law_476 dL_law_479 (by decide) ?_
  refine l_callV (sk := [.int v]) (As := [.int (xs (i + 1)), .int (zb (xs (i + 2)))]) (o := 120) h cv_L_65 dL_law_480 hm ⟨by decide, by decide⟩ rfl rfl rfl (by decide) cl_9 (Nat.le_of_ble_eq_true rfl) ⟨by decide, by decide⟩ ?_
  exact l_icmpeq (tgt := 1027) h dL_law_483 (by decide) (K im2 pl' it' hr)
theorem la_buy (h : LC p s m meth c sb L xs D ca) (hL : L ≤ 256) (hi : i + 4 ≤ L) (hR : Rel im im pl it) (K : ∀ im pl it, Rel im im pl it → LW p l e s m below meth c sb D ca 137 1829 1027 (LVi s.heap.size sb i) [] 137 im (RR pl it)) : LW p l e s m below meth c sb D ca 137 1829 488 (LVi s.heap.size sb i) [] 137 im (RR pl it) := by
  obtain ⟨v, im1, pl', it', im2, hc, hm, hr⟩ := k_buy hR (xs (i + 1)) (xs (i + 2)) (xs (i + 3))
  refine l_aload h dL_law_488 rfl ?_
  refine l_arg (k := 1) h hL (by omega) dL_law_489 dL_law_490 dL_law_491 dL_law_492 dL_law_493 (by decide) ?_
  refine l_arg (k := 2) h hL (by omega) dL_law_494 dL_law_495 dL_law_496 dL_law_497 dL_law_498 (by decide) ?_
  refine l_arg (k := 3) h hL (by omega) dL_law_499 dL_law_500 dL_law_501 dL_law_502 dL_law_503 (by decide) ?_
  refine l_callV (sk := []) (As := [.int (xs (i + 1)), .int (xs (i + 2)), .int (xs (i + 3))]) (o := 0) h cv_L_66 dL_law_504 hc ⟨by decide, by decide⟩ rfl rfl rfl (by decide) cl_8 (Nat.le_of_ble_eq_true rfl) ⟨by decide, by decide⟩ ?_
  refine l_aload h dL_law_507 rfl ?_
  refine l_arg (k := 1) h hL (by omega) dL_law_508 dL_law_509 dL_law_510 dL_law_511 dL_law_512 (by decide) ?_
  refine l_arg (k := 2) h hL (by omega) dL_law_513 dL_law_514 dL_law_515 dL_law_516 dL_law_517 (by decide) ?_
  refine l_arg (k := 3) h hL (by omega) dL_law_518 dL_law_519 dL_law_520 dL_law_521 dL_law_522 (by decide) ?_
  refine l_callV (sk := [.int v]) (As := [.int (xs (i + 1)), .int (xs (i + 2)), .int (xs (i + 3))]) (o := 120) h cv_L_70 dL_law_523 hm ⟨by decide, by decide⟩ rfl rfl rfl (by decide) cl_9 (Nat.le_of_ble_eq_true rfl) ⟨by decide, by decide⟩ ?_
  exact l_icmpeq (tgt := 1027) h dL_law_526 (by decide) (K im2 pl' it' hr)
theorem la_drift (h : LC p s m meth c sb L xs D ca) (hL : L ≤ 256) (hi : i + 4 ≤ L) (hR : Rel im im pl it) (K : ∀ im pl it, Rel im im pl it → LW p l e s m below meth c sb D ca 137 1829 1027 (LVi s.heap.size sb i) [] 137 im (RR pl it)) : LW p l e s m below meth c sb D ca 137 1829 531 (LVi s.heap.size sb i) [] 137 im (RR pl it) := by
  obtain ⟨v, im1, pl', it', im2, hc, hm, hr⟩ := k_drift hR (xs (i + 1))
  refine l_aload h dL_law_531 rfl ?_
  refine l_arg (k := 1) h hL (by omega) dL_law_532 dL_law_533 dL_law_534 dL_law_535 dL_law_536 (by decide) ?_
  refine l_callV (sk := []) (As := [.int (xs (i + 1))]) (o := 0) h cv_L_71 dL_law_537 hc ⟨by decide, by decide⟩ rfl rfl rfl (by decide) cl_8 (Nat.le_of_ble_eq_true rfl) ⟨by decide, by decide⟩ ?_
  refine l_aload h dL_law_540 rfl ?_
  refine l_arg (k := 1) h hL (by omega) dL_law_541 dL_law_542 dL_law_543 dL_law_544 dL_law_545 (by decide) ?_
  refine l_callV (sk := [.int v]) (As := [.int (xs (i + 1))]) (o := 120) h cv_L_74 dL_law_546 hm ⟨by decide, by decide⟩ rfl rfl rfl (by decide) cl_9 (Nat.le_of_ble_eq_true rfl) ⟨by decide, by decide⟩ ?_
  exact l_icmpeq (tgt := 1027) h dL_law_549 (by decide) (K im2 pl' it' hr)
theorem la_undo (h : LC p s m meth c sb L xs D ca) (hL : L ≤ 256) (hi : i + 4 ≤ L) (hR : Rel im im pl it) (K : ∀ im pl it, Rel im im pl it → LW p l e s m below meth c sb D ca 137 1829 1027 (LVi s.heap.size sb i) [] 137 im (RR pl it)) : LW p l e s m below meth c sb D ca 137 1829 554 (LVi s.heap.size sb i) [] 137 im (RR pl it) := by
  obtain ⟨v, im1, pl', it', im2, hc, hm, hr⟩ := k_undo hR 
  refine l_aload h dL_law_554 rfl ?_
  refine l_callV (sk := []) (As := []) (o := 0) h cv_L_75 dL_law_555 hc ⟨by decide, by decide⟩ rfl rfl rfl (by decide) cl_8 (Nat.le_of_ble_eq_true rfl) ⟨by decide, by decide⟩ ?_
  refine l_aload h dL_law_558 rfl ?_
  refine l_callV (sk := [.int v]) (As := []) (o := 120) h cv_L_78 dL_law_559 hm ⟨by decide, by decide⟩ rfl rfl rfl (by decide) cl_9 (Nat.le_of_ble_eq_true rfl) ⟨by decide, by decide⟩ ?_
  exact l_icmpeq (tgt := 1027) h dL_law_562 (by decide) (K im2 pl' it' hr)
theorem la_belief (h : LC p s m meth c sb L xs D ca) (hL : L ≤ 256) (hi : i + 4 ≤ L) (hR : Rel im im pl it) (K : ∀ im pl it, Rel im im pl it → LW p l e s m below meth c sb D ca 137 1829 1027 (LVi s.heap.size sb i) [] 137 im (RR pl it)) : LW p l e s m below meth c sb D ca 137 1829 567 (LVi s.heap.size sb i) [] 137 im (RR pl it) := by
  obtain ⟨v, im1, pl', it', im2, hc, hm, hr⟩ := k_belief hR (xs (i + 1))
  refine l_aload h dL_law_567 rfl ?_
  refine l_arg (k := 1) h hL (by omega) dL_law_568 dL_law_569 dL_law_570 dL_law_571 dL_law_572 (by decide) ?_
  refine l_callV (sk := []) (As := [.int (xs (i + 1))]) (o := 0) h cv_L_79 dL_law_573 hc ⟨by decide, by decide⟩ rfl rfl rfl (by decide) cl_8 (Nat.le_of_ble_eq_true rfl) ⟨by decide, by decide⟩ ?_
  refine l_aload h dL_law_576 rfl ?_
  refine l_arg (k := 1) h hL (by omega) dL_law_577 dL_law_578 dL_law_579 dL_law_580 dL_law_581 (by decide) ?_
  refine l_callV (sk := [.int v]) (As := [.int (xs (i + 1))]) (o := 120) h cv_L_82 dL_law_582 hm ⟨by decide, by decide⟩ rfl rfl rfl (by decide) cl_9 (Nat.le_of_ble_eq_true rfl) ⟨by decide, by decide⟩ ?_
  exact l_icmpeq (tgt := 1027) h dL_law_585 (by decide) (K im2 pl' it' hr)
theorem la_liars (h : LC p s m meth c sb L xs D ca) (hL : L ≤ 256) (hi : i + 4 ≤ L) (hR : Rel im im pl it) (K : ∀ im pl it, Rel im im pl it → LW p l e s m below meth c sb D ca 137 1829 1027 (LVi s.heap.size sb i) [] 137 im (RR pl it)) : LW p l e s m below meth c sb D ca 137 1829 590 (LVi s.heap.size sb i) [] 137 im (RR pl it) := by
  obtain ⟨v, im1, pl', it', im2, hc, hm, hr⟩ := k_liars hR (xs (i + 1))
  refine l_aload h dL_law_590 rfl ?_
  refine l_arg (k := 1) h hL (by omega) dL_law_591 dL_law_592 dL_law_593 dL_law_594 dL_law_595 (by decide) ?_
  refine l_callV (sk := []) (As := [.int (xs (i + 1))]) (o := 0) h cv_L_83 dL_law_596 hc ⟨by decide, by decide⟩ rfl rfl rfl (by decide) cl_8 (Nat.le_of_ble_eq_true rfl) ⟨by decide, by decide⟩ ?_
  refine l_aload h dL_law_599 rfl ?_
  refine l_arg (k := 1) h hL (by omega) dL_law_600 dL_law_601 dL_law_602 dL_law_603 dL_law_604 (by decide) ?_
  refine l_callV (sk := [.int v]) (As := [.int (xs (i + 1))]) (o := 120) h cv_L_86 dL_law_605 hm ⟨by decide, by decide⟩ rfl rfl rfl (by decide) cl_9 (Nat.le_of_ble_eq_true rfl) ⟨by decide, by decide⟩ ?_
  exact l_icmpeq (tgt := 1027) h dL_law_608 (by decide) (K im2 pl' it' hr)
theorem la_leastLiars (h : LC p s m meth c sb L xs D ca) (hL : L ≤ 256) (hi : i + 4 ≤ L) (hR : Rel im im pl it) (K : ∀ im pl it, Rel im im pl it → LW p l e s m below meth c sb D ca 137 1829 1027 (LVi s.heap.size sb i) [] 137 im (RR pl it)) : LW p l e s m below meth c sb D ca 137 1829 613 (LVi s.heap.size sb i) [] 137 im (RR pl it) := by
  obtain ⟨v, im1, pl', it', im2, hc, hm, hr⟩ := k_leastLiars hR (xs (i + 1))
  refine l_aload h dL_law_613 rfl ?_
  refine l_arg (k := 1) h hL (by omega) dL_law_614 dL_law_615 dL_law_616 dL_law_617 dL_law_618 (by decide) ?_
  refine l_callV (sk := []) (As := [.int (xs (i + 1))]) (o := 0) h cv_L_87 dL_law_619 hc ⟨by decide, by decide⟩ rfl rfl rfl (by decide) cl_8 (Nat.le_of_ble_eq_true rfl) ⟨by decide, by decide⟩ ?_
  refine l_aload h dL_law_622 rfl ?_
  refine l_arg (k := 1) h hL (by omega) dL_law_623 dL_law_624 dL_law_625 dL_law_626 dL_law_627 (by decide) ?_
  refine l_callV (sk := [.int v]) (As := [.int (xs (i + 1))]) (o := 120) h cv_L_90 dL_law_628 hm ⟨by decide, by decide⟩ rfl rfl rfl (by decide) cl_9 (Nat.le_of_ble_eq_true rfl) ⟨by decide, by decide⟩ ?_
  exact l_icmpeq (tgt := 1027) h dL_law_631 (by decide) (K im2 pl' it' hr)
theorem la_ruleOut (h : LC p s m meth c sb L xs D ca) (hL : L ≤ 256) (hi : i + 4 ≤ L) (hR : Rel im im pl it) (K : ∀ im pl it, Rel im im pl it → LW p l e s m below meth c sb D ca 137 1829 1027 (LVi s.heap.size sb i) [] 137 im (RR pl it)) : LW p l e s m below meth c sb D ca 137 1829 636 (LVi s.heap.size sb i) [] 137 im (RR pl it) := by
  obtain ⟨v, im1, pl', it', im2, hc, hm, hr⟩ := k_ruleOut hR (xs (i + 1)) (xs (i + 2)) (xs (i + 3))
  refine l_aload h dL_law_636 rfl ?_
  refine l_arg (k := 1) h hL (by omega) dL_law_637 dL_law_638 dL_law_639 dL_law_640 dL_law_641 (by decide) ?_
  refine l_arg (k := 2) h hL (by omega) dL_law_642 dL_law_643 dL_law_644 dL_law_645 dL_law_646 (by decide) ?_
  refine l_arg (k := 3) h hL (by omega) dL_law_647 dL_law_648 dL_law_649 dL_law_650 dL_law_651 (by decide) ?_
  refine l_callV (sk := []) (As := [.int (xs (i + 1)), .int (xs (i + 2)), .int (xs (i + 3))]) (o := 0) h cv_L_91 dL_law_652 hc ⟨by decide, by decide⟩ rfl rfl rfl (by decide) cl_8 (Nat.le_of_ble_eq_true rfl) ⟨by decide, by decide⟩ ?_
  refine l_aload h dL_law_655 rfl ?_
  refine l_arg (k := 1) h hL (by omega) dL_law_656 dL_law_657 dL_law_658 dL_law_659 dL_law_660 (by decide) ?_
  refine l_arg (k := 2) h hL (by omega) dL_law_661 dL_law_662 dL_law_663 dL_law_664 dL_law_665 (by decide) ?_
  refine l_arg (k := 3) h hL (by omega) dL_law_666 dL_law_667 dL_law_668 dL_law_669 dL_law_670 (by decide) ?_
  refine l_callV (sk := [.int v]) (As := [.int (xs (i + 1)), .int (xs (i + 2)), .int (xs (i + 3))]) (o := 120) h cv_L_94 dL_law_671 hm ⟨by decide, by decide⟩ rfl rfl rfl (by decide) cl_9 (Nat.le_of_ble_eq_true rfl) ⟨by decide, by decide⟩ ?_
  exact l_icmpeq (tgt := 1027) h dL_law_674 (by decide) (K im2 pl' it' hr)
theorem la_next (h : LC p s m meth c sb L xs D ca) (hL : L ≤ 256) (hi : i + 4 ≤ L) (hR : Rel im im pl it) (K : ∀ im pl it, Rel im im pl it → LW p l e s m below meth c sb D ca 137 1829 1027 (LVi s.heap.size sb i) [] 137 im (RR pl it)) : LW p l e s m below meth c sb D ca 137 1829 679 (LVi s.heap.size sb i) [] 137 im (RR pl it) := by
  obtain ⟨v, im1, pl', it', im2, hc, hm, hr⟩ := k_next hR 
  refine l_aload h dL_law_679 rfl ?_
  refine l_callV (sk := []) (As := []) (o := 0) h cv_L_95 dL_law_680 hc ⟨by decide, by decide⟩ rfl rfl rfl (by decide) cl_8 (Nat.le_of_ble_eq_true rfl) ⟨by decide, by decide⟩ ?_
  refine l_aload h dL_law_683 rfl ?_
  refine l_callV (sk := [.int v]) (As := []) (o := 120) h cv_L_98 dL_law_684 hm ⟨by decide, by decide⟩ rfl rfl rfl (by decide) cl_9 (Nat.le_of_ble_eq_true rfl) ⟨by decide, by decide⟩ ?_
  exact l_icmpeq (tgt := 1027) h dL_law_687 (by decide) (K im2 pl' it' hr)
theorem la_offer (h : LC p s m meth c sb L xs D ca) (hL : L ≤ 256) (hi : i + 4 ≤ L) (hR : Rel im im pl it) (K : ∀ im pl it, Rel im im pl it → LW p l e s m below meth c sb D ca 137 1829 1027 (LVi s.heap.size sb i) [] 137 im (RR pl it)) : LW p l e s m below meth c sb D ca 137 1829 692 (LVi s.heap.size sb i) [] 137 im (RR pl it) := by
  obtain ⟨v, im1, pl', it', im2, hc, hm, hr⟩ := k_offer hR (xs (i + 1)) (xs (i + 2))
  refine l_aload h dL_law_692 rfl ?_
  refine l_arg (k := 1) h hL (by omega) dL_law_693 dL_law_694 dL_law_695 dL_law_696 dL_law_697 (by decide) ?_
  refine l_arg (k := 2) h hL (by omega) dL_law_698 dL_law_699 dL_law_700 dL_law_701 dL_law_702 (by decide) ?_
  refine l_callV (sk := []) (As := [.int (xs (i + 1)), .int (xs (i + 2))]) (o := 0) h cv_L_99 dL_law_703 hc ⟨by decide, by decide⟩ rfl rfl rfl (by decide) cl_8 (Nat.le_of_ble_eq_true rfl) ⟨by decide, by decide⟩ ?_
  refine l_aload h dL_law_706 rfl ?_
  refine l_arg (k := 1) h hL (by omega) dL_law_707 dL_law_708 dL_law_709 dL_law_710 dL_law_711 (by decide) ?_
  refine l_arg (k := 2) h hL (by omega) dL_law_712 dL_law_713 dL_law_714 dL_law_715 dL_law_716 (by decide) ?_
  refine l_callV (sk := [.int v]) (As := [.int (xs (i + 1)), .int (xs (i + 2))]) (o := 120) h cv_L_102 dL_law_717 hm ⟨by decide, by decide⟩ rfl rfl rfl (by decide) cl_9 (Nat.le_of_ble_eq_true rfl) ⟨by decide, by decide⟩ ?_
  exact l_icmpeq (tgt := 1027) h dL_law_720 (by decide) (K im2 pl' it' hr)
theorem la_both (h : LC p s m meth c sb L xs D ca) (hL : L ≤ 256) (hi : i + 4 ≤ L) (hR : Rel im im pl it) (K : ∀ im pl it, Rel im im pl it → LW p l e s m below meth c sb D ca 137 1829 1027 (LVi s.heap.size sb i) [] 137 im (RR pl it)) : LW p l e s m below meth c sb D ca 137 1829 725 (LVi s.heap.size sb i) [] 137 im (RR pl it) := by
  obtain ⟨v, im1, pl', it', im2, hc, hm, hr⟩ := k_both hR (xs (i + 1)) (xs (i + 2)) (xs (i + 3))
  refine l_aload h dL_law_725 rfl ?_
  refine l_arg (k := 1) h hL (by omega) dL_law_726 dL_law_727 dL_law_728 dL_law_729 dL_law_730 (by decide) ?_
  refine l_arg (k := 2) h hL (by omega) dL_law_731 dL_law_732 dL_law_733 dL_law_734 dL_law_735 (by decide) ?_
  refine l_arg (k := 3) h hL (by omega) dL_law_736 dL_law_737 dL_law_738 dL_law_739 dL_law_740 (by decide) ?_
  refine l_callV (sk := []) (As := [.int (xs (i + 1)), .int (xs (i + 2)), .int (xs (i + 3))]) (o := 0) h cv_L_103 dL_law_741 hc ⟨by decide, by decide⟩ rfl rfl rfl (by decide) cl_8 (Nat.le_of_ble_eq_true rfl) ⟨by decide, by decide⟩ ?_
  refine l_aload h dL_law_744 rfl ?_
  refine l_arg (k := 1) h hL (by omega) dL_law_745 dL_law_746 dL_law_747 dL_law_748 dL_law_749 (by decide) ?_
  refine l_arg (k := 2) h hL (by omega) dL_law_750 dL_law_751 dL_law_752 dL_law_753 dL_law_754 (by decide) ?_
  refine l_arg (k := 3) h hL (by omega) dL_law_755 dL_law_756 dL_law_757 dL_law_758 dL_law_759 (by decide) ?_
  refine l_callV (sk := [.int v]) (As := [.int (xs (i + 1)), .int (xs (i + 2)), .int (xs (i + 3))]) (o := 120) h cv_L_106 dL_law_760 hm ⟨by decide, by decide⟩ rfl rfl rfl (by decide) cl_9 (Nat.le_of_ble_eq_true rfl) ⟨by decide, by decide⟩ ?_
  exact l_icmpeq (tgt := 1027) h dL_law_763 (by decide) (K im2 pl' it' hr)
theorem la_worth (h : LC p s m meth c sb L xs D ca) (hL : L ≤ 256) (hi : i + 4 ≤ L) (hR : Rel im im pl it) (K : ∀ im pl it, Rel im im pl it → LW p l e s m below meth c sb D ca 137 1829 1027 (LVi s.heap.size sb i) [] 137 im (RR pl it)) : LW p l e s m below meth c sb D ca 137 1829 768 (LVi s.heap.size sb i) [] 137 im (RR pl it) := by
  obtain ⟨v, im1, pl', it', im2, hc, hm, hr⟩ := k_worth hR (xs (i + 1)) (xs (i + 2))
  refine l_aload h dL_law_768 rfl ?_
  refine l_arg (k := 1) h hL (by omega) dL_law_769 dL_law_770 dL_law_771 dL_law_772 dL_law_773 (by decide) ?_
  refine l_arg (k := 2) h hL (by omega) dL_law_774 dL_law_775 dL_law_776 dL_law_777 dL_law_778 (by decide) ?_
  refine l_callV (sk := []) (As := [.int (xs (i + 1)), .int (xs (i + 2))]) (o := 0) h cv_L_107 dL_law_779 hc ⟨by decide, by decide⟩ rfl rfl rfl (by decide) cl_8 (Nat.le_of_ble_eq_true rfl) ⟨by decide, by decide⟩ ?_
  refine l_aload h dL_law_782 rfl ?_
  refine l_arg (k := 1) h hL (by omega) dL_law_783 dL_law_784 dL_law_785 dL_law_786 dL_law_787 (by decide) ?_
  refine l_arg (k := 2) h hL (by omega) dL_law_788 dL_law_789 dL_law_790 dL_law_791 dL_law_792 (by decide) ?_
  refine l_callV (sk := [.int v]) (As := [.int (xs (i + 1)), .int (xs (i + 2))]) (o := 120) h cv_L_110 dL_law_793 hm ⟨by decide, by decide⟩ rfl rfl rfl (by decide) cl_9 (Nat.le_of_ble_eq_true rfl) ⟨by decide, by decide⟩ ?_
  exact l_icmpeq (tgt := 1027) h dL_law_796 (by decide) (K im2 pl' it' hr)
theorem la_secret (h : LC p s m meth c sb L xs D ca) (hL : L ≤ 256) (hi : i + 4 ≤ L) (hR : Rel im im pl it) (K : ∀ im pl it, Rel im im pl it → LW p l e s m below meth c sb D ca 137 1829 1027 (LVi s.heap.size sb i) [] 137 im (RR pl it)) : LW p l e s m below meth c sb D ca 137 1829 801 (LVi s.heap.size sb i) [] 137 im (RR pl it) := by
  obtain ⟨v, im1, pl', it', im2, hc, hm, hr⟩ := k_secret hR (xs (i + 1)) (xs (i + 2))
  refine l_aload h dL_law_801 rfl ?_
  refine l_arg (k := 1) h hL (by omega) dL_law_802 dL_law_803 dL_law_804 dL_law_805 dL_law_806 (by decide) ?_
  refine l_arg (k := 2) h hL (by omega) dL_law_807 dL_law_808 dL_law_809 dL_law_810 dL_law_811 (by decide) ?_
  refine l_callV (sk := []) (As := [.int (xs (i + 1)), .int (xs (i + 2))]) (o := 0) h cv_L_111 dL_law_812 hc ⟨by decide, by decide⟩ rfl rfl rfl (by decide) cl_8 (Nat.le_of_ble_eq_true rfl) ⟨by decide, by decide⟩ ?_
  refine l_aload h dL_law_815 rfl ?_
  refine l_arg (k := 1) h hL (by omega) dL_law_816 dL_law_817 dL_law_818 dL_law_819 dL_law_820 (by decide) ?_
  refine l_arg (k := 2) h hL (by omega) dL_law_821 dL_law_822 dL_law_823 dL_law_824 dL_law_825 (by decide) ?_
  refine l_callV (sk := [.int v]) (As := [.int (xs (i + 1)), .int (xs (i + 2))]) (o := 120) h cv_L_114 dL_law_826 hm ⟨by decide, by decide⟩ rfl rfl rfl (by decide) cl_9 (Nat.le_of_ble_eq_true rfl) ⟨by decide, by decide⟩ ?_
  exact l_icmpeq (tgt := 1027) h dL_law_829 (by decide) (K im2 pl' it' hr)
theorem la_hear (h : LC p s m meth c sb L xs D ca) (hL : L ≤ 256) (hi : i + 4 ≤ L) (hR : Rel im im pl it) (K : ∀ im pl it, Rel im im pl it → LW p l e s m below meth c sb D ca 137 1829 1027 (LVi s.heap.size sb i) [] 137 im (RR pl it)) : LW p l e s m below meth c sb D ca 137 1829 834 (LVi s.heap.size sb i) [] 137 im (RR pl it) := by
  obtain ⟨v, im1, pl', it', im2, hc, hm, hr⟩ := k_hear hR (xs (i + 1)) (zb (xs (i + 2))) (zb01 _)
  refine l_aload h dL_law_834 rfl ?_
  refine l_arg (k := 1) h hL (by omega) dL_law_835 dL_law_836 dL_law_837 dL_law_838 dL_law_839 (by decide) ?_
  refine l_argb (k := 2) h hL (by omega) dL_law_840 dL_law_841 dL_law_842 dL_law_843 dL_law_844 dL_law_845 dL_law_848 dL_law_849 dL_law_852 (by decide) ?_
  refine l_callV (sk := []) (As := [.int (xs (i + 1)), .int (zb (xs (i + 2)))]) (o := 0) h cv_L_115 dL_law_853 hc ⟨by decide, by decide⟩ rfl rfl rfl (by decide) cl_8 (Nat.le_of_ble_eq_true rfl) ⟨by decide, by decide⟩ ?_
  refine l_aload h dL_law_856 rfl ?_
  refine l_arg (k := 1) h hL (by omega) dL_law_857 dL_law_858 dL_law_859 dL_law_860 dL_law_861 (by decide) ?_
  refine l_argb (k := 2) h hL (by omega) dL_law_862 dL_law_863 dL_law_864 dL_law_865 dL_law_866 dL_law_867 dL_law_870 dL_law_871 dL_law_874 (by decide) ?_
  refine l_callV (sk := [.int v]) (As := [.int (xs (i + 1)), .int (zb (xs (i + 2)))]) (o := 120) h cv_L_118 dL_law_875 hm ⟨by decide, by decide⟩ rfl rfl rfl (by decide) cl_9 (Nat.le_of_ble_eq_true rfl) ⟨by decide, by decide⟩ ?_
  exact l_icmpeq (tgt := 1027) h dL_law_878 (by decide) (K im2 pl' it' hr)
theorem la_paid (h : LC p s m meth c sb L xs D ca) (hL : L ≤ 256) (hi : i + 4 ≤ L) (hR : Rel im im pl it) (K : ∀ im pl it, Rel im im pl it → LW p l e s m below meth c sb D ca 137 1829 1027 (LVi s.heap.size sb i) [] 137 im (RR pl it)) : LW p l e s m below meth c sb D ca 137 1829 883 (LVi s.heap.size sb i) [] 137 im (RR pl it) := by
  obtain ⟨v, im1, pl', it', im2, hc, hm, hr⟩ := k_paid hR 
  refine l_aload h dL_law_883 rfl ?_
  refine l_callV (sk := []) (As := []) (o := 0) h cv_L_119 dL_law_884 hc ⟨by decide, by decide⟩ rfl rfl rfl (by decide) cl_8 (Nat.le_of_ble_eq_true rfl) ⟨by decide, by decide⟩ ?_
  refine l_aload h dL_law_887 rfl ?_
  refine l_callV (sk := [.int v]) (As := []) (o := 120) h cv_L_122 dL_law_888 hm ⟨by decide, by decide⟩ rfl rfl rfl (by decide) cl_9 (Nat.le_of_ble_eq_true rfl) ⟨by decide, by decide⟩ ?_
  exact l_icmpeq (tgt := 1027) h dL_law_891 (by decide) (K im2 pl' it' hr)
theorem la_ask (h : LC p s m meth c sb L xs D ca) (hL : L ≤ 256) (hi : i + 4 ≤ L) (hR : Rel im im pl it) (K : ∀ im pl it, Rel im im pl it → LW p l e s m below meth c sb D ca 137 1829 1027 (LVi s.heap.size sb i) [] 137 im (RR pl it)) : LW p l e s m below meth c sb D ca 137 1829 896 (LVi s.heap.size sb i) [] 137 im (RR pl it) := by
  obtain ⟨v, im1, pl', it', im2, hc, hm, hr⟩ := k_ask hR 
  refine l_aload h dL_law_896 rfl ?_
  refine l_callV (sk := []) (As := []) (o := 0) h cv_L_123 dL_law_897 hc ⟨by decide, by decide⟩ rfl rfl rfl (by decide) cl_8 (Nat.le_of_ble_eq_true rfl) ⟨by decide, by decide⟩ ?_
  refine l_aload h dL_law_900 rfl ?_
  refine l_callV (sk := [.int v]) (As := []) (o := 120) h cv_L_126 dL_law_901 hm ⟨by decide, by decide⟩ rfl rfl rfl (by decide) cl_9 (Nat.le_of_ble_eq_true rfl) ⟨by decide, by decide⟩ ?_
  exact l_icmpeq (tgt := 1027) h dL_law_904 (by decide) (K im2 pl' it' hr)
theorem la_write (h : LC p s m meth c sb L xs D ca) (hL : L ≤ 256) (hi : i + 4 ≤ L) (hR : Rel im im pl it) (K : ∀ im pl it, Rel im im pl it → LW p l e s m below meth c sb D ca 137 1829 1027 (LVi s.heap.size sb i) [] 137 im (RR pl it)) : LW p l e s m below meth c sb D ca 137 1829 909 (LVi s.heap.size sb i) [] 137 im (RR pl it) := by
  obtain ⟨v, im1, pl', it', im2, hc, hm, hr⟩ := k_write hR (xs (i + 1))
  refine l_aload h dL_law_909 rfl ?_
  refine l_arg (k := 1) h hL (by omega) dL_law_910 dL_law_911 dL_law_912 dL_law_913 dL_law_914 (by decide) ?_
  refine l_callV (sk := []) (As := [.int (xs (i + 1))]) (o := 0) h cv_L_127 dL_law_915 hc ⟨by decide, by decide⟩ rfl rfl rfl (by decide) cl_8 (Nat.le_of_ble_eq_true rfl) ⟨by decide, by decide⟩ ?_
  refine l_aload h dL_law_918 rfl ?_
  refine l_arg (k := 1) h hL (by omega) dL_law_919 dL_law_920 dL_law_921 dL_law_922 dL_law_923 (by decide) ?_
  refine l_callV (sk := [.int v]) (As := [.int (xs (i + 1))]) (o := 120) h cv_L_130 dL_law_924 hm ⟨by decide, by decide⟩ rfl rfl rfl (by decide) cl_9 (Nat.le_of_ble_eq_true rfl) ⟨by decide, by decide⟩ ?_
  exact l_icmpeq (tgt := 1027) h dL_law_927 (by decide) (K im2 pl' it' hr)
theorem la_tear (h : LC p s m meth c sb L xs D ca) (hL : L ≤ 256) (hi : i + 4 ≤ L) (hR : Rel im im pl it) (K : ∀ im pl it, Rel im im pl it → LW p l e s m below meth c sb D ca 137 1829 1027 (LVi s.heap.size sb i) [] 137 im (RR pl it)) : LW p l e s m below meth c sb D ca 137 1829 932 (LVi s.heap.size sb i) [] 137 im (RR pl it) := by
  obtain ⟨v, im1, pl', it', im2, hc, hm, hr⟩ := k_tear hR 
  refine l_aload h dL_law_932 rfl ?_
  refine l_callV (sk := []) (As := []) (o := 0) h cv_L_131 dL_law_933 hc ⟨by decide, by decide⟩ rfl rfl rfl (by decide) cl_8 (Nat.le_of_ble_eq_true rfl) ⟨by decide, by decide⟩ ?_
  refine l_aload h dL_law_936 rfl ?_
  refine l_callV (sk := [.int v]) (As := []) (o := 120) h cv_L_134 dL_law_937 hm ⟨by decide, by decide⟩ rfl rfl rfl (by decide) cl_9 (Nat.le_of_ble_eq_true rfl) ⟨by decide, by decide⟩ ?_
  exact l_icmpeq (tgt := 1027) h dL_law_940 (by decide) (K im2 pl' it' hr)
theorem la_judge (h : LC p s m meth c sb L xs D ca) (hL : L ≤ 256) (hi : i + 4 ≤ L) (hR : Rel im im pl it) (K : ∀ im pl it, Rel im im pl it → LW p l e s m below meth c sb D ca 137 1829 1027 (LVi s.heap.size sb i) [] 137 im (RR pl it)) : LW p l e s m below meth c sb D ca 137 1829 945 (LVi s.heap.size sb i) [] 137 im (RR pl it) := by
  obtain ⟨v, im1, pl', it', im2, hc, hm, hr⟩ := k_judge hR 
  refine l_aload h dL_law_945 rfl ?_
  refine l_callV (sk := []) (As := []) (o := 0) h cv_L_135 dL_law_946 hc ⟨by decide, by decide⟩ rfl rfl rfl (by decide) cl_8 (Nat.le_of_ble_eq_true rfl) ⟨by decide, by decide⟩ ?_
  refine l_aload h dL_law_949 rfl ?_
  refine l_callV (sk := [.int v]) (As := []) (o := 120) h cv_L_138 dL_law_950 hm ⟨by decide, by decide⟩ rfl rfl rfl (by decide) cl_9 (Nat.le_of_ble_eq_true rfl) ⟨by decide, by decide⟩ ?_
  exact l_icmpeq (tgt := 1027) h dL_law_953 (by decide) (K im2 pl' it' hr)
theorem la_seed (h : LC p s m meth c sb L xs D ca) (hL : L ≤ 256) (hi : i + 4 ≤ L) (hR : Rel im im pl it) (K : ∀ im pl it, Rel im im pl it → LW p l e s m below meth c sb D ca 137 1829 1027 (LVi s.heap.size sb i) [] 137 im (RR pl it)) : LW p l e s m below meth c sb D ca 137 1829 958 (LVi s.heap.size sb i) [] 137 im (RR pl it) := by
  obtain ⟨v, im1, pl', it', im2, hc, hm, hr⟩ := k_seed hR (xs (i + 1))
  refine l_aload h dL_law_958 rfl ?_
  refine l_arg (k := 1) h hL (by omega) dL_law_959 dL_law_960 dL_law_961 dL_law_962 dL_law_963 (by decide) ?_
  refine l_callV (sk := []) (As := [.int (xs (i + 1))]) (o := 0) h cv_L_139 dL_law_964 hc ⟨by decide, by decide⟩ rfl rfl rfl (by decide) cl_8 (Nat.le_of_ble_eq_true rfl) ⟨by decide, by decide⟩ ?_
  refine l_aload h dL_law_967 rfl ?_
  refine l_arg (k := 1) h hL (by omega) dL_law_968 dL_law_969 dL_law_970 dL_law_971 dL_law_972 (by decide) ?_
  refine l_callV (sk := [.int v]) (As := [.int (xs (i + 1))]) (o := 120) h cv_L_142 dL_law_973 hm ⟨by decide, by decide⟩ rfl rfl rfl (by decide) cl_9 (Nat.le_of_ble_eq_true rfl) ⟨by decide, by decide⟩ ?_
  exact l_icmpeq (tgt := 1027) h dL_law_976 (by decide) (K im2 pl' it' hr)
theorem la_keep (h : LC p s m meth c sb L xs D ca) (hL : L ≤ 256) (hi : i + 4 ≤ L) (hR : Rel im im pl it) (K : ∀ im pl it, Rel im im pl it → LW p l e s m below meth c sb D ca 137 1829 1027 (LVi s.heap.size sb i) [] 137 im (RR pl it)) : LW p l e s m below meth c sb D ca 137 1829 981 (LVi s.heap.size sb i) [] 137 im (RR pl it) := by
  obtain ⟨v, im1, pl', it', im2, hc, hm, hr⟩ := k_keep hR (xs (i + 1))
  refine l_aload h dL_law_981 rfl ?_
  refine l_arg (k := 1) h hL (by omega) dL_law_982 dL_law_983 dL_law_984 dL_law_985 dL_law_986 (by decide) ?_
  refine l_callV (sk := []) (As := [.int (xs (i + 1))]) (o := 0) h cv_L_143 dL_law_987 hc ⟨by decide, by decide⟩ rfl rfl rfl (by decide) cl_8 (Nat.le_of_ble_eq_true rfl) ⟨by decide, by decide⟩ ?_
  refine l_aload h dL_law_990 rfl ?_
  refine l_arg (k := 1) h hL (by omega) dL_law_991 dL_law_992 dL_law_993 dL_law_994 dL_law_995 (by decide) ?_
  refine l_callV (sk := [.int v]) (As := [.int (xs (i + 1))]) (o := 120) h cv_L_146 dL_law_996 hm ⟨by decide, by decide⟩ rfl rfl rfl (by decide) cl_9 (Nat.le_of_ble_eq_true rfl) ⟨by decide, by decide⟩ ?_
  exact l_icmpeq (tgt := 1027) h dL_law_999 (by decide) (K im2 pl' it' hr)
theorem la_goBack (h : LC p s m meth c sb L xs D ca) (hL : L ≤ 256) (hi : i + 4 ≤ L) (hR : Rel im im pl it) (K : ∀ im pl it, Rel im im pl it → LW p l e s m below meth c sb D ca 137 1829 1027 (LVi s.heap.size sb i) [] 137 im (RR pl it)) : LW p l e s m below meth c sb D ca 137 1829 1004 (LVi s.heap.size sb i) [] 137 im (RR pl it) := by
  obtain ⟨v, im1, pl', it', im2, hc, hm, hr⟩ := k_goBack hR (xs (i + 1))
  refine l_aload h dL_law_1004 rfl ?_
  refine l_arg (k := 1) h hL (by omega) dL_law_1005 dL_law_1006 dL_law_1007 dL_law_1008 dL_law_1009 (by decide) ?_
  refine l_callV (sk := []) (As := [.int (xs (i + 1))]) (o := 0) h cv_L_147 dL_law_1010 hc ⟨by decide, by decide⟩ rfl rfl rfl (by decide) cl_8 (Nat.le_of_ble_eq_true rfl) ⟨by decide, by decide⟩ ?_
  refine l_aload h dL_law_1013 rfl ?_
  refine l_arg (k := 1) h hL (by omega) dL_law_1014 dL_law_1015 dL_law_1016 dL_law_1017 dL_law_1018 (by decide) ?_
  refine l_callV (sk := [.int v]) (As := [.int (xs (i + 1))]) (o := 120) h cv_L_150 dL_law_1019 hm ⟨by decide, by decide⟩ rfl rfl rfl (by decide) cl_9 (Nat.le_of_ble_eq_true rfl) ⟨by decide, by decide⟩ ?_
  exact l_icmpeq (tgt := 1027) h dL_law_1022 (by decide) (K im2 pl' it' hr)
end CASES
