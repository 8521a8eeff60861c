/-! the law's twenty-five rows -/
section LC
variable {Γ : en} {l : Launch} {St : State → Prop} {p : Program} {e : Env} {R : Room} {s : State} {m : MethodId} {args : Array Value} {below : List Frame} {meth : Method} {c : Code} {Q : State → Prop} {k sl : Nat} {h : hp} {L : Nat} {xs : Nat → Int32}
theorem LI.o0 (hI : LI h) : ∃ fs, h 0 = .inr (5, fs) := by
  obtain ⟨K, H, d, T, e, s, r, fl, hLK, hA, hB, hO⟩ := hI
  exact ⟨_, hA.2.2.1⟩
theorem lc_append (hE : envOK Γ St) {adV : Nat → Nat} (hX : envX Γ St adV) (hl9 : l.stackTraces = false) (hLn : envL St) (hC : CF Γ St M_law R p s m args c) (hR : k + 1 ≤ R.cells ∧ sl + 6 ≤ R.slots) (hs : scr Γ s L xs) (hL9 : L ≤ 3072) {t : Nat} (ht : 6 * t + 6 ≤ L) (hI : LI h) (kk : ∀ u, LI u → (Fs Γ 132 p l e R s m args below meth c M_law.2.2.1 Q (k + 1) (sl + 6) 1670 (L0 t) [] u)) : Fs Γ 132 p l e R s m args below meth c M_law.2.2.1 Q k sl 156 (L0 t) [] h := by
  obtain ⟨fs0, h0⟩ := hI.o0
  obtain ⟨Q5, c5, p5⟩ := op_append (w0 := xs (6 * t + 1)) (w1 := xs (6 * t + 2)) (w2 := xs (6 * t + 3)) (w3 := xs (6 * t + 4)) (w4 := xs (6 * t + 5)) hI
  refine fs_widen ?_
  refine fs_aload_n hC dL_law_156 rfl ?_
  refine fs_arg 1 hC hs hL9 ht dL_law_157 dL_law_158 dL_law_160 dL_law_161 dL_law_162 (by decide) rfl rfl ?_
  refine fs_arg 2 hC hs hL9 ht dL_law_163 dL_law_164 dL_law_166 dL_law_167 dL_law_168 (by decide) rfl rfl ?_
  refine fs_arg 3 hC hs hL9 ht dL_law_169 dL_law_170 dL_law_172 dL_law_173 dL_law_174 (by decide) rfl rfl ?_
  refine fs_arg 4 hC hs hL9 ht dL_law_175 dL_law_176 dL_law_178 dL_law_179 dL_law_180 (by decide) rfl rfl ?_
  refine fs_arg 5 hC hs hL9 ht dL_law_181 dL_law_182 dL_law_184 dL_law_185 dL_law_186 (by decide) rfl rfl ?_
  refine fs_cvi hE hX hl9 hC hR (As := [.int (xs (6 * t + 1)), .int (xs (6 * t + 2)), .int (xs (6 * t + 3)), .int (xs (6 * t + 4)), .int (xs (6 * t + 5))]) dL_law_187 lnM_X5_append rfl rfl (Nat.le_of_ble_eq_true rfl) (by omega) h0 rfl (Or.inl rfl) c5 (fun r h1 hq => ?_)
  obtain ⟨b, fs6, Q6, e1, h112, c6, p6⟩ := p5 _ _ hq
  cases e1
  refine fs_aload_n hC dL_law_190 rfl ?_
  refine fs_arg 1 hC hs hL9 ht dL_law_191 dL_law_192 dL_law_194 dL_law_195 dL_law_196 (by decide) rfl rfl ?_
  refine fs_arg 2 hC hs hL9 ht dL_law_197 dL_law_198 dL_law_200 dL_law_201 dL_law_202 (by decide) rfl rfl ?_
  refine fs_arg 3 hC hs hL9 ht dL_law_203 dL_law_204 dL_law_206 dL_law_207 dL_law_208 (by decide) rfl rfl ?_
  refine fs_arg 4 hC hs hL9 ht dL_law_209 dL_law_210 dL_law_212 dL_law_213 dL_law_214 (by decide) rfl rfl ?_
  refine fs_arg 5 hC hs hL9 ht dL_law_215 dL_law_216 dL_law_218 dL_law_219 dL_law_220 (by decide) rfl rfl ?_
  refine fs_cvi hE hX hl9 hC hR (As := [.int (xs (6 * t + 1)), .int (xs (6 * t + 2)), .int (xs (6 * t + 3)), .int (xs (6 * t + 4)), .int (xs (6 * t + 5))]) dL_law_221 lnM_X6_append rfl rfl (Nat.le_of_ble_eq_true rfl) (by omega) h112 rfl (Or.inl rfl) c6 (fun r2 u hq2 => ?_)
  obtain ⟨e2, hLI⟩ := p6 _ _ hq2
  cases e2
  refine fs_icmp_eqT hC (tgt := 1670) dL_law_224 (by decide) rfl ?_
  exact kk _ hLI
theorem lc_load (hE : envOK Γ St) {adV : Nat → Nat} (hX : envX Γ St adV) (hl9 : l.stackTraces = false) (hLn : envL St) (hC : CF Γ St M_law R p s m args c) (hR : k + 1 ≤ R.cells ∧ sl + 6 ≤ R.slots) (hs : scr Γ s L xs) (hL9 : L ≤ 3072) {t : Nat} (ht : 6 * t + 6 ≤ L) (hI : LI h) (kk : ∀ u, LI u → (Fs Γ 132 p l e R s m args below meth c M_law.2.2.1 Q (k + 1) (sl + 6) 1670 (L0 t) [] u)) : Fs Γ 132 p l e R s m args below meth c M_law.2.2.1 Q k sl 229 (L0 t) [] h := by
  obtain ⟨a1, e1, g1⟩ := I_any (xs (6 * t + 1))
  have hop : OpW Γ l St M_L_load H_load M_X6_load [.int (xs (6 * t + 1))] h := by
    rw [e1]
    exact op_load hE hX hl9 hLn hI g1
  obtain ⟨Qw, hW9, p9⟩ := hop
  refine fs_aload_n hC dL_law_229 rfl ?_
  refine fs_arg 1 hC hs hL9 ht dL_law_230 dL_law_231 dL_law_233 dL_law_234 dL_law_235 (by decide) rfl rfl ?_
  refine fs_aload_n hC dL_law_236 rfl ?_
  refine fs_csW hE hC hR (As := [.ref 0, .int (xs (6 * t + 1)), .ref 131]) (S := []) dL_law_237 lnW_load rfl (Nat.le_of_ble_eq_true rfl) hW9 (fun r h1 hq => ?_)
  obtain ⟨z, fs6, Q2, rfl, hz, h112, c6, p6⟩ := p9 r h1 hq
  refine fs_istore hC dL_law_240 (by decide) rfl ?_
  refine fs_aload_n hC dL_law_242 rfl ?_
  refine fs_arg 1 hC hs hL9 ht dL_law_243 dL_law_244 dL_law_246 dL_law_247 dL_law_248 (by decide) rfl rfl ?_
  refine fs_cvi hE hX hl9 hC hR (As := [.int (xs (6 * t + 1))]) dL_law_249 lnM_X6_load rfl rfl (Nat.le_of_ble_eq_true rfl) (by omega) h112 rfl (Or.inl rfl) c6 (fun r2 u hq2 => ?_)
  obtain ⟨b, eb, hPL⟩ := p6 _ _ hq2
  cases eb
  obtain ⟨K, H, d, T, e0, s0, r0, fl, f, hLK, hLA, hLB, h131, hz0, hf⟩ := id hPL
  refine fs_istore hC dL_law_252 (by decide) rfl ?_
  refine fs_aload_n hC dL_law_254 rfl ?_
  refine fs_cvi hE hX hl9 hC hR (As := []) dL_law_255 lnM_X6_thrown rfl rfl (Nat.le_of_ble_eq_true rfl) (by omega) hLB.1.1 rfl (Or.inl rfl) (s6_thrown (by omega) hLB.1) (fun r3 u3 hq3 => ?_)
  obtain ⟨e3, rfl⟩ := hq3
  cases e3
  refine fs_iload hC dL_law_258 rfl ?_
  refine fs_icmp_eqT hC (tgt := 265) dL_law_260 (by decide) (by rw [hz0]) ?_
  refine fs_iload hC dL_law_265 rfl ?_
  refine fs_if_ne hC (tgt := 282) dL_law_267 (by decide) (by omega) (fun q => ?_) (fun q => ?_)
  · refine fs_goto hC (tgt := 1670) dL_law_282 (by decide) ?_
    exact fs_pick [2, 3, 4, 5, 6] rfl (kk _ hPL.li)
  · refine fs_aload_n hC dL_law_270 rfl ?_
    refine fs_iconst hC dL_law_271 ?_
    refine fs_lald hC dL_law_272 (by omega) h131 ?_
    refine fs_iload hC dL_law_273 rfl ?_
    refine fs_i2l hC dL_law_275 ?_
    refine fs_lcmpT hC dL_law_276 (hf q) ?_
    refine fs_if_eq hC (tgt := 282) dL_law_277 (by decide) (by omega) (fun q => ?_) (fun q => absurd rfl q)
    refine fs_goto hC (tgt := 1670) dL_law_282 (by decide) ?_
    exact fs_pick [2, 3, 4, 5, 6] rfl (kk _ hPL.li)
theorem lc_errorOffset (hE : envOK Γ St) {adV : Nat → Nat} (hX : envX Γ St adV) (hl9 : l.stackTraces = false) (hLn : envL St) (hC : CF Γ St M_law R p s m args c) (hR : k + 1 ≤ R.cells ∧ sl + 6 ≤ R.slots) (hs : scr Γ s L xs) (hL9 : L ≤ 3072) {t : Nat} (ht : 6 * t + 6 ≤ L) (hI : LI h) (kk : ∀ u, LI u → (Fs Γ 132 p l e R s m args below meth c M_law.2.2.1 Q (k + 1) (sl + 6) 1670 (L0 t) [] u)) : Fs Γ 132 p l e R s m args below meth c M_law.2.2.1 Q k sl 285 (L0 t) [] h := by
  obtain ⟨fs0, h0⟩ := hI.o0
  obtain ⟨Q5, c5, p5⟩ := op_errorOffset hI
  refine fs_widen ?_
  refine fs_aload_n hC dL_law_285 rfl ?_
  refine fs_cvi hE hX hl9 hC hR (As := []) dL_law_286 lnM_X5_errorOffset rfl rfl (Nat.le_of_ble_eq_true rfl) (by omega) h0 rfl (Or.inl rfl) c5 (fun r h1 hq => ?_)
  obtain ⟨b, fs6, Q6, e1, h112, c6, p6⟩ := p5 _ _ hq
  cases e1
  refine fs_aload_n hC dL_law_289 rfl ?_
  refine fs_cvi hE hX hl9 hC hR (As := []) dL_law_290 lnM_X6_errorOffset rfl rfl (Nat.le_of_ble_eq_true rfl) (by omega) h112 rfl (Or.inl rfl) c6 (fun r2 u hq2 => ?_)
  obtain ⟨e2, hLI⟩ := p6 _ _ hq2
  cases e2
  refine fs_icmp_eqT hC (tgt := 1670) dL_law_293 (by decide) rfl ?_
  exact kk _ hLI
theorem lc_state (hE : envOK Γ St) {adV : Nat → Nat} (hX : envX Γ St adV) (hl9 : l.stackTraces = false) (hLn : envL St) (hC : CF Γ St M_law R p s m args c) (hR : k + 1 ≤ R.cells ∧ sl + 6 ≤ R.slots) (hs : scr Γ s L xs) (hL9 : L ≤ 3072) {t : Nat} (ht : 6 * t + 6 ≤ L) (hI : LI h) (kk : ∀ u, LI u → (Fs Γ 132 p l e R s m args below meth c M_law.2.2.1 Q (k + 1) (sl + 6) 1670 (L0 t) [] u)) : Fs Γ 132 p l e R s m args below meth c M_law.2.2.1 Q k sl 298 (L0 t) [] h := by
  obtain ⟨a1, e1, g1⟩ := I_any (xs (6 * t + 1))
  have hop : OpW Γ l St M_L_state H_state M_X6_state [.int (xs (6 * t + 1))] h := by
    rw [e1]
    exact op_state hE hX hl9 hLn hI g1
  obtain ⟨Qw, hW9, p9⟩ := hop
  refine fs_aload_n hC dL_law_298 rfl ?_
  refine fs_arg 1 hC hs hL9 ht dL_law_299 dL_law_300 dL_law_302 dL_law_303 dL_law_304 (by decide) rfl rfl ?_
  refine fs_aload_n hC dL_law_305 rfl ?_
  refine fs_csW hE hC hR (As := [.ref 0, .int (xs (6 * t + 1)), .ref 131]) (S := []) dL_law_306 lnW_state rfl (Nat.le_of_ble_eq_true rfl) hW9 (fun r h1 hq => ?_)
  obtain ⟨z, fs6, Q2, rfl, hz, h112, c6, p6⟩ := p9 r h1 hq
  refine fs_istore hC dL_law_309 (by decide) rfl ?_
  refine fs_aload_n hC dL_law_311 rfl ?_
  refine fs_arg 1 hC hs hL9 ht dL_law_312 dL_law_313 dL_law_315 dL_law_316 dL_law_317 (by decide) rfl rfl ?_
  refine fs_cvi hE hX hl9 hC hR (As := [.int (xs (6 * t + 1))]) dL_law_318 lnM_X6_state rfl rfl (Nat.le_of_ble_eq_true rfl) (by omega) h112 rfl (Or.inl rfl) c6 (fun r2 u hq2 => ?_)
  obtain ⟨b, eb, hPL⟩ := p6 _ _ hq2
  cases eb
  obtain ⟨K, H, d, T, e0, s0, r0, fl, f, hLK, hLA, hLB, h131, hz0, hf⟩ := id hPL
  refine fs_istore hC dL_law_321 (by decide) rfl ?_
  refine fs_aload_n hC dL_law_323 rfl ?_
  refine fs_cvi hE hX hl9 hC hR (As := []) dL_law_324 lnM_X6_thrown rfl rfl (Nat.le_of_ble_eq_true rfl) (by omega) hLB.1.1 rfl (Or.inl rfl) (s6_thrown (by omega) hLB.1) (fun r3 u3 hq3 => ?_)
  obtain ⟨e3, rfl⟩ := hq3
  cases e3
  refine fs_iload hC dL_law_327 rfl ?_
  refine fs_icmp_eqT hC (tgt := 334) dL_law_329 (by decide) (by rw [hz0]) ?_
  refine fs_iload hC dL_law_334 rfl ?_
  refine fs_if_ne hC (tgt := 351) dL_law_336 (by decide) (by omega) (fun q => ?_) (fun q => ?_)
  · refine fs_goto hC (tgt := 1670) dL_law_351 (by decide) ?_
    exact fs_pick [2, 3, 4, 5, 6] rfl (kk _ hPL.li)
  · refine fs_aload_n hC dL_law_339 rfl ?_
    refine fs_iconst hC dL_law_340 ?_
    refine fs_lald hC dL_law_341 (by omega) h131 ?_
    refine fs_iload hC dL_law_342 rfl ?_
    refine fs_i2l hC dL_law_344 ?_
    refine fs_lcmpT hC dL_law_345 (hf q) ?_
    refine fs_if_eq hC (tgt := 351) dL_law_346 (by decide) (by omega) (fun q => ?_) (fun q => absurd rfl q)
    refine fs_goto hC (tgt := 1670) dL_law_351 (by decide) ?_
    exact fs_pick [2, 3, 4, 5, 6] rfl (kk _ hPL.li)
theorem lc_cell (hE : envOK Γ St) {adV : Nat → Nat} (hX : envX Γ St adV) (hl9 : l.stackTraces = false) (hLn : envL St) (hC : CF Γ St M_law R p s m args c) (hR : k + 1 ≤ R.cells ∧ sl + 6 ≤ R.slots) (hs : scr Γ s L xs) (hL9 : L ≤ 3072) {t : Nat} (ht : 6 * t + 6 ≤ L) (hI : LI h) (kk : ∀ u, LI u → (Fs Γ 132 p l e R s m args below meth c M_law.2.2.1 Q (k + 1) (sl + 6) 1670 (L0 t) [] u)) : Fs Γ 132 p l e R s m args below meth c M_law.2.2.1 Q k sl 354 (L0 t) [] h := by
  obtain ⟨a1, e1, g1⟩ := I_any (xs (6 * t + 1))
  obtain ⟨a2, e2, g2⟩ := I_any (xs (6 * t + 2))
  obtain ⟨a3, e3, g3⟩ := I_any (xs (6 * t + 3))
  have hop : OpW Γ l St M_L_cell H_cell M_X6_cell [.int (xs (6 * t + 1)), .int (xs (6 * t + 2)), .int (xs (6 * t + 3))] h := by
    rw [e1, e2, e3]
    exact op_cell hE hX hl9 hLn hI g1 g2 g3
  obtain ⟨Qw, hW9, p9⟩ := hop
  refine fs_aload_n hC dL_law_354 rfl ?_
  refine fs_arg 1 hC hs hL9 ht dL_law_355 dL_law_356 dL_law_358 dL_law_359 dL_law_360 (by decide) rfl rfl ?_
  refine fs_arg 2 hC hs hL9 ht dL_law_361 dL_law_362 dL_law_364 dL_law_365 dL_law_366 (by decide) rfl rfl ?_
  refine fs_arg 3 hC hs hL9 ht dL_law_367 dL_law_368 dL_law_370 dL_law_371 dL_law_372 (by decide) rfl rfl ?_
  refine fs_aload_n hC dL_law_373 rfl ?_
  refine fs_csW hE hC hR (As := [.ref 0, .int (xs (6 * t + 1)), .int (xs (6 * t + 2)), .int (xs (6 * t + 3)), .ref 131]) (S := []) dL_law_374 lnW_cell rfl (Nat.le_of_ble_eq_true rfl) hW9 (fun r h1 hq => ?_)
  obtain ⟨z, fs6, Q2, rfl, hz, h112, c6, p6⟩ := p9 r h1 hq
  refine fs_istore hC dL_law_377 (by decide) rfl ?_
  refine fs_aload_n hC dL_law_379 rfl ?_
  refine fs_arg 1 hC hs hL9 ht dL_law_380 dL_law_381 dL_law_383 dL_law_384 dL_law_385 (by decide) rfl rfl ?_
  refine fs_arg 2 hC hs hL9 ht dL_law_386 dL_law_387 dL_law_389 dL_law_390 dL_law_391 (by decide) rfl rfl ?_
  refine fs_arg 3 hC hs hL9 ht dL_law_392 dL_law_393 dL_law_395 dL_law_396 dL_law_397 (by decide) rfl rfl ?_
  refine fs_cvi hE hX hl9 hC hR (As := [.int (xs (6 * t + 1)), .int (xs (6 * t + 2)), .int (xs (6 * t + 3))]) dL_law_398 lnM_X6_cell rfl rfl (Nat.le_of_ble_eq_true rfl) (by omega) h112 rfl (Or.inl rfl) c6 (fun r2 u hq2 => ?_)
  obtain ⟨b, eb, hPL⟩ := p6 _ _ hq2
  cases eb
  obtain ⟨K, H, d, T, e0, s0, r0, fl, f, hLK, hLA, hLB, h131, hz0, hf⟩ := id hPL
  refine fs_istore hC dL_law_401 (by decide) rfl ?_
  refine fs_aload_n hC dL_law_403 rfl ?_
  refine fs_cvi hE hX hl9 hC hR (As := []) dL_law_404 lnM_X6_thrown rfl rfl (Nat.le_of_ble_eq_true rfl) (by omega) hLB.1.1 rfl (Or.inl rfl) (s6_thrown (by omega) hLB.1) (fun r3 u3 hq3 => ?_)
  obtain ⟨e3, rfl⟩ := hq3
  cases e3
  refine fs_iload hC dL_law_407 rfl ?_
  refine fs_icmp_eqT hC (tgt := 414) dL_law_409 (by decide) (by rw [hz0]) ?_
  refine fs_iload hC dL_law_414 rfl ?_
  refine fs_if_ne hC (tgt := 431) dL_law_416 (by decide) (by omega) (fun q => ?_) (fun q => ?_)
  · refine fs_goto hC (tgt := 1670) dL_law_431 (by decide) ?_
    exact fs_pick [2, 3, 4, 5, 6] rfl (kk _ hPL.li)
  · refine fs_aload_n hC dL_law_419 rfl ?_
    refine fs_iconst hC dL_law_420 ?_
    refine fs_lald hC dL_law_421 (by omega) h131 ?_
    refine fs_iload hC dL_law_422 rfl ?_
    refine fs_i2l hC dL_law_424 ?_
    refine fs_lcmpT hC dL_law_425 (hf q) ?_
    refine fs_if_eq hC (tgt := 431) dL_law_426 (by decide) (by omega) (fun q => ?_) (fun q => absurd rfl q)
    refine fs_goto hC (tgt := 1670) dL_law_431 (by decide) ?_
    exact fs_pick [2, 3, 4, 5, 6] rfl (kk _ hPL.li)
theorem lc_mix (hE : envOK Γ St) {adV : Nat → Nat} (hX : envX Γ St adV) (hl9 : l.stackTraces = false) (hLn : envL St) (hC : CF Γ St M_law R p s m args c) (hR : k + 1 ≤ R.cells ∧ sl + 6 ≤ R.slots) (hs : scr Γ s L xs) (hL9 : L ≤ 3072) {t : Nat} (ht : 6 * t + 6 ≤ L) (hI : LI h) (kk : ∀ u, LI u → (Fs Γ 132 p l e R s m args below meth c M_law.2.2.1 Q (k + 1) (sl + 6) 1670 (L0 t) [] u)) : Fs Γ 132 p l e R s m args below meth c M_law.2.2.1 Q k sl 434 (L0 t) [] h := by
  obtain ⟨a1, e1, g1⟩ := I_any (xs (6 * t + 1))
  obtain ⟨a2, e2, g2⟩ := I_any (xs (6 * t + 2))
  have hop : OpW Γ l St M_L_mix H_mix M_X6_mix [.int (xs (6 * t + 1)), .int (xs (6 * t + 2))] h := by
    rw [e1, e2]
    exact op_mix hE hX hl9 hLn hI g1 g2
  obtain ⟨Qw, hW9, p9⟩ := hop
  refine fs_aload_n hC dL_law_434 rfl ?_
  refine fs_arg 1 hC hs hL9 ht dL_law_435 dL_law_436 dL_law_438 dL_law_439 dL_law_440 (by decide) rfl rfl ?_
  refine fs_arg 2 hC hs hL9 ht dL_law_441 dL_law_442 dL_law_444 dL_law_445 dL_law_446 (by decide) rfl rfl ?_
  refine fs_aload_n hC dL_law_447 rfl ?_
  refine fs_csW hE hC hR (As := [.ref 0, .int (xs (6 * t + 1)), .int (xs (6 * t + 2)), .ref 131]) (S := []) dL_law_448 lnW_mix rfl (Nat.le_of_ble_eq_true rfl) hW9 (fun r h1 hq => ?_)
  obtain ⟨z, fs6, Q2, rfl, hz, h112, c6, p6⟩ := p9 r h1 hq
  refine fs_istore hC dL_law_451 (by decide) rfl ?_
  refine fs_aload_n hC dL_law_453 rfl ?_
  refine fs_arg 1 hC hs hL9 ht dL_law_454 dL_law_455 dL_law_457 dL_law_458 dL_law_459 (by decide) rfl rfl ?_
  refine fs_arg 2 hC hs hL9 ht dL_law_460 dL_law_461 dL_law_463 dL_law_464 dL_law_465 (by decide) rfl rfl ?_
  refine fs_cvi hE hX hl9 hC hR (As := [.int (xs (6 * t + 1)), .int (xs (6 * t + 2))]) dL_law_466 lnM_X6_mix rfl rfl (Nat.le_of_ble_eq_true rfl) (by omega) h112 rfl (Or.inl rfl) c6 (fun r2 u hq2 => ?_)
  obtain ⟨b, eb, hPL⟩ := p6 _ _ hq2
  cases eb
  obtain ⟨K, H, d, T, e0, s0, r0, fl, f, hLK, hLA, hLB, h131, hz0, hf⟩ := id hPL
  refine fs_istore hC dL_law_469 (by decide) rfl ?_
  refine fs_aload_n hC dL_law_471 rfl ?_
  refine fs_cvi hE hX hl9 hC hR (As := []) dL_law_472 lnM_X6_thrown rfl rfl (Nat.le_of_ble_eq_true rfl) (by omega) hLB.1.1 rfl (Or.inl rfl) (s6_thrown (by omega) hLB.1) (fun r3 u3 hq3 => ?_)
  obtain ⟨e3, rfl⟩ := hq3
  cases e3
  refine fs_iload hC dL_law_475 rfl ?_
  refine fs_icmp_eqT hC (tgt := 482) dL_law_477 (by decide) (by rw [hz0]) ?_
  refine fs_iload hC dL_law_482 rfl ?_
  refine fs_if_ne hC (tgt := 499) dL_law_484 (by decide) (by omega) (fun q => ?_) (fun q => ?_)
  · refine fs_goto hC (tgt := 1670) dL_law_499 (by decide) ?_
    exact fs_pick [2, 3, 4, 5, 6] rfl (kk _ hPL.li)
  · refine fs_aload_n hC dL_law_487 rfl ?_
    refine fs_iconst hC dL_law_488 ?_
    refine fs_lald hC dL_law_489 (by omega) h131 ?_
    refine fs_iload hC dL_law_490 rfl ?_
    refine fs_i2l hC dL_law_492 ?_
    refine fs_lcmpT hC dL_law_493 (hf q) ?_
    refine fs_if_eq hC (tgt := 499) dL_law_494 (by decide) (by omega) (fun q => ?_) (fun q => absurd rfl q)
    refine fs_goto hC (tgt := 1670) dL_law_499 (by decide) ?_
    exact fs_pick [2, 3, 4, 5, 6] rfl (kk _ hPL.li)
theorem lc_count (hE : envOK Γ St) {adV : Nat → Nat} (hX : envX Γ St adV) (hl9 : l.stackTraces = false) (hLn : envL St) (hC : CF Γ St M_law R p s m args c) (hR : k + 1 ≤ R.cells ∧ sl + 6 ≤ R.slots) (hs : scr Γ s L xs) (hL9 : L ≤ 3072) {t : Nat} (ht : 6 * t + 6 ≤ L) (hI : LI h) (kk : ∀ u, LI u → (Fs Γ 132 p l e R s m args below meth c M_law.2.2.1 Q (k + 1) (sl + 6) 1670 (L0 t) [] u)) : Fs Γ 132 p l e R s m args below meth c M_law.2.2.1 Q k sl 502 (L0 t) [] h := by
  obtain ⟨a1, e1, g1⟩ := I_any (xs (6 * t + 1))
  have hop : OpW Γ l St M_L_count H_count M_X6_count [.int (xs (6 * t + 1))] h := by
    rw [e1]
    exact op_count hE hX hl9 hLn hI g1
  obtain ⟨Qw, hW9, p9⟩ := hop
  refine fs_aload_n hC dL_law_502 rfl ?_
  refine fs_arg 1 hC hs hL9 ht dL_law_503 dL_law_504 dL_law_506 dL_law_507 dL_law_508 (by decide) rfl rfl ?_
  refine fs_aload_n hC dL_law_509 rfl ?_
  refine fs_csW hE hC hR (As := [.ref 0, .int (xs (6 * t + 1)), .ref 131]) (S := []) dL_law_510 lnW_count rfl (Nat.le_of_ble_eq_true rfl) hW9 (fun r h1 hq => ?_)
  obtain ⟨z, fs6, Q2, rfl, hz, h112, c6, p6⟩ := p9 r h1 hq
  refine fs_istore hC dL_law_513 (by decide) rfl ?_
  refine fs_aload_n hC dL_law_515 rfl ?_
  refine fs_arg 1 hC hs hL9 ht dL_law_516 dL_law_517 dL_law_519 dL_law_520 dL_law_521 (by decide) rfl rfl ?_
  refine fs_cvi hE hX hl9 hC hR (As := [.int (xs (6 * t + 1))]) dL_law_522 lnM_X6_count rfl rfl (Nat.le_of_ble_eq_true rfl) (by omega) h112 rfl (Or.inl rfl) c6 (fun r2 u hq2 => ?_)
  obtain ⟨b, eb, hPL⟩ := p6 _ _ hq2
  cases eb
  obtain ⟨K, H, d, T, e0, s0, r0, fl, f, hLK, hLA, hLB, h131, hz0, hf⟩ := id hPL
  refine fs_istore hC dL_law_525 (by decide) rfl ?_
  refine fs_aload_n hC dL_law_527 rfl ?_
  refine fs_cvi hE hX hl9 hC hR (As := []) dL_law_528 lnM_X6_thrown rfl rfl (Nat.le_of_ble_eq_true rfl) (by omega) hLB.1.1 rfl (Or.inl rfl) (s6_thrown (by omega) hLB.1) (fun r3 u3 hq3 => ?_)
  obtain ⟨e3, rfl⟩ := hq3
  cases e3
  refine fs_iload hC dL_law_531 rfl ?_
  refine fs_icmp_eqT hC (tgt := 538) dL_law_533 (by decide) (by rw [hz0]) ?_
  refine fs_iload hC dL_law_538 rfl ?_
  refine fs_if_ne hC (tgt := 555) dL_law_540 (by decide) (by omega) (fun q => ?_) (fun q => ?_)
  · refine fs_goto hC (tgt := 1670) dL_law_555 (by decide) ?_
    exact fs_pick [2, 3, 4, 5, 6] rfl (kk _ hPL.li)
  · refine fs_aload_n hC dL_law_543 rfl ?_
    refine fs_iconst hC dL_law_544 ?_
    refine fs_lald hC dL_law_545 (by omega) h131 ?_
    refine fs_iload hC dL_law_546 rfl ?_
    refine fs_i2l hC dL_law_548 ?_
    refine fs_lcmpT hC dL_law_549 (hf q) ?_
    refine fs_if_eq hC (tgt := 555) dL_law_550 (by decide) (by omega) (fun q => ?_) (fun q => absurd rfl q)
    refine fs_goto hC (tgt := 1670) dL_law_555 (by decide) ?_
    exact fs_pick [2, 3, 4, 5, 6] rfl (kk _ hPL.li)
theorem lc_unlike (hE : envOK Γ St) {adV : Nat → Nat} (hX : envX Γ St adV) (hl9 : l.stackTraces = false) (hLn : envL St) (hC : CF Γ St M_law R p s m args c) (hR : k + 1 ≤ R.cells ∧ sl + 6 ≤ R.slots) (hs : scr Γ s L xs) (hL9 : L ≤ 3072) {t : Nat} (ht : 6 * t + 6 ≤ L) (hI : LI h) (kk : ∀ u, LI u → (Fs Γ 132 p l e R s m args below meth c M_law.2.2.1 Q (k + 1) (sl + 6) 1670 (L0 t) [] u)) : Fs Γ 132 p l e R s m args below meth c M_law.2.2.1 Q k sl 558 (L0 t) [] h := by
  obtain ⟨fs0, h0⟩ := hI.o0
  obtain ⟨Q5, c5, p5⟩ := op_unlike hI
  refine fs_widen ?_
  refine fs_aload_n hC dL_law_558 rfl ?_
  refine fs_cvi hE hX hl9 hC hR (As := []) dL_law_559 lnM_X5_unlike rfl rfl (Nat.le_of_ble_eq_true rfl) (by omega) h0 rfl (Or.inl rfl) c5 (fun r h1 hq => ?_)
  obtain ⟨b, fs6, Q6, e1, h112, c6, p6⟩ := p5 _ _ hq
  cases e1
  refine fs_aload_n hC dL_law_562 rfl ?_
  refine fs_cvi hE hX hl9 hC hR (As := []) dL_law_563 lnM_X6_unlike rfl rfl (Nat.le_of_ble_eq_true rfl) (by omega) h112 rfl (Or.inl rfl) c6 (fun r2 u hq2 => ?_)
  obtain ⟨e2, hLI⟩ := p6 _ _ hq2
  cases e2
  refine fs_icmp_eqT hC (tgt := 1670) dL_law_566 (by decide) rfl ?_
  exact kk _ hLI
theorem lc_region (hE : envOK Γ St) {adV : Nat → Nat} (hX : envX Γ St adV) (hl9 : l.stackTraces = false) (hLn : envL St) (hC : CF Γ St M_law R p s m args c) (hR : k + 1 ≤ R.cells ∧ sl + 6 ≤ R.slots) (hs : scr Γ s L xs) (hL9 : L ≤ 3072) {t : Nat} (ht : 6 * t + 6 ≤ L) (hI : LI h) (kk : ∀ u, LI u → (Fs Γ 132 p l e R s m args below meth c M_law.2.2.1 Q (k + 1) (sl + 6) 1670 (L0 t) [] u)) : Fs Γ 132 p l e R s m args below meth c M_law.2.2.1 Q k sl 571 (L0 t) [] h := by
  obtain ⟨a1, e1, g1⟩ := I_any (xs (6 * t + 1))
  obtain ⟨a2, e2, g2⟩ := I_any (xs (6 * t + 2))
  have hop : OpW Γ l St M_L_region H_region M_X6_region [.int (xs (6 * t + 1)), .int (xs (6 * t + 2))] h := by
    rw [e1, e2]
    exact op_region hE hX hl9 hLn hI g1 g2
  obtain ⟨Qw, hW9, p9⟩ := hop
  refine fs_aload_n hC dL_law_571 rfl ?_
  refine fs_arg 1 hC hs hL9 ht dL_law_572 dL_law_573 dL_law_575 dL_law_576 dL_law_577 (by decide) rfl rfl ?_
  refine fs_arg 2 hC hs hL9 ht dL_law_578 dL_law_579 dL_law_581 dL_law_582 dL_law_583 (by decide) rfl rfl ?_
  refine fs_aload_n hC dL_law_584 rfl ?_
  refine fs_csW hE hC hR (As := [.ref 0, .int (xs (6 * t + 1)), .int (xs (6 * t + 2)), .ref 131]) (S := []) dL_law_585 lnW_region rfl (Nat.le_of_ble_eq_true rfl) hW9 (fun r h1 hq => ?_)
  obtain ⟨z, fs6, Q2, rfl, hz, h112, c6, p6⟩ := p9 r h1 hq
  refine fs_istore hC dL_law_588 (by decide) rfl ?_
  refine fs_aload_n hC dL_law_590 rfl ?_
  refine fs_arg 1 hC hs hL9 ht dL_law_591 dL_law_592 dL_law_594 dL_law_595 dL_law_596 (by decide) rfl rfl ?_
  refine fs_arg 2 hC hs hL9 ht dL_law_597 dL_law_598 dL_law_600 dL_law_601 dL_law_602 (by decide) rfl rfl ?_
  refine fs_cvi hE hX hl9 hC hR (As := [.int (xs (6 * t + 1)), .int (xs (6 * t + 2))]) dL_law_603 lnM_X6_region rfl rfl (Nat.le_of_ble_eq_true rfl) (by omega) h112 rfl (Or.inl rfl) c6 (fun r2 u hq2 => ?_)
  obtain ⟨b, eb, hPL⟩ := p6 _ _ hq2
  cases eb
  obtain ⟨K, H, d, T, e0, s0, r0, fl, f, hLK, hLA, hLB, h131, hz0, hf⟩ := id hPL
  refine fs_istore hC dL_law_606 (by decide) rfl ?_
  refine fs_aload_n hC dL_law_608 rfl ?_
  refine fs_cvi hE hX hl9 hC hR (As := []) dL_law_609 lnM_X6_thrown rfl rfl (Nat.le_of_ble_eq_true rfl) (by omega) hLB.1.1 rfl (Or.inl rfl) (s6_thrown (by omega) hLB.1) (fun r3 u3 hq3 => ?_)
  obtain ⟨e3, rfl⟩ := hq3
  cases e3
  refine fs_iload hC dL_law_612 rfl ?_
  refine fs_icmp_eqT hC (tgt := 619) dL_law_614 (by decide) (by rw [hz0]) ?_
  refine fs_iload hC dL_law_619 rfl ?_
  refine fs_if_ne hC (tgt := 636) dL_law_621 (by decide) (by omega) (fun q => ?_) (fun q => ?_)
  · refine fs_goto hC (tgt := 1670) dL_law_636 (by decide) ?_
    exact fs_pick [2, 3, 4, 5, 6] rfl (kk _ hPL.li)
  · refine fs_aload_n hC dL_law_624 rfl ?_
    refine fs_iconst hC dL_law_625 ?_
    refine fs_lald hC dL_law_626 (by omega) h131 ?_
    refine fs_iload hC dL_law_627 rfl ?_
    refine fs_i2l hC dL_law_629 ?_
    refine fs_lcmpT hC dL_law_630 (hf q) ?_
    refine fs_if_eq hC (tgt := 636) dL_law_631 (by decide) (by omega) (fun q => ?_) (fun q => absurd rfl q)
    refine fs_goto hC (tgt := 1670) dL_law_636 (by decide) ?_
    exact fs_pick [2, 3, 4, 5, 6] rfl (kk _ hPL.li)
theorem lc_regions (hE : envOK Γ St) {adV : Nat → Nat} (hX : envX Γ St adV) (hl9 : l.stackTraces = false) (hLn : envL St) (hC : CF Γ St M_law R p s m args c) (hR : k + 1 ≤ R.cells ∧ sl + 6 ≤ R.slots) (hs : scr Γ s L xs) (hL9 : L ≤ 3072) {t : Nat} (ht : 6 * t + 6 ≤ L) (hI : LI h) (kk : ∀ u, LI u → (Fs Γ 132 p l e R s m args below meth c M_law.2.2.1 Q (k + 1) (sl + 6) 1670 (L0 t) [] u)) : Fs Γ 132 p l e R s m args below meth c M_law.2.2.1 Q k sl 639 (L0 t) [] h := by
  obtain ⟨a1, e1, g1⟩ := I_any (xs (6 * t + 1))
  have hop : OpW Γ l St M_L_regions H_regions M_X6_regions [.int (xs (6 * t + 1))] h := by
    rw [e1]
    exact op_regions hE hX hl9 hLn hI g1
  obtain ⟨Qw, hW9, p9⟩ := hop
  refine fs_aload_n hC dL_law_639 rfl ?_
  refine fs_arg 1 hC hs hL9 ht dL_law_640 dL_law_641 dL_law_643 dL_law_644 dL_law_645 (by decide) rfl rfl ?_
  refine fs_aload_n hC dL_law_646 rfl ?_
  refine fs_csW hE hC hR (As := [.ref 0, .int (xs (6 * t + 1)), .ref 131]) (S := []) dL_law_647 lnW_regions rfl (Nat.le_of_ble_eq_true rfl) hW9 (fun r h1 hq => ?_)
  obtain ⟨z, fs6, Q2, rfl, hz, h112, c6, p6⟩ := p9 r h1 hq
  refine fs_istore hC dL_law_650 (by decide) rfl ?_
  refine fs_aload_n hC dL_law_652 rfl ?_
  refine fs_arg 1 hC hs hL9 ht dL_law_653 dL_law_654 dL_law_656 dL_law_657 dL_law_658 (by decide) rfl rfl ?_
  refine fs_cvi hE hX hl9 hC hR (As := [.int (xs (6 * t + 1))]) dL_law_659 lnM_X6_regions rfl rfl (Nat.le_of_ble_eq_true rfl) (by omega) h112 rfl (Or.inl rfl) c6 (fun r2 u hq2 => ?_)
  obtain ⟨b, eb, hPL⟩ := p6 _ _ hq2
  cases eb
  obtain ⟨K, H, d, T, e0, s0, r0, fl, f, hLK, hLA, hLB, h131, hz0, hf⟩ := id hPL
  refine fs_istore hC dL_law_662 (by decide) rfl ?_
  refine fs_aload_n hC dL_law_664 rfl ?_
  refine fs_cvi hE hX hl9 hC hR (As := []) dL_law_665 lnM_X6_thrown rfl rfl (Nat.le_of_ble_eq_true rfl) (by omega) hLB.1.1 rfl (Or.inl rfl) (s6_thrown (by omega) hLB.1) (fun r3 u3 hq3 => ?_)
  obtain ⟨e3, rfl⟩ := hq3
  cases e3
  refine fs_iload hC dL_law_668 rfl ?_
  refine fs_icmp_eqT hC (tgt := 675) dL_law_670 (by decide) (by rw [hz0]) ?_
  refine fs_iload hC dL_law_675 rfl ?_
  refine fs_if_ne hC (tgt := 692) dL_law_677 (by decide) (by omega) (fun q => ?_) (fun q => ?_)
  · refine fs_goto hC (tgt := 1670) dL_law_692 (by decide) ?_
    exact fs_pick [2, 3, 4, 5, 6] rfl (kk _ hPL.li)
  · refine fs_aload_n hC dL_law_680 rfl ?_
    refine fs_iconst hC dL_law_681 ?_
    refine fs_lald hC dL_law_682 (by omega) h131 ?_
    refine fs_iload hC dL_law_683 rfl ?_
    refine fs_i2l hC dL_law_685 ?_
    refine fs_lcmpT hC dL_law_686 (hf q) ?_
    refine fs_if_eq hC (tgt := 692) dL_law_687 (by decide) (by omega) (fun q => ?_) (fun q => absurd rfl q)
    refine fs_goto hC (tgt := 1670) dL_law_692 (by decide) ?_
    exact fs_pick [2, 3, 4, 5, 6] rfl (kk _ hPL.li)
theorem lc_bleeds (hE : envOK Γ St) {adV : Nat → Nat} (hX : envX Γ St adV) (hl9 : l.stackTraces = false) (hLn : envL St) (hC : CF Γ St M_law R p s m args c) (hR : k + 1 ≤ R.cells ∧ sl + 6 ≤ R.slots) (hs : scr Γ s L xs) (hL9 : L ≤ 3072) {t : Nat} (ht : 6 * t + 6 ≤ L) (hI : LI h) (kk : ∀ u, LI u → (Fs Γ 132 p l e R s m args below meth c M_law.2.2.1 Q (k + 1) (sl + 6) 1670 (L0 t) [] u)) : Fs Γ 132 p l e R s m args below meth c M_law.2.2.1 Q k sl 695 (L0 t) [] h := by
  obtain ⟨a1, e1, g1⟩ := I_any (xs (6 * t + 1))
  obtain ⟨a2, e2, g2⟩ := I_any (xs (6 * t + 2))
  have hop : OpW Γ l St M_L_bleeds H_bleeds M_X6_bleeds [.int (xs (6 * t + 1)), .int (xs (6 * t + 2))] h := by
    rw [e1, e2]
    exact op_bleeds hE hX hl9 hLn hI g1 g2
  obtain ⟨Qw, hW9, p9⟩ := hop
  refine fs_aload_n hC dL_law_695 rfl ?_
  refine fs_arg 1 hC hs hL9 ht dL_law_696 dL_law_697 dL_law_699 dL_law_700 dL_law_701 (by decide) rfl rfl ?_
  refine fs_arg 2 hC hs hL9 ht dL_law_702 dL_law_703 dL_law_705 dL_law_706 dL_law_707 (by decide) rfl rfl ?_
  refine fs_aload_n hC dL_law_708 rfl ?_
  refine fs_csW hE hC hR (As := [.ref 0, .int (xs (6 * t + 1)), .int (xs (6 * t + 2)), .ref 131]) (S := []) dL_law_709 lnW_bleeds rfl (Nat.le_of_ble_eq_true rfl) hW9 (fun r h1 hq => ?_)
  obtain ⟨z, fs6, Q2, rfl, hz, h112, c6, p6⟩ := p9 r h1 hq
  refine fs_istore hC dL_law_712 (by decide) rfl ?_
  refine fs_aload_n hC dL_law_714 rfl ?_
  refine fs_arg 1 hC hs hL9 ht dL_law_715 dL_law_716 dL_law_718 dL_law_719 dL_law_720 (by decide) rfl rfl ?_
  refine fs_arg 2 hC hs hL9 ht dL_law_721 dL_law_722 dL_law_724 dL_law_725 dL_law_726 (by decide) rfl rfl ?_
  refine fs_cvi hE hX hl9 hC hR (As := [.int (xs (6 * t + 1)), .int (xs (6 * t + 2))]) dL_law_727 lnM_X6_bleeds rfl rfl (Nat.le_of_ble_eq_true rfl) (by omega) h112 rfl (Or.inl rfl) c6 (fun r2 u hq2 => ?_)
  obtain ⟨b, eb, hPL⟩ := p6 _ _ hq2
  cases eb
  obtain ⟨K, H, d, T, e0, s0, r0, fl, f, hLK, hLA, hLB, h131, hz0, hf⟩ := id hPL
  refine fs_istore hC dL_law_730 (by decide) rfl ?_
  refine fs_aload_n hC dL_law_732 rfl ?_
  refine fs_cvi hE hX hl9 hC hR (As := []) dL_law_733 lnM_X6_thrown rfl rfl (Nat.le_of_ble_eq_true rfl) (by omega) hLB.1.1 rfl (Or.inl rfl) (s6_thrown (by omega) hLB.1) (fun r3 u3 hq3 => ?_)
  obtain ⟨e3, rfl⟩ := hq3
  cases e3
  refine fs_iload hC dL_law_736 rfl ?_
  refine fs_icmp_eqT hC (tgt := 743) dL_law_738 (by decide) (by rw [hz0]) ?_
  refine fs_iload hC dL_law_743 rfl ?_
  refine fs_if_ne hC (tgt := 760) dL_law_745 (by decide) (by omega) (fun q => ?_) (fun q => ?_)
  · refine fs_goto hC (tgt := 1670) dL_law_760 (by decide) ?_
    exact fs_pick [2, 3, 4, 5, 6] rfl (kk _ hPL.li)
  · refine fs_aload_n hC dL_law_748 rfl ?_
    refine fs_iconst hC dL_law_749 ?_
    refine fs_lald hC dL_law_750 (by omega) h131 ?_
    refine fs_iload hC dL_law_751 rfl ?_
    refine fs_i2l hC dL_law_753 ?_
    refine fs_lcmpT hC dL_law_754 (hf q) ?_
    refine fs_if_eq hC (tgt := 760) dL_law_755 (by decide) (by omega) (fun q => ?_) (fun q => absurd rfl q)
    refine fs_goto hC (tgt := 1670) dL_law_760 (by decide) ?_
    exact fs_pick [2, 3, 4, 5, 6] rfl (kk _ hPL.li)
theorem lc_driesIn (hE : envOK Γ St) {adV : Nat → Nat} (hX : envX Γ St adV) (hl9 : l.stackTraces = false) (hLn : envL St) (hC : CF Γ St M_law R p s m args c) (hR : k + 1 ≤ R.cells ∧ sl + 6 ≤ R.slots) (hs : scr Γ s L xs) (hL9 : L ≤ 3072) {t : Nat} (ht : 6 * t + 6 ≤ L) (hI : LI h) (kk : ∀ u, LI u → (Fs Γ 132 p l e R s m args below meth c M_law.2.2.1 Q (k + 1) (sl + 6) 1670 (L0 t) [] u)) : Fs Γ 132 p l e R s m args below meth c M_law.2.2.1 Q k sl 763 (L0 t) [] h := by
  obtain ⟨fs0, h0⟩ := hI.o0
  obtain ⟨Q5, c5, p5⟩ := op_driesIn hI
  refine fs_widen ?_
  refine fs_aload_n hC dL_law_763 rfl ?_
  refine fs_cvi hE hX hl9 hC hR (As := []) dL_law_764 lnM_X5_driesIn rfl rfl (Nat.le_of_ble_eq_true rfl) (by omega) h0 rfl (Or.inl rfl) c5 (fun r h1 hq => ?_)
  obtain ⟨b, fs6, Q6, e1, h112, c6, p6⟩ := p5 _ _ hq
  cases e1
  refine fs_aload_n hC dL_law_767 rfl ?_
  refine fs_cvi hE hX hl9 hC hR (As := []) dL_law_768 lnM_X6_driesIn rfl rfl (Nat.le_of_ble_eq_true rfl) (by omega) h112 rfl (Or.inl rfl) c6 (fun r2 u hq2 => ?_)
  obtain ⟨e2, hLI⟩ := p6 _ _ hq2
  cases e2
  refine fs_icmp_eqT hC (tgt := 1670) dL_law_771 (by decide) rfl ?_
  exact kk _ hLI
theorem lc_foretold (hE : envOK Γ St) {adV : Nat → Nat} (hX : envX Γ St adV) (hl9 : l.stackTraces = false) (hLn : envL St) (hC : CF Γ St M_law R p s m args c) (hR : k + 1 ≤ R.cells ∧ sl + 6 ≤ R.slots) (hs : scr Γ s L xs) (hL9 : L ≤ 3072) {t : Nat} (ht : 6 * t + 6 ≤ L) (hI : LI h) (kk : ∀ u, LI u → (Fs Γ 132 p l e R s m args below meth c M_law.2.2.1 Q (k + 1) (sl + 6) 1670 (L0 t) [] u)) : Fs Γ 132 p l e R s m args below meth c M_law.2.2.1 Q k sl 776 (L0 t) [] h := by
  obtain ⟨a1, e1, g1⟩ := I_any (xs (6 * t + 1))
  obtain ⟨a2, e2, g2⟩ := I_any (xs (6 * t + 2))
  have hop : OpW Γ l St M_L_foretold H_foretold M_X6_foretold [.int (xs (6 * t + 1)), .int (xs (6 * t + 2))] h := by
    rw [e1, e2]
    exact op_foretold hE hX hl9 hLn hI g1 g2
  obtain ⟨Qw, hW9, p9⟩ := hop
  refine fs_aload_n hC dL_law_776 rfl ?_
  refine fs_arg 1 hC hs hL9 ht dL_law_777 dL_law_778 dL_law_780 dL_law_781 dL_law_782 (by decide) rfl rfl ?_
  refine fs_arg 2 hC hs hL9 ht dL_law_783 dL_law_784 dL_law_786 dL_law_787 dL_law_788 (by decide) rfl rfl ?_
  refine fs_aload_n hC dL_law_789 rfl ?_
  refine fs_csW hE hC hR (As := [.ref 0, .int (xs (6 * t + 1)), .int (xs (6 * t + 2)), .ref 131]) (S := []) dL_law_790 lnW_foretold rfl (Nat.le_of_ble_eq_true rfl) hW9 (fun r h1 hq => ?_)
  obtain ⟨z, fs6, Q2, rfl, hz, h112, c6, p6⟩ := p9 r h1 hq
  refine fs_istore hC dL_law_793 (by decide) rfl ?_
  refine fs_aload_n hC dL_law_795 rfl ?_
  refine fs_arg 1 hC hs hL9 ht dL_law_796 dL_law_797 dL_law_799 dL_law_800 dL_law_801 (by decide) rfl rfl ?_
  refine fs_arg 2 hC hs hL9 ht dL_law_802 dL_law_803 dL_law_805 dL_law_806 dL_law_807 (by decide) rfl rfl ?_
  refine fs_cvi hE hX hl9 hC hR (As := [.int (xs (6 * t + 1)), .int (xs (6 * t + 2))]) dL_law_808 lnM_X6_foretold rfl rfl (Nat.le_of_ble_eq_true rfl) (by omega) h112 rfl (Or.inl rfl) c6 (fun r2 u hq2 => ?_)
  obtain ⟨b, eb, hPL⟩ := p6 _ _ hq2
  cases eb
  obtain ⟨K, H, d, T, e0, s0, r0, fl, f, hLK, hLA, hLB, h131, hz0, hf⟩ := id hPL
  refine fs_istore hC dL_law_811 (by decide) rfl ?_
  refine fs_aload_n hC dL_law_813 rfl ?_
  refine fs_cvi hE hX hl9 hC hR (As := []) dL_law_814 lnM_X6_thrown rfl rfl (Nat.le_of_ble_eq_true rfl) (by omega) hLB.1.1 rfl (Or.inl rfl) (s6_thrown (by omega) hLB.1) (fun r3 u3 hq3 => ?_)
  obtain ⟨e3, rfl⟩ := hq3
  cases e3
  refine fs_iload hC dL_law_817 rfl ?_
  refine fs_icmp_eqT hC (tgt := 824) dL_law_819 (by decide) (by rw [hz0]) ?_
  refine fs_iload hC dL_law_824 rfl ?_
  refine fs_if_ne hC (tgt := 841) dL_law_826 (by decide) (by omega) (fun q => ?_) (fun q => ?_)
  · refine fs_goto hC (tgt := 1670) dL_law_841 (by decide) ?_
    exact fs_pick [2, 3, 4, 5, 6] rfl (kk _ hPL.li)
  · refine fs_aload_n hC dL_law_829 rfl ?_
    refine fs_iconst hC dL_law_830 ?_
    refine fs_lald hC dL_law_831 (by omega) h131 ?_
    refine fs_iload hC dL_law_832 rfl ?_
    refine fs_i2l hC dL_law_834 ?_
    refine fs_lcmpT hC dL_law_835 (hf q) ?_
    refine fs_if_eq hC (tgt := 841) dL_law_836 (by decide) (by omega) (fun q => ?_) (fun q => absurd rfl q)
    refine fs_goto hC (tgt := 1670) dL_law_841 (by decide) ?_
    exact fs_pick [2, 3, 4, 5, 6] rfl (kk _ hPL.li)
theorem lc_evens (hE : envOK Γ St) {adV : Nat → Nat} (hX : envX Γ St adV) (hl9 : l.stackTraces = false) (hLn : envL St) (hC : CF Γ St M_law R p s m args c) (hR : k + 1 ≤ R.cells ∧ sl + 6 ≤ R.slots) (hs : scr Γ s L xs) (hL9 : L ≤ 3072) {t : Nat} (ht : 6 * t + 6 ≤ L) (hI : LI h) (kk : ∀ u, LI u → (Fs Γ 132 p l e R s m args below meth c M_law.2.2.1 Q (k + 1) (sl + 6) 1670 (L0 t) [] u)) : Fs Γ 132 p l e R s m args below meth c M_law.2.2.1 Q k sl 844 (L0 t) [] h := by
  obtain ⟨a1, e1, g1⟩ := I_any (xs (6 * t + 1))
  have hop : OpW Γ l St M_L_evens H_evens M_X6_evens [.int (xs (6 * t + 1))] h := by
    rw [e1]
    exact op_evens hE hX hl9 hLn hI g1
  obtain ⟨Qw, hW9, p9⟩ := hop
  refine fs_aload_n hC dL_law_844 rfl ?_
  refine fs_arg 1 hC hs hL9 ht dL_law_845 dL_law_846 dL_law_848 dL_law_849 dL_law_850 (by decide) rfl rfl ?_
  refine fs_aload_n hC dL_law_851 rfl ?_
  refine fs_csW hE hC hR (As := [.ref 0, .int (xs (6 * t + 1)), .ref 131]) (S := []) dL_law_852 lnW_evens rfl (Nat.le_of_ble_eq_true rfl) hW9 (fun r h1 hq => ?_)
  obtain ⟨z, fs6, Q2, rfl, hz, h112, c6, p6⟩ := p9 r h1 hq
  refine fs_istore hC dL_law_855 (by decide) rfl ?_
  refine fs_aload_n hC dL_law_857 rfl ?_
  refine fs_arg 1 hC hs hL9 ht dL_law_858 dL_law_859 dL_law_861 dL_law_862 dL_law_863 (by decide) rfl rfl ?_
  refine fs_cvi hE hX hl9 hC hR (As := [.int (xs (6 * t + 1))]) dL_law_864 lnM_X6_evens rfl rfl (Nat.le_of_ble_eq_true rfl) (by omega) h112 rfl (Or.inl rfl) c6 (fun r2 u hq2 => ?_)
  obtain ⟨b, eb, hPL⟩ := p6 _ _ hq2
  cases eb
  obtain ⟨K, H, d, T, e0, s0, r0, fl, f, hLK, hLA, hLB, h131, hz0, hf⟩ := id hPL
  refine fs_istore hC dL_law_867 (by decide) rfl ?_
  refine fs_aload_n hC dL_law_869 rfl ?_
  refine fs_cvi hE hX hl9 hC hR (As := []) dL_law_870 lnM_X6_thrown rfl rfl (Nat.le_of_ble_eq_true rfl) (by omega) hLB.1.1 rfl (Or.inl rfl) (s6_thrown (by omega) hLB.1) (fun r3 u3 hq3 => ?_)
  obtain ⟨e3, rfl⟩ := hq3
  cases e3
  refine fs_iload hC dL_law_873 rfl ?_
  refine fs_icmp_eqT hC (tgt := 880) dL_law_875 (by decide) (by rw [hz0]) ?_
  refine fs_iload hC dL_law_880 rfl ?_
  refine fs_if_ne hC (tgt := 897) dL_law_882 (by decide) (by omega) (fun q => ?_) (fun q => ?_)
  · refine fs_goto hC (tgt := 1670) dL_law_897 (by decide) ?_
    exact fs_pick [2, 3, 4, 5, 6] rfl (kk _ hPL.li)
  · refine fs_aload_n hC dL_law_885 rfl ?_
    refine fs_iconst hC dL_law_886 ?_
    refine fs_lald hC dL_law_887 (by omega) h131 ?_
    refine fs_iload hC dL_law_888 rfl ?_
    refine fs_i2l hC dL_law_890 ?_
    refine fs_lcmpT hC dL_law_891 (hf q) ?_
    refine fs_if_eq hC (tgt := 897) dL_law_892 (by decide) (by omega) (fun q => ?_) (fun q => absurd rfl q)
    refine fs_goto hC (tgt := 1670) dL_law_897 (by decide) ?_
    exact fs_pick [2, 3, 4, 5, 6] rfl (kk _ hPL.li)
theorem lc_pattern (hE : envOK Γ St) {adV : Nat → Nat} (hX : envX Γ St adV) (hl9 : l.stackTraces = false) (hLn : envL St) (hC : CF Γ St M_law R p s m args c) (hR : k + 1 ≤ R.cells ∧ sl + 6 ≤ R.slots) (hs : scr Γ s L xs) (hL9 : L ≤ 3072) {t : Nat} (ht : 6 * t + 6 ≤ L) (hI : LI h) (kk : ∀ u, LI u → (Fs Γ 132 p l e R s m args below meth c M_law.2.2.1 Q (k + 1) (sl + 6) 1670 (L0 t) [] u)) : Fs Γ 132 p l e R s m args below meth c M_law.2.2.1 Q k sl 900 (L0 t) [] h := by
  obtain ⟨a1, e1, g1⟩ := I_any (xs (6 * t + 1))
  obtain ⟨a2, e2, g2⟩ := I_any (xs (6 * t + 2))
  have hop : OpW Γ l St M_L_pattern H_pattern M_X6_pattern [.int (xs (6 * t + 1)), .int (xs (6 * t + 2))] h := by
    rw [e1, e2]
    exact op_pattern hE hX hl9 hLn hI g1 g2
  obtain ⟨Qw, hW9, p9⟩ := hop
  refine fs_aload_n hC dL_law_900 rfl ?_
  refine fs_arg 1 hC hs hL9 ht dL_law_901 dL_law_902 dL_law_904 dL_law_905 dL_law_906 (by decide) rfl rfl ?_
  refine fs_arg 2 hC hs hL9 ht dL_law_907 dL_law_908 dL_law_910 dL_law_911 dL_law_912 (by decide) rfl rfl ?_
  refine fs_aload_n hC dL_law_913 rfl ?_
  refine fs_csW hE hC hR (As := [.ref 0, .int (xs (6 * t + 1)), .int (xs (6 * t + 2)), .ref 131]) (S := []) dL_law_914 lnW_pattern rfl (Nat.le_of_ble_eq_true rfl) hW9 (fun r h1 hq => ?_)
  obtain ⟨z, fs6, Q2, rfl, hz, h112, c6, p6⟩ := p9 r h1 hq
  refine fs_istore hC dL_law_917 (by decide) rfl ?_
  refine fs_aload_n hC dL_law_919 rfl ?_
  refine fs_arg 1 hC hs hL9 ht dL_law_920 dL_law_921 dL_law_923 dL_law_924 dL_law_925 (by decide) rfl rfl ?_
  refine fs_arg 2 hC hs hL9 ht dL_law_926 dL_law_927 dL_law_929 dL_law_930 dL_law_931 (by decide) rfl rfl ?_
  refine fs_cvi hE hX hl9 hC hR (As := [.int (xs (6 * t + 1)), .int (xs (6 * t + 2))]) dL_law_932 lnM_X6_pattern rfl rfl (Nat.le_of_ble_eq_true rfl) (by omega) h112 rfl (Or.inl rfl) c6 (fun r2 u hq2 => ?_)
  obtain ⟨b, eb, hPL⟩ := p6 _ _ hq2
  cases eb
  obtain ⟨K, H, d, T, e0, s0, r0, fl, f, hLK, hLA, hLB, h131, hz0, hf⟩ := id hPL
  refine fs_istore hC dL_law_935 (by decide) rfl ?_
  refine fs_aload_n hC dL_law_937 rfl ?_
  refine fs_cvi hE hX hl9 hC hR (As := []) dL_law_938 lnM_X6_thrown rfl rfl (Nat.le_of_ble_eq_true rfl) (by omega) hLB.1.1 rfl (Or.inl rfl) (s6_thrown (by omega) hLB.1) (fun r3 u3 hq3 => ?_)
  obtain ⟨e3, rfl⟩ := hq3
  cases e3
  refine fs_iload hC dL_law_941 rfl ?_
  refine fs_icmp_eqT hC (tgt := 948) dL_law_943 (by decide) (by rw [hz0]) ?_
  refine fs_iload hC dL_law_948 rfl ?_
  refine fs_if_ne hC (tgt := 965) dL_law_950 (by decide) (by omega) (fun q => ?_) (fun q => ?_)
  · refine fs_goto hC (tgt := 1670) dL_law_965 (by decide) ?_
    exact fs_pick [2, 3, 4, 5, 6] rfl (kk _ hPL.li)
  · refine fs_aload_n hC dL_law_953 rfl ?_
    refine fs_iconst hC dL_law_954 ?_
    refine fs_lald hC dL_law_955 (by omega) h131 ?_
    refine fs_iload hC dL_law_956 rfl ?_
    refine fs_i2l hC dL_law_958 ?_
    refine fs_lcmpT hC dL_law_959 (hf q) ?_
    refine fs_if_eq hC (tgt := 965) dL_law_960 (by decide) (by omega) (fun q => ?_) (fun q => absurd rfl q)
    refine fs_goto hC (tgt := 1670) dL_law_965 (by decide) ?_
    exact fs_pick [2, 3, 4, 5, 6] rfl (kk _ hPL.li)
theorem lc_covered (hE : envOK Γ St) {adV : Nat → Nat} (hX : envX Γ St adV) (hl9 : l.stackTraces = false) (hLn : envL St) (hC : CF Γ St M_law R p s m args c) (hR : k + 1 ≤ R.cells ∧ sl + 6 ≤ R.slots) (hs : scr Γ s L xs) (hL9 : L ≤ 3072) {t : Nat} (ht : 6 * t + 6 ≤ L) (hI : LI h) (kk : ∀ u, LI u → (Fs Γ 132 p l e R s m args below meth c M_law.2.2.1 Q (k + 1) (sl + 6) 1670 (L0 t) [] u)) : Fs Γ 132 p l e R s m args below meth c M_law.2.2.1 Q k sl 968 (L0 t) [] h := by
  obtain ⟨w, fs, fs6, Q6, h0, h112, hn, hcmp, c5, c6, p6⟩ := op_covered hI
  refine fs_widen ?_
  refine fs_aload_n hC dL_law_968 rfl ?_
  refine fs_cvf hE hX hl9 hC hR (As := []) dL_law_969 lnM_X5_covered rfl rfl (Nat.le_of_ble_eq_true rfl) (by omega) h0 rfl rfl c5 (fun r h1 hq => ?_)
  obtain ⟨e1, rfl⟩ := hq
  cases e1
  refine fs_f2d hC dL_law_972 hn ?_
  refine fs_dstore hC dL_law_973 (by decide) rfl ?_
  refine fs_aload_n hC dL_law_975 rfl ?_
  refine fs_cvf hE hX hl9 hC hR (As := []) dL_law_976 lnM_X6_covered rfl rfl (Nat.le_of_ble_eq_true rfl) (by omega) h112 rfl rfl c6 (fun r2 u hq2 => ?_)
  obtain ⟨e2, hLI⟩ := p6 _ _ hq2
  cases e2
  refine fs_f2d hC dL_law_979 hn ?_
  refine fs_dstore hC dL_law_980 (by decide) rfl ?_
  refine fs_dload hC dL_law_982 rfl ?_
  refine fs_dload hC dL_law_984 rfl ?_
  refine fs_dcmp hC dL_law_986 (hcmp _) ?_
  refine fs_if_eq hC (tgt := 1008) dL_law_987 (by decide) (by omega) (fun q => ?_) (fun q => absurd rfl q)
  refine fs_goto hC (tgt := 1670) dL_law_1008 (by decide) ?_
  exact fs_pick [2, 3, 4, 5, 6] rfl (kk _ hLI)
theorem lc_pass (hE : envOK Γ St) {adV : Nat → Nat} (hX : envX Γ St adV) (hl9 : l.stackTraces = false) (hLn : envL St) (hC : CF Γ St M_law R p s m args c) (hR : k + 1 ≤ R.cells ∧ sl + 6 ≤ R.slots) (hs : scr Γ s L xs) (hL9 : L ≤ 3072) {t : Nat} (ht : 6 * t + 6 ≤ L) (hI : LI h) (kk : ∀ u, LI u → (Fs Γ 132 p l e R s m args below meth c M_law.2.2.1 Q (k + 1) (sl + 6) 1670 (L0 t) [] u)) : Fs Γ 132 p l e R s m args below meth c M_law.2.2.1 Q k sl 1011 (L0 t) [] h := by
  obtain ⟨a1, e1, g1⟩ := I_any (xs (6 * t + 1))
  have hop : OpW Γ l St M_L_pass H_pass M_X6_pass [.int (xs (6 * t + 1))] h := by
    rw [e1]
    exact op_pass hE hX hl9 hLn hI g1
  obtain ⟨Qw, hW9, p9⟩ := hop
  refine fs_aload_n hC dL_law_1011 rfl ?_
  refine fs_arg 1 hC hs hL9 ht dL_law_1012 dL_law_1013 dL_law_1015 dL_law_1016 dL_law_1017 (by decide) rfl rfl ?_
  refine fs_aload_n hC dL_law_1018 rfl ?_
  refine fs_csW hE hC hR (As := [.ref 0, .int (xs (6 * t + 1)), .ref 131]) (S := []) dL_law_1019 lnW_pass rfl (Nat.le_of_ble_eq_true rfl) hW9 (fun r h1 hq => ?_)
  obtain ⟨z, fs6, Q2, rfl, hz, h112, c6, p6⟩ := p9 r h1 hq
  refine fs_istore hC dL_law_1022 (by decide) rfl ?_
  refine fs_aload_n hC dL_law_1024 rfl ?_
  refine fs_arg 1 hC hs hL9 ht dL_law_1025 dL_law_1026 dL_law_1028 dL_law_1029 dL_law_1030 (by decide) rfl rfl ?_
  refine fs_cvi hE hX hl9 hC hR (As := [.int (xs (6 * t + 1))]) dL_law_1031 lnM_X6_pass rfl rfl (Nat.le_of_ble_eq_true rfl) (by omega) h112 rfl (Or.inl rfl) c6 (fun r2 u hq2 => ?_)
  obtain ⟨b, eb, hPL⟩ := p6 _ _ hq2
  cases eb
  obtain ⟨K, H, d, T, e0, s0, r0, fl, f, hLK, hLA, hLB, h131, hz0, hf⟩ := id hPL
  refine fs_istore hC dL_law_1034 (by decide) rfl ?_
  refine fs_aload_n hC dL_law_1036 rfl ?_
  refine fs_cvi hE hX hl9 hC hR (As := []) dL_law_1037 lnM_X6_thrown rfl rfl (Nat.le_of_ble_eq_true rfl) (by omega) hLB.1.1 rfl (Or.inl rfl) (s6_thrown (by omega) hLB.1) (fun r3 u3 hq3 => ?_)
  obtain ⟨e3, rfl⟩ := hq3
  cases e3
  refine fs_iload hC dL_law_1040 rfl ?_
  refine fs_icmp_eqT hC (tgt := 1047) dL_law_1042 (by decide) (by rw [hz0]) ?_
  refine fs_iload hC dL_law_1047 rfl ?_
  refine fs_if_ne hC (tgt := 1064) dL_law_1049 (by decide) (by omega) (fun q => ?_) (fun q => ?_)
  · refine fs_goto hC (tgt := 1670) dL_law_1064 (by decide) ?_
    exact fs_pick [2, 3, 4, 5, 6] rfl (kk _ hPL.li)
  · refine fs_aload_n hC dL_law_1052 rfl ?_
    refine fs_iconst hC dL_law_1053 ?_
    refine fs_lald hC dL_law_1054 (by omega) h131 ?_
    refine fs_iload hC dL_law_1055 rfl ?_
    refine fs_i2l hC dL_law_1057 ?_
    refine fs_lcmpT hC dL_law_1058 (hf q) ?_
    refine fs_if_eq hC (tgt := 1064) dL_law_1059 (by decide) (by omega) (fun q => ?_) (fun q => absurd rfl q)
    refine fs_goto hC (tgt := 1670) dL_law_1064 (by decide) ?_
    exact fs_pick [2, 3, 4, 5, 6] rfl (kk _ hPL.li)
theorem lc_paint (hE : envOK Γ St) {adV : Nat → Nat} (hX : envX Γ St adV) (hl9 : l.stackTraces = false) (hLn : envL St) (hC : CF Γ St M_law R p s m args c) (hR : k + 1 ≤ R.cells ∧ sl + 6 ≤ R.slots) (hs : scr Γ s L xs) (hL9 : L ≤ 3072) {t : Nat} (ht : 6 * t + 6 ≤ L) (hI : LI h) (kk : ∀ u, LI u → (Fs Γ 132 p l e R s m args below meth c M_law.2.2.1 Q (k + 1) (sl + 6) 1670 (L0 t) [] u)) : Fs Γ 132 p l e R s m args below meth c M_law.2.2.1 Q k sl 1067 (L0 t) [] h := by
  obtain ⟨a1, e1, g1⟩ := I_any (xs (6 * t + 1))
  obtain ⟨a2, e2, g2⟩ := I_any (xs (6 * t + 2))
  obtain ⟨a3, e3, g3⟩ := I_any (xs (6 * t + 3))
  obtain ⟨a4, e4, g4⟩ := I_any (xs (6 * t + 4))
  have hop : OpW Γ l St M_L_paint H_paint M_X6_paint [.int (xs (6 * t + 1)), .int (xs (6 * t + 2)), .int (xs (6 * t + 3)), .int (xs (6 * t + 4)), .int (I (if decide (xs (6 * t + 5) ≠ 0) = true then 1 else 0))] h := by
    rw [e1, e2, e3, e4]
    exact op_paint hE hX hl9 hLn hI g1 g2 g3 g4
  obtain ⟨Qw, hW9, p9⟩ := hop
  refine fs_aload_n hC dL_law_1067 rfl ?_
  refine fs_arg 1 hC hs hL9 ht dL_law_1068 dL_law_1069 dL_law_1071 dL_law_1072 dL_law_1073 (by decide) rfl rfl ?_
  refine fs_arg 2 hC hs hL9 ht dL_law_1074 dL_law_1075 dL_law_1077 dL_law_1078 dL_law_1079 (by decide) rfl rfl ?_
  refine fs_arg 3 hC hs hL9 ht dL_law_1080 dL_law_1081 dL_law_1083 dL_law_1084 dL_law_1085 (by decide) rfl rfl ?_
  refine fs_arg 4 hC hs hL9 ht dL_law_1086 dL_law_1087 dL_law_1089 dL_law_1090 dL_law_1091 (by decide) rfl rfl ?_
  refine fs_arg 5 hC hs hL9 ht dL_law_1092 dL_law_1093 dL_law_1095 dL_law_1096 dL_law_1097 (by decide) rfl rfl ?_
  refine fs_bool hC dL_law_1098 dL_law_1101 dL_law_1102 dL_law_1105 ?_
  refine fs_aload_n hC dL_law_1106 rfl ?_
  refine fs_csW hE hC hR (As := [.ref 0, .int (xs (6 * t + 1)), .int (xs (6 * t + 2)), .int (xs (6 * t + 3)), .int (xs (6 * t + 4)), .int (I (if decide (xs (6 * t + 5) ≠ 0) = true then 1 else 0)), .ref 131]) (S := []) dL_law_1107 lnW_paint rfl (Nat.le_of_ble_eq_true rfl) hW9 (fun r h1 hq => ?_)
  obtain ⟨z, fs6, Q2, rfl, hz, h112, c6, p6⟩ := p9 r h1 hq
  refine fs_istore hC dL_law_1110 (by decide) rfl ?_
  refine fs_aload_n hC dL_law_1112 rfl ?_
  refine fs_arg 1 hC hs hL9 ht dL_law_1113 dL_law_1114 dL_law_1116 dL_law_1117 dL_law_1118 (by decide) rfl rfl ?_
  refine fs_arg 2 hC hs hL9 ht dL_law_1119 dL_law_1120 dL_law_1122 dL_law_1123 dL_law_1124 (by decide) rfl rfl ?_
  refine fs_arg 3 hC hs hL9 ht dL_law_1125 dL_law_1126 dL_law_1128 dL_law_1129 dL_law_1130 (by decide) rfl rfl ?_
  refine fs_arg 4 hC hs hL9 ht dL_law_1131 dL_law_1132 dL_law_1134 dL_law_1135 dL_law_1136 (by decide) rfl rfl ?_
  refine fs_arg 5 hC hs hL9 ht dL_law_1137 dL_law_1138 dL_law_1140 dL_law_1141 dL_law_1142 (by decide) rfl rfl ?_
  refine fs_bool hC dL_law_1143 dL_law_1146 dL_law_1147 dL_law_1150 ?_
  refine fs_cvi hE hX hl9 hC hR (As := [.int (xs (6 * t + 1)), .int (xs (6 * t + 2)), .int (xs (6 * t + 3)), .int (xs (6 * t + 4)), .int (I (if decide (xs (6 * t + 5) ≠ 0) = true then 1 else 0))]) dL_law_1151 lnM_X6_paint rfl rfl (Nat.le_of_ble_eq_true rfl) (by omega) h112 rfl (Or.inl rfl) c6 (fun r2 u hq2 => ?_)
  obtain ⟨b, eb, hPL⟩ := p6 _ _ hq2
  cases eb
  obtain ⟨K, H, d, T, e0, s0, r0, fl, f, hLK, hLA, hLB, h131, hz0, hf⟩ := id hPL
  refine fs_istore hC dL_law_1154 (by decide) rfl ?_
  refine fs_aload_n hC dL_law_1156 rfl ?_
  refine fs_cvi hE hX hl9 hC hR (As := []) dL_law_1157 lnM_X6_thrown rfl rfl (Nat.le_of_ble_eq_true rfl) (by omega) hLB.1.1 rfl (Or.inl rfl) (s6_thrown (by omega) hLB.1) (fun r3 u3 hq3 => ?_)
  obtain ⟨e3, rfl⟩ := hq3
  cases e3
  refine fs_iload hC dL_law_1160 rfl ?_
  refine fs_icmp_eqT hC (tgt := 1167) dL_law_1162 (by decide) (by rw [hz0]) ?_
  refine fs_iload hC dL_law_1167 rfl ?_
  refine fs_if_ne hC (tgt := 1184) dL_law_1169 (by decide) (by omega) (fun q => ?_) (fun q => ?_)
  · refine fs_goto hC (tgt := 1670) dL_law_1184 (by decide) ?_
    exact fs_pick [2, 3, 4, 5, 6] rfl (kk _ hPL.li)
  · refine fs_aload_n hC dL_law_1172 rfl ?_
    refine fs_iconst hC dL_law_1173 ?_
    refine fs_lald hC dL_law_1174 (by omega) h131 ?_
    refine fs_iload hC dL_law_1175 rfl ?_
    refine fs_i2l hC dL_law_1177 ?_
    refine fs_lcmpT hC dL_law_1178 (hf q) ?_
    refine fs_if_eq hC (tgt := 1184) dL_law_1179 (by decide) (by omega) (fun q => ?_) (fun q => absurd rfl q)
    refine fs_goto hC (tgt := 1670) dL_law_1184 (by decide) ?_
    exact fs_pick [2, 3, 4, 5, 6] rfl (kk _ hPL.li)
theorem lc_stroke (hE : envOK Γ St) {adV : Nat → Nat} (hX : envX Γ St adV) (hl9 : l.stackTraces = false) (hLn : envL St) (hC : CF Γ St M_law R p s m args c) (hR : k + 1 ≤ R.cells ∧ sl + 6 ≤ R.slots) (hs : scr Γ s L xs) (hL9 : L ≤ 3072) {t : Nat} (ht : 6 * t + 6 ≤ L) (hI : LI h) (kk : ∀ u, LI u → (Fs Γ 132 p l e R s m args below meth c M_law.2.2.1 Q (k + 1) (sl + 6) 1670 (L0 t) [] u)) : Fs Γ 132 p l e R s m args below meth c M_law.2.2.1 Q k sl 1187 (L0 t) [] h := by
  obtain ⟨a1, e1, g1⟩ := I_any (xs (6 * t + 1))
  obtain ⟨a2, e2, g2⟩ := I_any (xs (6 * t + 2))
  obtain ⟨a3, e3, g3⟩ := I_any (xs (6 * t + 3))
  obtain ⟨a4, e4, g4⟩ := I_any (xs (6 * t + 4))
  obtain ⟨a5, e5, g5⟩ := I_any (xs (6 * t + 5))
  have hop : OpW Γ l St M_L_stroke H_stroke M_X6_stroke [.int (xs (6 * t + 1)), .int (xs (6 * t + 2)), .int (xs (6 * t + 3)), .int (xs (6 * t + 4)), .int (xs (6 * t + 5))] h := by
    rw [e1, e2, e3, e4, e5]
    exact op_stroke hE hX hl9 hLn hI g1 g2 g3 g4 g5
  obtain ⟨Qw, hW9, p9⟩ := hop
  refine fs_aload_n hC dL_law_1187 rfl ?_
  refine fs_arg 1 hC hs hL9 ht dL_law_1188 dL_law_1189 dL_law_1191 dL_law_1192 dL_law_1193 (by decide) rfl rfl ?_
  refine fs_arg 2 hC hs hL9 ht dL_law_1194 dL_law_1195 dL_law_1197 dL_law_1198 dL_law_1199 (by decide) rfl rfl ?_
  refine fs_arg 3 hC hs hL9 ht dL_law_1200 dL_law_1201 dL_law_1203 dL_law_1204 dL_law_1205 (by decide) rfl rfl ?_
  refine fs_arg 4 hC hs hL9 ht dL_law_1206 dL_law_1207 dL_law_1209 dL_law_1210 dL_law_1211 (by decide) rfl rfl ?_
  refine fs_arg 5 hC hs hL9 ht dL_law_1212 dL_law_1213 dL_law_1215 dL_law_1216 dL_law_1217 (by decide) rfl rfl ?_
  refine fs_aload_n hC dL_law_1218 rfl ?_
  refine fs_csW hE hC hR (As := [.ref 0, .int (xs (6 * t + 1)), .int (xs (6 * t + 2)), .int (xs (6 * t + 3)), .int (xs (6 * t + 4)), .int (xs (6 * t + 5)), .ref 131]) (S := []) dL_law_1219 lnW_stroke rfl (Nat.le_of_ble_eq_true rfl) hW9 (fun r h1 hq => ?_)
  obtain ⟨z, fs6, Q2, rfl, hz, h112, c6, p6⟩ := p9 r h1 hq
  refine fs_istore hC dL_law_1222 (by decide) rfl ?_
  refine fs_aload_n hC dL_law_1224 rfl ?_
  refine fs_arg 1 hC hs hL9 ht dL_law_1225 dL_law_1226 dL_law_1228 dL_law_1229 dL_law_1230 (by decide) rfl rfl ?_
  refine fs_arg 2 hC hs hL9 ht dL_law_1231 dL_law_1232 dL_law_1234 dL_law_1235 dL_law_1236 (by decide) rfl rfl ?_
  refine fs_arg 3 hC hs hL9 ht dL_law_1237 dL_law_1238 dL_law_1240 dL_law_1241 dL_law_1242 (by decide) rfl rfl ?_
  refine fs_arg 4 hC hs hL9 ht dL_law_1243 dL_law_1244 dL_law_1246 dL_law_1247 dL_law_1248 (by decide) rfl rfl ?_
  refine fs_arg 5 hC hs hL9 ht dL_law_1249 dL_law_1250 dL_law_1252 dL_law_1253 dL_law_1254 (by decide) rfl rfl ?_
  refine fs_cvi hE hX hl9 hC hR (As := [.int (xs (6 * t + 1)), .int (xs (6 * t + 2)), .int (xs (6 * t + 3)), .int (xs (6 * t + 4)), .int (xs (6 * t + 5))]) dL_law_1255 lnM_X6_stroke rfl rfl (Nat.le_of_ble_eq_true rfl) (by omega) h112 rfl (Or.inl rfl) c6 (fun r2 u hq2 => ?_)
  obtain ⟨b, eb, hPL⟩ := p6 _ _ hq2
  cases eb
  obtain ⟨K, H, d, T, e0, s0, r0, fl, f, hLK, hLA, hLB, h131, hz0, hf⟩ := id hPL
  refine fs_istore hC dL_law_1258 (by decide) rfl ?_
  refine fs_aload_n hC dL_law_1260 rfl ?_
  refine fs_cvi hE hX hl9 hC hR (As := []) dL_law_1261 lnM_X6_thrown rfl rfl (Nat.le_of_ble_eq_true rfl) (by omega) hLB.1.1 rfl (Or.inl rfl) (s6_thrown (by omega) hLB.1) (fun r3 u3 hq3 => ?_)
  obtain ⟨e3, rfl⟩ := hq3
  cases e3
  refine fs_iload hC dL_law_1264 rfl ?_
  refine fs_icmp_eqT hC (tgt := 1271) dL_law_1266 (by decide) (by rw [hz0]) ?_
  refine fs_iload hC dL_law_1271 rfl ?_
  refine fs_if_ne hC (tgt := 1288) dL_law_1273 (by decide) (by omega) (fun q => ?_) (fun q => ?_)
  · refine fs_goto hC (tgt := 1670) dL_law_1288 (by decide) ?_
    exact fs_pick [2, 3, 4, 5, 6] rfl (kk _ hPL.li)
  · refine fs_aload_n hC dL_law_1276 rfl ?_
    refine fs_iconst hC dL_law_1277 ?_
    refine fs_lald hC dL_law_1278 (by omega) h131 ?_
    refine fs_iload hC dL_law_1279 rfl ?_
    refine fs_i2l hC dL_law_1281 ?_
    refine fs_lcmpT hC dL_law_1282 (hf q) ?_
    refine fs_if_eq hC (tgt := 1288) dL_law_1283 (by decide) (by omega) (fun q => ?_) (fun q => absurd rfl q)
    refine fs_goto hC (tgt := 1670) dL_law_1288 (by decide) ?_
    exact fs_pick [2, 3, 4, 5, 6] rfl (kk _ hPL.li)
theorem lc_stamp (hE : envOK Γ St) {adV : Nat → Nat} (hX : envX Γ St adV) (hl9 : l.stackTraces = false) (hLn : envL St) (hC : CF Γ St M_law R p s m args c) (hR : k + 1 ≤ R.cells ∧ sl + 6 ≤ R.slots) (hs : scr Γ s L xs) (hL9 : L ≤ 3072) {t : Nat} (ht : 6 * t + 6 ≤ L) (hI : LI h) (kk : ∀ u, LI u → (Fs Γ 132 p l e R s m args below meth c M_law.2.2.1 Q (k + 1) (sl + 6) 1670 (L0 t) [] u)) : Fs Γ 132 p l e R s m args below meth c M_law.2.2.1 Q k sl 1291 (L0 t) [] h := by
  obtain ⟨a1, e1, g1⟩ := I_any (xs (6 * t + 1))
  obtain ⟨a2, e2, g2⟩ := I_any (xs (6 * t + 2))
  obtain ⟨a3, e3, g3⟩ := I_any (xs (6 * t + 3))
  have hop : OpW Γ l St M_L_stamp H_stamp M_X6_stamp [.int (xs (6 * t + 1)), .int (xs (6 * t + 2)), .int (xs (6 * t + 3)), .int (I (if decide (xs (6 * t + 4) ≠ 0) = true then 1 else 0))] h := by
    rw [e1, e2, e3]
    exact op_stamp hE hX hl9 hLn hI g1 g2 g3
  obtain ⟨Qw, hW9, p9⟩ := hop
  refine fs_aload_n hC dL_law_1291 rfl ?_
  refine fs_arg 1 hC hs hL9 ht dL_law_1292 dL_law_1293 dL_law_1295 dL_law_1296 dL_law_1297 (by decide) rfl rfl ?_
  refine fs_arg 2 hC hs hL9 ht dL_law_1298 dL_law_1299 dL_law_1301 dL_law_1302 dL_law_1303 (by decide) rfl rfl ?_
  refine fs_arg 3 hC hs hL9 ht dL_law_1304 dL_law_1305 dL_law_1307 dL_law_1308 dL_law_1309 (by decide) rfl rfl ?_
  refine fs_arg 4 hC hs hL9 ht dL_law_1310 dL_law_1311 dL_law_1313 dL_law_1314 dL_law_1315 (by decide) rfl rfl ?_
  refine fs_bool hC dL_law_1316 dL_law_1319 dL_law_1320 dL_law_1323 ?_
  refine fs_aload_n hC dL_law_1324 rfl ?_
  refine fs_csW hE hC hR (As := [.ref 0, .int (xs (6 * t + 1)), .int (xs (6 * t + 2)), .int (xs (6 * t + 3)), .int (I (if decide (xs (6 * t + 4) ≠ 0) = true then 1 else 0)), .ref 131]) (S := []) dL_law_1325 lnW_stamp rfl (Nat.le_of_ble_eq_true rfl) hW9 (fun r h1 hq => ?_)
  obtain ⟨z, fs6, Q2, rfl, hz, h112, c6, p6⟩ := p9 r h1 hq
  refine fs_istore hC dL_law_1328 (by decide) rfl ?_
  refine fs_aload_n hC dL_law_1330 rfl ?_
  refine fs_arg 1 hC hs hL9 ht dL_law_1331 dL_law_1332 dL_law_1334 dL_law_1335 dL_law_1336 (by decide) rfl rfl ?_
  refine fs_arg 2 hC hs hL9 ht dL_law_1337 dL_law_1338 dL_law_1340 dL_law_1341 dL_law_1342 (by decide) rfl rfl ?_
  refine fs_arg 3 hC hs hL9 ht dL_law_1343 dL_law_1344 dL_law_1346 dL_law_1347 dL_law_1348 (by decide) rfl rfl ?_
  refine fs_arg 4 hC hs hL9 ht dL_law_1349 dL_law_1350 dL_law_1352 dL_law_1353 dL_law_1354 (by decide) rfl rfl ?_
  refine fs_bool hC dL_law_1355 dL_law_1358 dL_law_1359 dL_law_1362 ?_
  refine fs_cvi hE hX hl9 hC hR (As := [.int (xs (6 * t + 1)), .int (xs (6 * t + 2)), .int (xs (6 * t + 3)), .int (I (if decide (xs (6 * t + 4) ≠ 0) = true then 1 else 0))]) dL_law_1363 lnM_X6_stamp rfl rfl (Nat.le_of_ble_eq_true rfl) (by omega) h112 rfl (Or.inl rfl) c6 (fun r2 u hq2 => ?_)
  obtain ⟨b, eb, hPL⟩ := p6 _ _ hq2
  cases eb
  obtain ⟨K, H, d, T, e0, s0, r0, fl, f, hLK, hLA, hLB, h131, hz0, hf⟩ := id hPL
  refine fs_istore hC dL_law_1366 (by decide) rfl ?_
  refine fs_aload_n hC dL_law_1368 rfl ?_
  refine fs_cvi hE hX hl9 hC hR (As := []) dL_law_1369 lnM_X6_thrown rfl rfl (Nat.le_of_ble_eq_true rfl) (by omega) hLB.1.1 rfl (Or.inl rfl) (s6_thrown (by omega) hLB.1) (fun r3 u3 hq3 => ?_)
  obtain ⟨e3, rfl⟩ := hq3
  cases e3
  refine fs_iload hC dL_law_1372 rfl ?_
  refine fs_icmp_eqT hC (tgt := 1379) dL_law_1374 (by decide) (by rw [hz0]) ?_
  refine fs_iload hC dL_law_1379 rfl ?_
  refine fs_if_ne hC (tgt := 1396) dL_law_1381 (by decide) (by omega) (fun q => ?_) (fun q => ?_)
  · refine fs_goto hC (tgt := 1670) dL_law_1396 (by decide) ?_
    exact fs_pick [2, 3, 4, 5, 6] rfl (kk _ hPL.li)
  · refine fs_aload_n hC dL_law_1384 rfl ?_
    refine fs_iconst hC dL_law_1385 ?_
    refine fs_lald hC dL_law_1386 (by omega) h131 ?_
    refine fs_iload hC dL_law_1387 rfl ?_
    refine fs_i2l hC dL_law_1389 ?_
    refine fs_lcmpT hC dL_law_1390 (hf q) ?_
    refine fs_if_eq hC (tgt := 1396) dL_law_1391 (by decide) (by omega) (fun q => ?_) (fun q => absurd rfl q)
    refine fs_goto hC (tgt := 1670) dL_law_1396 (by decide) ?_
    exact fs_pick [2, 3, 4, 5, 6] rfl (kk _ hPL.li)
theorem lc_spar (hE : envOK Γ St) {adV : Nat → Nat} (hX : envX Γ St adV) (hl9 : l.stackTraces = false) (hLn : envL St) (hC : CF Γ St M_law R p s m args c) (hR : k + 1 ≤ R.cells ∧ sl + 6 ≤ R.slots) (hs : scr Γ s L xs) (hL9 : L ≤ 3072) {t : Nat} (ht : 6 * t + 6 ≤ L) (hI : LI h) (kk : ∀ u, LI u → (Fs Γ 132 p l e R s m args below meth c M_law.2.2.1 Q (k + 1) (sl + 6) 1670 (L0 t) [] u)) : Fs Γ 132 p l e R s m args below meth c M_law.2.2.1 Q k sl 1399 (L0 t) [] h := by
  obtain ⟨a1, e1, g1⟩ := I_any (xs (6 * t + 1))
  obtain ⟨a2, e2, g2⟩ := I_any (xs (6 * t + 2))
  obtain ⟨a4, e4, g4⟩ := I_any (xs (6 * t + 4))
  have hop : OpW Γ l St M_L_spar H_spar M_X6_spar [.int (xs (6 * t + 1)), .int (xs (6 * t + 2)), .int (I (if decide (xs (6 * t + 3) ≠ 0) = true then 1 else 0)), .int (xs (6 * t + 4))] h := by
    rw [e1, e2, e4]
    exact op_spar hE hX hl9 hLn hI g1 g2 g4
  obtain ⟨Qw, hW9, p9⟩ := hop
  refine fs_aload_n hC dL_law_1399 rfl ?_
  refine fs_arg 1 hC hs hL9 ht dL_law_1400 dL_law_1401 dL_law_1403 dL_law_1404 dL_law_1405 (by decide) rfl rfl ?_
  refine fs_arg 2 hC hs hL9 ht dL_law_1406 dL_law_1407 dL_law_1409 dL_law_1410 dL_law_1411 (by decide) rfl rfl ?_
  refine fs_arg 3 hC hs hL9 ht dL_law_1412 dL_law_1413 dL_law_1415 dL_law_1416 dL_law_1417 (by decide) rfl rfl ?_
  refine fs_bool hC dL_law_1418 dL_law_1421 dL_law_1422 dL_law_1425 ?_
  refine fs_arg 4 hC hs hL9 ht dL_law_1426 dL_law_1427 dL_law_1429 dL_law_1430 dL_law_1431 (by decide) rfl rfl ?_
  refine fs_aload_n hC dL_law_1432 rfl ?_
  refine fs_csW hE hC hR (As := [.ref 0, .int (xs (6 * t + 1)), .int (xs (6 * t + 2)), .int (I (if decide (xs (6 * t + 3) ≠ 0) = true then 1 else 0)), .int (xs (6 * t + 4)), .ref 131]) (S := []) dL_law_1433 lnW_spar rfl (Nat.le_of_ble_eq_true rfl) hW9 (fun r h1 hq => ?_)
  obtain ⟨z, fs6, Q2, rfl, hz, h112, c6, p6⟩ := p9 r h1 hq
  refine fs_istore hC dL_law_1436 (by decide) rfl ?_
  refine fs_aload_n hC dL_law_1438 rfl ?_
  refine fs_arg 1 hC hs hL9 ht dL_law_1439 dL_law_1440 dL_law_1442 dL_law_1443 dL_law_1444 (by decide) rfl rfl ?_
  refine fs_arg 2 hC hs hL9 ht dL_law_1445 dL_law_1446 dL_law_1448 dL_law_1449 dL_law_1450 (by decide) rfl rfl ?_
  refine fs_arg 3 hC hs hL9 ht dL_law_1451 dL_law_1452 dL_law_1454 dL_law_1455 dL_law_1456 (by decide) rfl rfl ?_
  refine fs_bool hC dL_law_1457 dL_law_1460 dL_law_1461 dL_law_1464 ?_
  refine fs_arg 4 hC hs hL9 ht dL_law_1465 dL_law_1466 dL_law_1468 dL_law_1469 dL_law_1470 (by decide) rfl rfl ?_
  refine fs_cvi hE hX hl9 hC hR (As := [.int (xs (6 * t + 1)), .int (xs (6 * t + 2)), .int (I (if decide (xs (6 * t + 3) ≠ 0) = true then 1 else 0)), .int (xs (6 * t + 4))]) dL_law_1471 lnM_X6_spar rfl rfl (Nat.le_of_ble_eq_true rfl) (by omega) h112 rfl (Or.inl rfl) c6 (fun r2 u hq2 => ?_)
  obtain ⟨b, eb, hPL⟩ := p6 _ _ hq2
  cases eb
  obtain ⟨K, H, d, T, e0, s0, r0, fl, f, hLK, hLA, hLB, h131, hz0, hf⟩ := id hPL
  refine fs_istore hC dL_law_1474 (by decide) rfl ?_
  refine fs_aload_n hC dL_law_1476 rfl ?_
  refine fs_cvi hE hX hl9 hC hR (As := []) dL_law_1477 lnM_X6_thrown rfl rfl (Nat.le_of_ble_eq_true rfl) (by omega) hLB.1.1 rfl (Or.inl rfl) (s6_thrown (by omega) hLB.1) (fun r3 u3 hq3 => ?_)
  obtain ⟨e3, rfl⟩ := hq3
  cases e3
  refine fs_iload hC dL_law_1480 rfl ?_
  refine fs_icmp_eqT hC (tgt := 1487) dL_law_1482 (by decide) (by rw [hz0]) ?_
  refine fs_iload hC dL_law_1487 rfl ?_
  refine fs_if_ne hC (tgt := 1504) dL_law_1489 (by decide) (by omega) (fun q => ?_) (fun q => ?_)
  · refine fs_goto hC (tgt := 1670) dL_law_1504 (by decide) ?_
    exact fs_pick [2, 3, 4, 5, 6] rfl (kk _ hPL.li)
  · refine fs_aload_n hC dL_law_1492 rfl ?_
    refine fs_iconst hC dL_law_1493 ?_
    refine fs_lald hC dL_law_1494 (by omega) h131 ?_
    refine fs_iload hC dL_law_1495 rfl ?_
    refine fs_i2l hC dL_law_1497 ?_
    refine fs_lcmpT hC dL_law_1498 (hf q) ?_
    refine fs_if_eq hC (tgt := 1504) dL_law_1499 (by decide) (by omega) (fun q => ?_) (fun q => absurd rfl q)
    refine fs_goto hC (tgt := 1670) dL_law_1504 (by decide) ?_
    exact fs_pick [2, 3, 4, 5, 6] rfl (kk _ hPL.li)
theorem lc_strip (hE : envOK Γ St) {adV : Nat → Nat} (hX : envX Γ St adV) (hl9 : l.stackTraces = false) (hLn : envL St) (hC : CF Γ St M_law R p s m args c) (hR : k + 1 ≤ R.cells ∧ sl + 6 ≤ R.slots) (hs : scr Γ s L xs) (hL9 : L ≤ 3072) {t : Nat} (ht : 6 * t + 6 ≤ L) (hI : LI h) (kk : ∀ u, LI u → (Fs Γ 132 p l e R s m args below meth c M_law.2.2.1 Q (k + 1) (sl + 6) 1670 (L0 t) [] u)) : Fs Γ 132 p l e R s m args below meth c M_law.2.2.1 Q k sl 1507 (L0 t) [] h := by
  obtain ⟨a1, e1, g1⟩ := I_any (xs (6 * t + 1))
  obtain ⟨a2, e2, g2⟩ := I_any (xs (6 * t + 2))
  have hop : OpW Γ l St M_L_strip H_strip M_X6_strip [.int (xs (6 * t + 1)), .int (xs (6 * t + 2))] h := by
    rw [e1, e2]
    exact op_strip hE hX hl9 hLn hI g1 g2
  obtain ⟨Qw, hW9, p9⟩ := hop
  refine fs_aload_n hC dL_law_1507 rfl ?_
  refine fs_arg 1 hC hs hL9 ht dL_law_1508 dL_law_1509 dL_law_1511 dL_law_1512 dL_law_1513 (by decide) rfl rfl ?_
  refine fs_arg 2 hC hs hL9 ht dL_law_1514 dL_law_1515 dL_law_1517 dL_law_1518 dL_law_1519 (by decide) rfl rfl ?_
  refine fs_aload_n hC dL_law_1520 rfl ?_
  refine fs_csW hE hC hR (As := [.ref 0, .int (xs (6 * t + 1)), .int (xs (6 * t + 2)), .ref 131]) (S := []) dL_law_1521 lnW_strip rfl (Nat.le_of_ble_eq_true rfl) hW9 (fun r h1 hq => ?_)
  obtain ⟨z, fs6, Q2, rfl, hz, h112, c6, p6⟩ := p9 r h1 hq
  refine fs_istore hC dL_law_1524 (by decide) rfl ?_
  refine fs_aload_n hC dL_law_1526 rfl ?_
  refine fs_arg 1 hC hs hL9 ht dL_law_1527 dL_law_1528 dL_law_1530 dL_law_1531 dL_law_1532 (by decide) rfl rfl ?_
  refine fs_arg 2 hC hs hL9 ht dL_law_1533 dL_law_1534 dL_law_1536 dL_law_1537 dL_law_1538 (by decide) rfl rfl ?_
  refine fs_cvi hE hX hl9 hC hR (As := [.int (xs (6 * t + 1)), .int (xs (6 * t + 2))]) dL_law_1539 lnM_X6_strip rfl rfl (Nat.le_of_ble_eq_true rfl) (by omega) h112 rfl (Or.inl rfl) c6 (fun r2 u hq2 => ?_)
  obtain ⟨b, eb, hPL⟩ := p6 _ _ hq2
  cases eb
  obtain ⟨K, H, d, T, e0, s0, r0, fl, f, hLK, hLA, hLB, h131, hz0, hf⟩ := id hPL
  refine fs_istore hC dL_law_1542 (by decide) rfl ?_
  refine fs_aload_n hC dL_law_1544 rfl ?_
  refine fs_cvi hE hX hl9 hC hR (As := []) dL_law_1545 lnM_X6_thrown rfl rfl (Nat.le_of_ble_eq_true rfl) (by omega) hLB.1.1 rfl (Or.inl rfl) (s6_thrown (by omega) hLB.1) (fun r3 u3 hq3 => ?_)
  obtain ⟨e3, rfl⟩ := hq3
  cases e3
  refine fs_iload hC dL_law_1548 rfl ?_
  refine fs_icmp_eqT hC (tgt := 1555) dL_law_1550 (by decide) (by rw [hz0]) ?_
  refine fs_iload hC dL_law_1555 rfl ?_
  refine fs_if_ne hC (tgt := 1572) dL_law_1557 (by decide) (by omega) (fun q => ?_) (fun q => ?_)
  · refine fs_goto hC (tgt := 1670) dL_law_1572 (by decide) ?_
    exact fs_pick [2, 3, 4, 5, 6] rfl (kk _ hPL.li)
  · refine fs_aload_n hC dL_law_1560 rfl ?_
    refine fs_iconst hC dL_law_1561 ?_
    refine fs_lald hC dL_law_1562 (by omega) h131 ?_
    refine fs_iload hC dL_law_1563 rfl ?_
    refine fs_i2l hC dL_law_1565 ?_
    refine fs_lcmpT hC dL_law_1566 (hf q) ?_
    refine fs_if_eq hC (tgt := 1572) dL_law_1567 (by decide) (by omega) (fun q => ?_) (fun q => absurd rfl q)
    refine fs_goto hC (tgt := 1670) dL_law_1572 (by decide) ?_
    exact fs_pick [2, 3, 4, 5, 6] rfl (kk _ hPL.li)
theorem lc_wash (hE : envOK Γ St) {adV : Nat → Nat} (hX : envX Γ St adV) (hl9 : l.stackTraces = false) (hLn : envL St) (hC : CF Γ St M_law R p s m args c) (hR : k + 1 ≤ R.cells ∧ sl + 6 ≤ R.slots) (hs : scr Γ s L xs) (hL9 : L ≤ 3072) {t : Nat} (ht : 6 * t + 6 ≤ L) (hI : LI h) (kk : ∀ u, LI u → (Fs Γ 132 p l e R s m args below meth c M_law.2.2.1 Q (k + 1) (sl + 6) 1670 (L0 t) [] u)) : Fs Γ 132 p l e R s m args below meth c M_law.2.2.1 Q k sl 1575 (L0 t) [] h := by
  obtain ⟨a1, e1, g1⟩ := I_any (xs (6 * t + 1))
  obtain ⟨a2, e2, g2⟩ := I_any (xs (6 * t + 2))
  have hop : OpW Γ l St M_L_wash H_wash M_X6_wash [.int (xs (6 * t + 1)), .int (xs (6 * t + 2))] h := by
    rw [e1, e2]
    exact op_wash hE hX hl9 hLn hI g1 g2
  obtain ⟨Qw, hW9, p9⟩ := hop
  refine fs_aload_n hC dL_law_1575 rfl ?_
  refine fs_arg 1 hC hs hL9 ht dL_law_1576 dL_law_1577 dL_law_1579 dL_law_1580 dL_law_1581 (by decide) rfl rfl ?_
  refine fs_arg 2 hC hs hL9 ht dL_law_1582 dL_law_1583 dL_law_1585 dL_law_1586 dL_law_1587 (by decide) rfl rfl ?_
  refine fs_aload_n hC dL_law_1588 rfl ?_
  refine fs_csW hE hC hR (As := [.ref 0, .int (xs (6 * t + 1)), .int (xs (6 * t + 2)), .ref 131]) (S := []) dL_law_1589 lnW_wash rfl (Nat.le_of_ble_eq_true rfl) hW9 (fun r h1 hq => ?_)
  obtain ⟨z, fs6, Q2, rfl, hz, h112, c6, p6⟩ := p9 r h1 hq
  refine fs_istore hC dL_law_1592 (by decide) rfl ?_
  refine fs_aload_n hC dL_law_1594 rfl ?_
  refine fs_arg 1 hC hs hL9 ht dL_law_1595 dL_law_1596 dL_law_1598 dL_law_1599 dL_law_1600 (by decide) rfl rfl ?_
  refine fs_arg 2 hC hs hL9 ht dL_law_1601 dL_law_1602 dL_law_1604 dL_law_1605 dL_law_1606 (by decide) rfl rfl ?_
  refine fs_cvi hE hX hl9 hC hR (As := [.int (xs (6 * t + 1)), .int (xs (6 * t + 2))]) dL_law_1607 lnM_X6_wash rfl rfl (Nat.le_of_ble_eq_true rfl) (by omega) h112 rfl (Or.inl rfl) c6 (fun r2 u hq2 => ?_)
  obtain ⟨b, eb, hPL⟩ := p6 _ _ hq2
  cases eb
  obtain ⟨K, H, d, T, e0, s0, r0, fl, f, hLK, hLA, hLB, h131, hz0, hf⟩ := id hPL
  refine fs_istore hC dL_law_1610 (by decide) rfl ?_
  refine fs_aload_n hC dL_law_1612 rfl ?_
  refine fs_cvi hE hX hl9 hC hR (As := []) dL_law_1613 lnM_X6_thrown rfl rfl (Nat.le_of_ble_eq_true rfl) (by omega) hLB.1.1 rfl (Or.inl rfl) (s6_thrown (by omega) hLB.1) (fun r3 u3 hq3 => ?_)
  obtain ⟨e3, rfl⟩ := hq3
  cases e3
  refine fs_iload hC dL_law_1616 rfl ?_
  refine fs_icmp_eqT hC (tgt := 1623) dL_law_1618 (by decide) (by rw [hz0]) ?_
  refine fs_iload hC dL_law_1623 rfl ?_
  refine fs_if_ne hC (tgt := 1640) dL_law_1625 (by decide) (by omega) (fun q => ?_) (fun q => ?_)
  · refine fs_goto hC (tgt := 1670) dL_law_1640 (by decide) ?_
    exact fs_pick [2, 3, 4, 5, 6] rfl (kk _ hPL.li)
  · refine fs_aload_n hC dL_law_1628 rfl ?_
    refine fs_iconst hC dL_law_1629 ?_
    refine fs_lald hC dL_law_1630 (by omega) h131 ?_
    refine fs_iload hC dL_law_1631 rfl ?_
    refine fs_i2l hC dL_law_1633 ?_
    refine fs_lcmpT hC dL_law_1634 (hf q) ?_
    refine fs_if_eq hC (tgt := 1640) dL_law_1635 (by decide) (by omega) (fun q => ?_) (fun q => absurd rfl q)
    refine fs_goto hC (tgt := 1670) dL_law_1640 (by decide) ?_
    exact fs_pick [2, 3, 4, 5, 6] rfl (kk _ hPL.li)
theorem lc_undo (hE : envOK Γ St) {adV : Nat → Nat} (hX : envX Γ St adV) (hl9 : l.stackTraces = false) (hLn : envL St) (hC : CF Γ St M_law R p s m args c) (hR : k + 1 ≤ R.cells ∧ sl + 6 ≤ R.slots) (hs : scr Γ s L xs) (hL9 : L ≤ 3072) {t : Nat} (ht : 6 * t + 6 ≤ L) (hI : LI h) (kk : ∀ u, LI u → (Fs Γ 132 p l e R s m args below meth c M_law.2.2.1 Q (k + 1) (sl + 6) 1670 (L0 t) [] u)) : Fs Γ 132 p l e R s m args below meth c M_law.2.2.1 Q k sl 1643 (L0 t) [] h := by
  obtain ⟨fs0, h0⟩ := hI.o0
  obtain ⟨Q5, c5, p5⟩ := op_undo hI
  refine fs_widen ?_
  refine fs_aload_n hC dL_law_1643 rfl ?_
  refine fs_cvi hE hX hl9 hC hR (As := []) dL_law_1644 lnM_X5_undo rfl rfl (Nat.le_of_ble_eq_true rfl) (by omega) h0 rfl (Or.inl rfl) c5 (fun r h1 hq => ?_)
  obtain ⟨b, fs6, Q6, e1, h112, c6, p6⟩ := p5 _ _ hq
  cases e1
  refine fs_aload_n hC dL_law_1647 rfl ?_
  refine fs_cvi hE hX hl9 hC hR (As := []) dL_law_1648 lnM_X6_undo rfl rfl (Nat.le_of_ble_eq_true rfl) (by omega) h112 rfl (Or.inl rfl) c6 (fun r2 u hq2 => ?_)
  obtain ⟨e2, hLI⟩ := p6 _ _ hq2
  cases e2
  refine fs_icmp_eqT hC (tgt := 1670) dL_law_1651 (by decide) rfl ?_
  exact kk _ hLI
theorem lc_checksum (hE : envOK Γ St) {adV : Nat → Nat} (hX : envX Γ St adV) (hl9 : l.stackTraces = false) (hLn : envL St) (hC : CF Γ St M_law R p s m args c) (hR : k + 1 ≤ R.cells ∧ sl + 6 ≤ R.slots) (hs : scr Γ s L xs) (hL9 : L ≤ 3072) {t : Nat} (ht : 6 * t + 6 ≤ L) (hI : LI h) (kk : ∀ u, LI u → (Fs Γ 132 p l e R s m args below meth c M_law.2.2.1 Q (k + 1) (sl + 6) 1670 (L0 t) [] u)) : Fs Γ 132 p l e R s m args below meth c M_law.2.2.1 Q k sl 1656 (L0 t) [] h := by
  obtain ⟨w, fs, fs6, Q6, h0, h112, c5, c6, p6⟩ := op_checksum (Γ := Γ) (St := St) hE hX hl9 hI
  refine fs_widen ?_
  refine fs_aload_n hC dL_law_1656 rfl ?_
  refine fs_cvl hE hC hR (As := []) dL_law_1657 lnM_X5_checksum rfl rfl (Nat.le_of_ble_eq_true rfl) (by omega) h0 rfl c5 (fun r h1 hq => ?_)
  obtain ⟨rfl, rfl⟩ := hq
  refine fs_aload_n hC dL_law_1660 rfl ?_
  refine fs_cvl hE hC hR (As := []) dL_law_1661 lnM_X6_checksum rfl rfl (Nat.le_of_ble_eq_true rfl) (by omega) h112 rfl c6 (fun r2 u hq2 => ?_)
  obtain ⟨e2, hLI⟩ := p6 _ _ hq2
  refine fs_lcmpT hC dL_law_1664 e2.symm ?_
  refine fs_if_eq hC (tgt := 1670) dL_law_1665 (by decide) (by omega) (fun q => ?_) (fun q => absurd rfl q)
  exact kk _ hLI
end LC
