/-! THE RANDOM KITE: mixes, colours, cloth and wood -/
theorem KI.mx {K : Nat → Nat} (hK : KI K) {i v : Nat} (hi : i < 49) (hv : v ≤ 6) : KI (upN K (25 + i) v) := by
  obtain ⟨⟨a1, a2, a3, a4, a5, a6, a7, a8⟩, b2, b3, b4, b5⟩ := id hK
  refine hK.of3 (fun j hj _ _ _ _ => up_ne (by omega)) ⟨?_, ?_, ?_, ?_⟩ (fun c hc => ?_) (fun j hj => ?_) (fun j h1 h2 => up_ne (by omega)) (fun p hp => ?_)
  · rw [up_ne (by omega)]; exact a5
  · rw [up_ne (by omega)]; exact a6
  · rw [up_ne (by omega)]; exact a7
  · rw [up_ne (by omega)]; exact a8
  · rw [up_ne (by omega)]; exact b3 c hc
  · unfold upN; split
    · exact hv
    · exact b4 j hj
  · have h9 := hK.2.2.2.2.2.2.2.2 p hp
    rw [up_ne (by omega), up_ne (by omega)]
    exact ⟨h9.1, h9.2.1, fun j hj => by rw [up_ne (by omega)]; exact h9.2.2 j hj⟩
section RV
variable {ad : Nat → Nat} {sc : Nat × (Nat → Int32)} {u : hp} {h : hg} {Q : qg} {k w m p cl : Nat} {ce : Nat → Nat} {K : Nat → Nat} {c sl : Nat}
variable {H : Nat → Nat → Nat} {d : Nat} {e : Int} {b r : Nat} {K0 : Nat → Nat}
theorem rk_432 {xs : List Int} {f1 f2 f3 f4 : Int} {x6 : Int32} (hB : Bn true u h b r k w m p cl ce K K0 H d e xs) (hR : RDs xs K f1 f2 f3 f4) (hk5 : K 5 = 0) (hsz : K 0 ≤ 7 ∧ K 1 ≤ 6) (hn : xs.length ≤ 310) (hc : 140 ≤ c) (hs : 1320 ≤ sl) : Gx ad sc M_L_randomKite 432 [.ref (ad 0), .ref b, .ref r, .ref k, uk, uk, .int x6, uk, uk, uk, uk, uk, uk] [] c sl u h (RKQ b r K0 H d) := by
  refine bx_aload_n dL_randomKite_432 rfl ?_
  refine bx_iconst dL_randomKite_433 ?_
  obtain ⟨sR2, hsR2⟩ := hB.rnd
  refine bx_cv1 dL_randomKite_434 ln_L_randomKite_117 (Nat.le_of_ble_eq_true rfl) (by decide) hsR2 rfl (Nat.zero_le _) (Nat.zero_le _) (kr_below hsR2 (b := 3) (by decide)) (fun v2 u2 h2 hq2 => ?_)
  obtain ⟨rfl, ⟨z2, hz2, rfl⟩, s12, hh2⟩ := hq2
  have F2 : FRM h h2 (fun x => x = r) := by rw [hh2]; exact FRM.u1 rfl
  have B2 := hB.rf F2 ⟨s12, by rw [hh2]; exact ug_eq⟩
  refine bx_istore dL_randomKite_437 rfl (by decide) rfl ?_
  exact rk_spars z2 u2 h2 K xs f4 _ _ B2 hR hk5 hsz (by omega) (by omega) (by omega)
theorem rk_mixes {f1 f2 f3 f4 : Int} : ∀ (n : Nat) (u : hp) (h : hg) (K : Nat → Nat) (xs : List Int) (c sl : Nat), Bn true u h b r k w m p cl ce K K0 H d e xs → RDs xs K f1 f2 f3 f4 → K 5 = 0 → K 0 ≤ 7 ∧ K 1 ≤ 6 → xs.length + 15 * n ≤ 310 → 140 + 2 * n ≤ c → 1320 + 6 * n ≤ sl → Gx ad sc M_L_randomKite 312 [.ref (ad 0), .ref b, .ref r, .ref k, uk, uk, .int (I (n : Int)), uk, uk, uk, uk, uk, uk] [] c sl u h (RKQ b r K0 H d) := by
  have l19 : (litL 19).length = 1 := by decide +kernel
  have l5 : (litL 5).length = 3 := by decide +kernel
  intro n
  induction n with
  | zero =>
    intro u h K xs c sl hB hR hk5 hsz hn hc hs
    refine bx_iload dL_randomKite_312 rfl ?_
    refine bx_if_le (tgt := 432) dL_randomKite_314 (by decide) (by omega) (fun c314 => ?_) (fun c314 => ?_)
    · exact rk_432 hB hR hk5 hsz (by omega) (by omega) (by omega)
    · exfalso
      omega
  | succ n ih =>
    intro u h K xs c sl hB hR hk5 hsz hn hc hs
    have hK := hR.ki
    refine bx_iload dL_randomKite_312 rfl ?_
    refine bx_if_le (tgt := 432) dL_randomKite_314 (by decide) (by omega) (fun c314 => ?_) (fun c314 => ?_)
    · exfalso
      omega
    · refine bx_iconst dL_randomKite_317 ?_
      refine bx_aload_n dL_randomKite_318 rfl ?_
      refine bx_bipush dL_randomKite_319 (by decide) ?_
      obtain ⟨sR2, hsR2⟩ := hB.rnd
      refine bx_cv1 dL_randomKite_321 ln_L_randomKite_117 (Nat.le_of_ble_eq_true rfl) (by decide) hsR2 rfl (Nat.zero_le _) (Nat.zero_le _) (kr_below hsR2 (b := 6) (by decide)) (fun v2 u2 h2 hq2 => ?_)
      obtain ⟨rfl, ⟨z2, hz2, rfl⟩, s12, hh2⟩ := hq2
      have F2 : FRM h h2 (fun x => x = r) := by rw [hh2]; exact FRM.u1 rfl
      have B2 := hB.rf F2 ⟨s12, by rw [hh2]; exact ug_eq⟩
      refine bx_iadd dL_randomKite_324 ?_
      rw [show (1 + (z2 : Int)) = ((1 + z2 : Nat) : Int) by omega]
      refine bx_istore dL_randomKite_325 rfl (by decide) rfl ?_
      refine bx_iconst dL_randomKite_327 ?_
      refine bx_aload_n dL_randomKite_328 rfl ?_
      refine bx_bipush dL_randomKite_329 (by decide) ?_
      obtain ⟨sR3, hsR3⟩ := B2.rnd
      refine bx_cv1 dL_randomKite_331 ln_L_randomKite_117 (Nat.le_of_ble_eq_true rfl) (by decide) hsR3 rfl (Nat.zero_le _) (Nat.zero_le _) (kr_below hsR3 (b := 6) (by decide)) (fun v3 u3 h3 hq3 => ?_)
      obtain ⟨rfl, ⟨z3, hz3, rfl⟩, s13, hh3⟩ := hq3
      have F3 : FRM h2 h3 (fun x => x = r) := by rw [hh3]; exact FRM.u1 rfl
      have B3 := B2.rf F3 ⟨s13, by rw [hh3]; exact ug_eq⟩
      refine bx_iadd dL_randomKite_334 ?_
      rw [show (1 + (z3 : Int)) = ((1 + z3 : Nat) : Int) by omega]
      refine bx_istore dL_randomKite_335 rfl (by decide) rfl ?_
      refine bx_iload dL_randomKite_337 rfl ?_
      refine bx_iload dL_randomKite_339 rfl ?_
      refine bx_icmp_eq (tgt := 426) dL_randomKite_341 (by decide) (by omega) (by omega) (fun q341 => ?_) (fun q341 => ?_)
      · refine bx_iinc dL_randomKite_426 rfl rfl (by decide) rfl ?_
        refine bx_goto (tgt := 312) dL_randomKite_429 (by decide) ?_
        first
          | (refine gx_forg (i := 7) ?_; refine gx_forg (i := 8) ?_; rw [show (((n + 1 : Nat) : Int) + -1) = (n : Int) by omega]; exact ih u3 h3 K xs _ _ B3 hR hk5 hsz (by omega) (by omega) (by omega))
          | (refine gx_forg (i := 7) ?_; refine gx_forg (i := 8) ?_; refine gx_forg (i := 9) ?_; rw [show (((n + 1 : Nat) : Int) + -1) = (n : Int) by omega]; exact ih u9 h9 _ _ _ _ B9 R9 (by show telM K (1 + z2) (1 + z3) (1 + z4) 5 = 0; unfold telM; rw [up_ne (by omega), up_ne (by omega)]; exact hk5) (by show telM K (1 + z2) (1 + z3) (1 + z4) 0 ≤ 7 ∧ telM K (1 + z2) (1 + z3) (1 + z4) 1 ≤ 6; unfold telM; rw [up_ne (by omega), up_ne (by omega), up_ne (by omega), up_ne (by omega)]; exact hsz) (by omega) (by omega) (by omega))
      · refine bx_aload_n dL_randomKite_344 rfl ?_
        refine bx_getf dL_randomKite_345 ck7 fg_KitePainterLaw_158 (by decide) B3.kf rfl ?_
        refine bx_iload dL_randomKite_348 rfl ?_
        refine bx_aals (j := 1 + z2) (q := m + 1 + (1 + z2)) dL_randomKite_350 B3.mr (by decide) rfl (by omega) (by omega) rfl ?_
        refine bx_iload dL_randomKite_351 rfl ?_
        refine bx_ialr (j := 1 + z3) (w := (K (25 + ((1 + z2) * 7 + (1 + z3))) : Int)) dL_randomKite_353 (B3.mx (by omega)) rfl (by omega) (by omega) rfl ?_
        have hmb := hK.2.2.2.1 ((1 + z2) * 7 + (1 + z3)) (by omega)
        refine bx_if_le (tgt := 360) dL_randomKite_354 (by decide) (by omega) (fun q354 => ?_) (fun q354 => ?_)
        · refine bx_iconst dL_randomKite_360 ?_
          refine bx_aload_n dL_randomKite_361 rfl ?_
          refine bx_bipush dL_randomKite_362 (by decide) ?_
          obtain ⟨sR4, hsR4⟩ := B3.rnd
          refine bx_cv1 dL_randomKite_364 ln_L_randomKite_117 (Nat.le_of_ble_eq_true rfl) (by decide) hsR4 rfl (Nat.zero_le _) (Nat.zero_le _) (kr_below hsR4 (b := 6) (by decide)) (fun v4 u4 h4 hq4 => ?_)
          obtain ⟨rfl, ⟨z4, hz4, rfl⟩, s14, hh4⟩ := hq4
          have F4 : FRM h3 h4 (fun x => x = r) := by rw [hh4]; exact FRM.u1 rfl
          have B4 := B3.rf F4 ⟨s14, by rw [hh4]; exact ug_eq⟩
          refine bx_iadd dL_randomKite_367 ?_
          rw [show (1 + (z4 : Int)) = ((1 + z4 : Nat) : Int) by omega]
          refine bx_istore dL_randomKite_368 rfl (by decide) rfl ?_
          refine bx_aload_n dL_randomKite_370 rfl ?_
          refine bx_getf dL_randomKite_371 ck7 fg_KitePainterLaw_158 (by decide) B4.kf rfl ?_
          refine bx_iload dL_randomKite_374 rfl ?_
          refine bx_aals (j := 1 + z2) (q := m + 1 + (1 + z2)) dL_randomKite_376 B4.mr (by decide) rfl (by omega) (by omega) rfl ?_
          refine bx_iload dL_randomKite_377 rfl ?_
          refine bx_iload dL_randomKite_379 rfl ?_
          refine bx_iasr (j := 1 + z3) dL_randomKite_381 (B4.mx (by omega)) rfl (by omega) (by omega) (fun e381 he381 => ?_)
          refine gx_gen (fun g5 q5 => ?_)
          have B5 := B4.mt hK (a := 1 + z2) (c := 1 + z3) (v := 1 + z4) (by omega) (by omega) he381
          rw [← q5] at B5
          have hK5 := hK.mx (i := (1 + z2) * 7 + (1 + z3)) (v := 1 + z4) (by omega) (by omega)
          refine bx_aload_n dL_randomKite_382 rfl ?_
          refine bx_getf dL_randomKite_383 ck7 fg_KitePainterLaw_158 (by decide) B5.kf rfl ?_
          refine bx_iload dL_randomKite_386 rfl ?_
          refine bx_aals (j := 1 + z3) (q := m + 1 + (1 + z3)) dL_randomKite_388 B5.mr (by decide) rfl (by omega) (by omega) rfl ?_
          refine bx_iload dL_randomKite_389 rfl ?_
          refine bx_iload dL_randomKite_391 rfl ?_
          refine bx_iasr (j := 1 + z2) dL_randomKite_393 (B5.mx (by omega)) rfl (by omega) (by omega) (fun e393 he393 => ?_)
          refine gx_gen (fun g6 q6 => ?_)
          have B6 := B5.mt hK5 (a := 1 + z3) (c := 1 + z2) (v := 1 + z4) (by omega) (by omega) he393
          rw [← q6] at B6
          refine bx_aload_n dL_randomKite_394 rfl ?_
          refine bx_aload_n dL_randomKite_395 rfl ?_
          refine gx_ldcS (j := 5) (tx := "mix") (by decide) dL_randomKite_396 ?_
          refine bx_iconst dL_randomKite_398 ?_
          refine bx_newa (N := 3) dL_randomKite_399 (Or.inl ⟨rfl, rfl⟩) rfl (by omega) (by omega) (by omega) (fun a7 ea7 ha7 hea7 => ?_)
          refine bx_dup dL_randomKite_401 rfl ?_
          refine bx_iconst dL_randomKite_402 ?_
          refine bx_iload dL_randomKite_403 rfl ?_
          refine bx_iasr (j := 0) dL_randomKite_405 (hea7.mv ug_eq) rfl (by decide) (by omega) (fun e405 he405 => ?_)
          rw [up_up]
          refine bx_dup dL_randomKite_406 rfl ?_
          refine bx_iconst dL_randomKite_407 ?_
          refine bx_iload dL_randomKite_408 rfl ?_
          refine bx_iasr (j := 1) dL_randomKite_410 (he405.mv ug_eq) rfl (by decide) (by omega) (fun e410 he410 => ?_)
          rw [up_up]
          refine bx_dup dL_randomKite_411 rfl ?_
          refine bx_iconst dL_randomKite_412 ?_
          refine bx_iload dL_randomKite_413 rfl ?_
          refine bx_iasr (j := 2) dL_randomKite_415 (he410.mv ug_eq) rfl (by decide) (by omega) (fun e415 he415 => ?_)
          rw [up_up]
          refine gx_gen (fun g7 q7 => ?_)
          have F7 : FRM g6 g7 (fun _ => False) := by rw [q7]; exact FRM.new ha7
          have A7 := a3x (he415.mv (show g7 a7 = some e415 by rw [q7]; exact ug_eq))
          have B7 := B6.n F7
          have nb7 : a7 ≠ b := (B6.bf.kn.ne ha7).symm
          have hf9 : ∀ i, i < 3 → f3x (1 + z2) (1 + z3) (1 + z4) i < 100 := fun i hi => by unfold f3x; split <;> (try split) <;> omega
          refine bx_csv4 dL_randomKite_416 ln_L_randomKite_131 (Nat.le_of_ble_eq_true rfl) rfl (Nat.zero_le _) (Nat.zero_le _) (kw_all (j := 5) (by decide) A7 (by decide) nb7 hf9 B7.wb (by rw [l5]; omega)) (fun u8 h8 hq8 => ?_)
          obtain ⟨-, hW8, hF8⟩ := hq8
          have B8 := B7.wt hW8 hF8
          refine bx_aload_n dL_randomKite_419 rfl ?_
          refine bx_aload_n dL_randomKite_420 rfl ?_
          refine gx_ldcS (j := 19) (tx := ";") (by decide) dL_randomKite_421 ?_
          refine bx_csv3 dL_randomKite_423 ln_L_randomKite_105 (Nat.le_of_ble_eq_true rfl) rfl (Nat.zero_le _) (Nat.zero_le _) (kw_lit (j := 19) (by decide) B8.wb (by have := num_len (f := f3x (1 + z2) (1 + z3) (1 + z4)) (n := 3); rw [List.length_append, List.length_append, l5, l19]; omega)) (fun u9 h9 hq9 => ?_)
          obtain ⟨-, hW9, hF9⟩ := hq9
          have B9 := B8.wt hW9 hF9
          rw [sm_eq] at B9
          have R9 := rd_mix hR (f := f3x (1 + z2) (1 + z3) (1 + z4)) (show 1 ≤ 1 + z2 ∧ 1 + z2 ≤ 6 by omega) (show 1 ≤ 1 + z3 ∧ 1 + z3 ≤ 6 by omega) (show 1 ≤ 1 + z4 ∧ 1 + z4 ≤ 6 by omega) (show 1 + z2 ≠ 1 + z3 by omega) (show K (25 + ((1 + z2) * 7 + (1 + z3))) = 0 by omega)
          have el := sm_len (j := 5) (f := f3x (1 + z2) (1 + z3) (1 + z4)) (N := 3)
          rw [l5] at el
          have el2 : (xs ++ smL 5 (f3x (1 + z2) (1 + z3) (1 + z4)) 3).length ≤ xs.length + 13 := by rw [List.length_append]; omega
          refine bx_iinc dL_randomKite_426 rfl rfl (by decide) rfl ?_
          refine bx_goto (tgt := 312) dL_randomKite_429 (by decide) ?_
          first
            | (refine gx_forg (i := 7) ?_; refine gx_forg (i := 8) ?_; rw [show (((n + 1 : Nat) : Int) + -1) = (n : Int) by omega]; exact ih u3 h3 K xs _ _ B3 hR hk5 hsz (by omega) (by omega) (by omega))
            | (refine gx_forg (i := 7) ?_; refine gx_forg (i := 8) ?_; refine gx_forg (i := 9) ?_; rw [show (((n + 1 : Nat) : Int) + -1) = (n : Int) by omega]; exact ih u9 h9 _ _ _ _ B9 R9 (by show telM K (1 + z2) (1 + z3) (1 + z4) 5 = 0; unfold telM; rw [up_ne (by omega), up_ne (by omega)]; exact hk5) (by show telM K (1 + z2) (1 + z3) (1 + z4) 0 ≤ 7 ∧ telM K (1 + z2) (1 + z3) (1 + z4) 1 ≤ 6; unfold telM; rw [up_ne (by omega), up_ne (by omega), up_ne (by omega), up_ne (by omega)]; exact hsz) (by omega) (by omega) (by omega))
        · refine bx_goto (tgt := 426) dL_randomKite_357 (by decide) ?_
          refine bx_iinc dL_randomKite_426 rfl rfl (by decide) rfl ?_
          refine bx_goto (tgt := 312) dL_randomKite_429 (by decide) ?_
          first
            | (refine gx_forg (i := 7) ?_; refine gx_forg (i := 8) ?_; rw [show (((n + 1 : Nat) : Int) + -1) = (n : Int) by omega]; exact ih u3 h3 K xs _ _ B3 hR hk5 hsz (by omega) (by omega) (by omega))
            | (refine gx_forg (i := 7) ?_; refine gx_forg (i := 8) ?_; refine gx_forg (i := 9) ?_; rw [show (((n + 1 : Nat) : Int) + -1) = (n : Int) by omega]; exact ih u9 h9 _ _ _ _ B9 R9 (by show telM K (1 + z2) (1 + z3) (1 + z4) 5 = 0; unfold telM; rw [up_ne (by omega), up_ne (by omega)]; exact hk5) (by show telM K (1 + z2) (1 + z3) (1 + z4) 0 ≤ 7 ∧ telM K (1 + z2) (1 + z3) (1 + z4) 1 ≤ 6; unfold telM; rw [up_ne (by omega), up_ne (by omega), up_ne (by omega), up_ne (by omega)]; exact hsz) (by omega) (by omega) (by omega))
theorem rk_305 {xs : List Int} {f1 f2 f3 f4 : Int} {x6 : Int32} (hB : Bn true u h b r k w m p cl ce K K0 H d e xs) (hR : RDs xs K f1 f2 f3 f4) (hk5 : K 5 = 0) (hsz : K 0 ≤ 7 ∧ K 1 ≤ 6) (hn : xs.length ≤ 240) (hc : 150 ≤ c) (hs : 1350 ≤ sl) : Gx ad sc M_L_randomKite 305 [.ref (ad 0), .ref b, .ref r, .ref k, uk, uk, .int x6, uk, uk, uk, uk, uk, uk] [] c sl u h (RKQ b r K0 H d) := by
  refine bx_aload_n dL_randomKite_305 rfl ?_
  refine bx_iconst dL_randomKite_306 ?_
  obtain ⟨sR2, hsR2⟩ := hB.rnd
  refine bx_cv1 dL_randomKite_307 ln_L_randomKite_117 (Nat.le_of_ble_eq_true rfl) (by decide) hsR2 rfl (Nat.zero_le _) (Nat.zero_le _) (kr_below hsR2 (b := 5) (by decide)) (fun v2 u2 h2 hq2 => ?_)
  obtain ⟨rfl, ⟨z2, hz2, rfl⟩, s12, hh2⟩ := hq2
  have F2 : FRM h h2 (fun x => x = r) := by rw [hh2]; exact FRM.u1 rfl
  have B2 := hB.rf F2 ⟨s12, by rw [hh2]; exact ug_eq⟩
  refine bx_istore dL_randomKite_310 rfl (by decide) rfl ?_
  exact rk_mixes z2 u2 h2 K xs _ _ B2 hR hk5 hsz (by omega) (by omega) (by omega)
theorem rk_cols {f1 f2 f3 f4 : Int} : ∀ (n q : Nat) (u : hp) (h : hg) (K : Nat → Nat) (xs : List Int) (c sl : Nat), q + n = 7 → 1 ≤ q → Bn true u h b r k w m p cl ce K K0 H d e xs → RDs xs K f1 f2 f3 f4 → K 5 = 0 → K 0 ≤ 7 ∧ K 1 ≤ 6 → xs.length + 15 * n ≤ 240 → 150 + 2 * n ≤ c → 1350 + 6 * n ≤ sl → Gx ad sc M_L_randomKite 236 [.ref (ad 0), .ref b, .ref r, .ref k, uk, uk, .int (I (q : Int)), uk, uk, uk, uk, uk, uk] [] c sl u h (RKQ b r K0 H d) := by
  have l19 : (litL 19).length = 1 := by decide +kernel
  have l4 : (litL 4).length = 6 := by decide +kernel
  intro n
  induction n with
  | zero =>
    intro q u h K xs c sl hq hq1 hB hR hk5 hsz hn hc hs
    refine bx_iload dL_randomKite_236 rfl ?_
    refine bx_bipush dL_randomKite_238 (by decide) ?_
    refine bx_icmp_ge (tgt := 305) dL_randomKite_240 (by decide) (by omega) (by omega) (fun c240 => ?_) (fun c240 => ?_)
    · exact rk_305 hB hR hk5 hsz (by omega) (by omega) (by omega)
    · exfalso
      omega
  | succ n ih =>
    intro q u h K xs c sl hq hq1 hB hR hk5 hsz hn hc hs
    have hK := hR.ki
    refine bx_iload dL_randomKite_236 rfl ?_
    refine bx_bipush dL_randomKite_238 (by decide) ?_
    refine bx_icmp_ge (tgt := 305) dL_randomKite_240 (by decide) (by omega) (by omega) (fun c240 => ?_) (fun c240 => ?_)
    · exfalso
      omega
    · refine bx_aload_n dL_randomKite_243 rfl ?_
      refine bx_iconst dL_randomKite_244 ?_
      obtain ⟨sR2, hsR2⟩ := hB.rnd
      refine bx_cv1 dL_randomKite_245 ln_L_randomKite_117 (Nat.le_of_ble_eq_true rfl) (by decide) hsR2 rfl (Nat.zero_le _) (Nat.zero_le _) (kr_below hsR2 (b := 2) (by decide)) (fun v2 u2 h2 hq2 => ?_)
      obtain ⟨rfl, ⟨z2, hz2, rfl⟩, s12, hh2⟩ := hq2
      have F2 : FRM h h2 (fun x => x = r) := by rw [hh2]; exact FRM.u1 rfl
      have B2 := hB.rf F2 ⟨s12, by rw [hh2]; exact ug_eq⟩
      refine bx_if_ne (tgt := 254) dL_randomKite_248 (by decide) (by omega) (fun q248 => ?_) (fun q248 => ?_)
      · refine bx_aload_n dL_randomKite_254 rfl ?_
        refine bx_getf dL_randomKite_255 ck7 fg_KitePainterLaw_152 (by decide) B2.kf rfl ?_
        refine bx_iload dL_randomKite_258 rfl ?_
        refine bx_aload_n dL_randomKite_260 rfl ?_
        refine bx_bipush dL_randomKite_261 (by decide) ?_
        obtain ⟨sR3, hsR3⟩ := B2.rnd
        refine bx_cv1 dL_randomKite_263 ln_L_randomKite_117 (Nat.le_of_ble_eq_true rfl) (by decide) hsR3 rfl (Nat.zero_le _) (Nat.zero_le _) (kr_below hsR3 (b := 20) (by decide)) (fun v3 u3 h3 hq3 => ?_)
        obtain ⟨rfl, ⟨z3, hz3, rfl⟩, s13, hh3⟩ := hq3
        have F3 : FRM h2 h3 (fun x => x = r) := by rw [hh3]; exact FRM.u1 rfl
        have B3 := B2.rf F3 ⟨s13, by rw [hh3]; exact ug_eq⟩
        refine bx_iasr (j := q) dL_randomKite_266 B3.wr rfl (by omega) (by omega) (fun e266 he266 => ?_)
        refine gx_gen (fun g4 q4 => ?_)
        have B4 := B3.wg hK (c := q) (v := z3) (by omega) he266
        rw [← q4] at B4
        refine bx_aload_n dL_randomKite_267 rfl ?_
        refine bx_aload_n dL_randomKite_268 rfl ?_
        refine gx_ldcS (j := 4) (tx := "colour") (by decide) dL_randomKite_269 ?_
        refine bx_iconst dL_randomKite_271 ?_
        refine bx_newa (N := 2) dL_randomKite_272 (Or.inl ⟨rfl, rfl⟩) rfl (by omega) (by omega) (by omega) (fun a5 ea5 ha5 hea5 => ?_)
        refine bx_dup dL_randomKite_274 rfl ?_
        refine bx_iconst dL_randomKite_275 ?_
        refine bx_iload dL_randomKite_276 rfl ?_
        refine bx_iasr (j := 0) dL_randomKite_278 (hea5.mv ug_eq) rfl (by decide) (by omega) (fun e278 he278 => ?_)
        rw [up_up]
        refine bx_dup dL_randomKite_279 rfl ?_
        refine bx_iconst dL_randomKite_280 ?_
        refine bx_aload_n dL_randomKite_281 rfl ?_
        refine bx_getf dL_randomKite_282 ck7 fg_KitePainterLaw_152 (by decide) ((ug_ne (KN.ne ⟨_, B4.kf⟩ ha5)).trans B4.kf) rfl ?_
        refine bx_iload dL_randomKite_285 rfl ?_
        refine bx_ialr (j := q) (w := (z3 : Int)) dL_randomKite_287 (B4.wr.mv (ug_ne (B4.wr.kn.ne ha5))) rfl (by omega) (by omega) (by rw [up_same]) ?_
        refine bx_iasr (j := 1) dL_randomKite_288 (he278.mv ug_eq) rfl (by decide) (by omega) (fun e288 he288 => ?_)
        rw [up_up]
        refine gx_gen (fun g5 q5 => ?_)
        have F5 : FRM g4 g5 (fun _ => False) := by rw [q5]; exact FRM.new ha5
        have A5 := a2x (he288.mv (show g5 a5 = some e288 by rw [q5]; exact ug_eq))
        have B5 := B4.n F5
        have nb5 : a5 ≠ b := (B4.bf.kn.ne ha5).symm
        have hf9 : ∀ i, i < 2 → f2x q z3 i < 100 := fun i hi => by unfold f2x; split <;> omega
        refine bx_csv4 dL_randomKite_289 ln_L_randomKite_131 (Nat.le_of_ble_eq_true rfl) rfl (Nat.zero_le _) (Nat.zero_le _) (kw_all (j := 4) (by decide) A5 (by decide) nb5 hf9 B5.wb (by rw [l4]; omega)) (fun u8 h8 hq8 => ?_)
        obtain ⟨-, hW8, hF8⟩ := hq8
        have B8 := B5.wt hW8 hF8
        refine bx_aload_n dL_randomKite_292 rfl ?_
        refine bx_aload_n dL_randomKite_293 rfl ?_
        refine gx_ldcS (j := 19) (tx := ";") (by decide) dL_randomKite_294 ?_
        refine bx_csv3 dL_randomKite_296 ln_L_randomKite_105 (Nat.le_of_ble_eq_true rfl) rfl (Nat.zero_le _) (Nat.zero_le _) (kw_lit (j := 19) (by decide) B8.wb (by have := num_len (f := f2x q z3) (n := 2); rw [List.length_append, List.length_append, l4, l19]; omega)) (fun u9 h9 hq9 => ?_)
        obtain ⟨-, hW9, hF9⟩ := hq9
        have B9 := B8.wt hW9 hF9
        rw [sm_eq] at B9
        have R9 := rd_colour hR (f := f2x q z3) (show 1 ≤ q ∧ q ≤ 6 by omega) (show z3 ≤ 99 by omega)
        have el := sm_len (j := 4) (f := f2x q z3) (N := 2)
        rw [l4] at el
        have el2 : (xs ++ smL 4 (f2x q z3) 2).length ≤ xs.length + 13 := by rw [List.length_append]; omega
        refine bx_iinc dL_randomKite_299 rfl rfl (by decide) rfl ?_
        refine bx_goto (tgt := 236) dL_randomKite_302 (by decide) ?_
        first
          | exact ih (q + 1) u2 h2 K xs _ _ (by omega) (by omega) B2 hR hk5 hsz (by omega) (by omega) (by omega)
          | exact ih (q + 1) u9 h9 _ _ _ _ (by omega) (by omega) B9 R9 (by show upN K (18 + q) z3 5 = 0; rw [up_ne (by omega)]; exact hk5) (by show upN K (18 + q) z3 0 ≤ 7 ∧ upN K (18 + q) z3 1 ≤ 6; rw [up_ne (by omega), up_ne (by omega)]; exact hsz) (by omega) (by omega) (by omega)
      · refine bx_goto (tgt := 299) dL_randomKite_251 (by decide) ?_
        refine bx_iinc dL_randomKite_299 rfl rfl (by decide) rfl ?_
        refine bx_goto (tgt := 236) dL_randomKite_302 (by decide) ?_
        first
          | exact ih (q + 1) u2 h2 K xs _ _ (by omega) (by omega) B2 hR hk5 hsz (by omega) (by omega) (by omega)
          | exact ih (q + 1) u9 h9 _ _ _ _ (by omega) (by omega) B9 R9 (by show upN K (18 + q) z3 5 = 0; rw [up_ne (by omega)]; exact hk5) (by show upN K (18 + q) z3 0 ≤ 7 ∧ upN K (18 + q) z3 1 ≤ 6; rw [up_ne (by omega), up_ne (by omega)]; exact hsz) (by omega) (by omega) (by omega)
theorem rk_233 {xs : List Int} {f1 f2 f3 f4 : Int} {x6 : Value} (hx6 : c1 [.ref (ad 0), .ref b, .ref r, .ref k, uk, uk, x6, uk, uk, uk, uk, uk, uk] 6 = true) (hB : Bn true u h b r k w m p cl ce K K0 H d e xs) (hR : RDs xs K f1 f2 f3 f4) (hk5 : K 5 = 0) (hsz : K 0 ≤ 7 ∧ K 1 ≤ 6) (hn : xs.length ≤ 130) (hc : 170 ≤ c) (hs : 1400 ≤ sl) : Gx ad sc M_L_randomKite 233 [.ref (ad 0), .ref b, .ref r, .ref k, uk, uk, x6, uk, uk, uk, uk, uk, uk] [] c sl u h (RKQ b r K0 H d) := by
  refine bx_iconst dL_randomKite_233 ?_
  refine bx_istore dL_randomKite_234 rfl (by decide) rfl ?_
  exact rk_cols 6 1 u h K xs _ _ (by omega) (by omega) hB hR hk5 hsz (by omega) (by omega) (by omega)
theorem rk_164 {xs : List Int} {f1 f4 : Int} (hB : Bn true u h b r k w m p cl ce K K0 H d e xs) (hR : RDs xs K f1 0 0 f4) (hk5 : K 5 = 0) (hsz : K 0 ≤ 7 ∧ K 1 ≤ 6) (hn : xs.length ≤ 90) (hc : 180 ≤ c) (hs : 1420 ≤ sl) : Gx ad sc M_L_randomKite 164 [.ref (ad 0), .ref b, .ref r, .ref k, uk, uk, uk, uk, uk, uk, uk, uk, uk] [] c sl u h (RKQ b r K0 H d) := by
  have l19 : (litL 19).length = 1 := by decide +kernel
  have l2 : (litL 2).length = 5 := by decide +kernel
  have l20 : (litL 20).length = 5 := by decide +kernel
  have l3 : (litL 3).length = 4 := by decide +kernel
  have hK := hR.ki
  refine bx_aload_n dL_randomKite_164 rfl ?_
  refine bx_iconst dL_randomKite_165 ?_
  obtain ⟨sR2, hsR2⟩ := hB.rnd
  refine bx_cv1 dL_randomKite_166 ln_L_randomKite_117 (Nat.le_of_ble_eq_true rfl) (by decide) hsR2 rfl (Nat.zero_le _) (Nat.zero_le _) (kr_below hsR2 (b := 2) (by decide)) (fun v2 u2 h2 hq2 => ?_)
  obtain ⟨rfl, ⟨z2, hz2, rfl⟩, s12, hh2⟩ := hq2
  have F2 : FRM h h2 (fun x => x = r) := by rw [hh2]; exact FRM.u1 rfl
  have B2 := hB.rf F2 ⟨s12, by rw [hh2]; exact ug_eq⟩
  refine bx_if_ne (tgt := 233) dL_randomKite_169 (by decide) (by omega) (fun q169 => ?_) (fun q169 => ?_)
  · exact rk_233 (x6 := uk) rfl B2 hR hk5 hsz (by omega) (by omega) (by omega)
  · refine bx_aload_n dL_randomKite_172 rfl ?_
    refine bx_aload_n dL_randomKite_173 rfl ?_
    refine bx_bipush dL_randomKite_174 (by decide) ?_
    obtain ⟨sR3, hsR3⟩ := B2.rnd
    refine bx_cv1 dL_randomKite_176 ln_L_randomKite_117 (Nat.le_of_ble_eq_true rfl) (by decide) hsR3 rfl (Nat.zero_le _) (Nat.zero_le _) (kr_below hsR3 (b := 100) (by decide)) (fun v3 u3 h3 hq3 => ?_)
    obtain ⟨rfl, ⟨z3, hz3, rfl⟩, s13, hh3⟩ := hq3
    have F3 : FRM h2 h3 (fun x => x = r) := by rw [hh3]; exact FRM.u1 rfl
    have B3 := B2.rf F3 ⟨s13, by rw [hh3]; exact ug_eq⟩
    refine bx_putf dL_randomKite_179 ck7 fg_KitePainterLaw_143 (by decide) B3.kf rfl ⟨rfl, rfl⟩ (Nat.le_of_ble_eq_true rfl) rfl ?_
    refine gx_gen (fun g4 q4 => ?_)
    have B4 : Bn true u3 g4 b r k w m p cl ce (upN K 3 z3) K0 H d e xs := by
      rw [q4]
      exact B3.kw hK (fun j h3 h4 => up_ne h3) rfl
    have hK4 : KI (upN K 3 z3) := by
      obtain ⟨⟨a1, a2, a3, a4, a5, a6, a7, a8⟩, b2, b3, b4, b5⟩ := id hK
      exact hK.of3 (fun j hj _ h3 _ _ => up_ne h3) ⟨by rw [up_same]; omega, by rw [up_ne (by omega)]; exact a6, by rw [up_ne (by omega)]; exact a7, by rw [up_ne (by omega)]; exact a8⟩ (fun c hc => by rw [up_ne (by omega)]; exact b3 c hc) (fun j hj => by rw [up_ne (by omega)]; exact b4 j hj) (fun j h1 h2 => up_ne (by omega)) (fun p hp => by have h9 := hK.2.2.2.2.2.2.2.2 p hp; rw [up_ne (by omega), up_ne (by omega)]; exact ⟨h9.1, h9.2.1, fun j hj => by rw [up_ne (by omega)]; exact h9.2.2 j hj⟩)
    refine bx_aload_n dL_randomKite_182 rfl ?_
    refine bx_aload_n dL_randomKite_183 rfl ?_
    refine bx_bipush dL_randomKite_184 (by decide) ?_
    obtain ⟨sR5, hsR5⟩ := B4.rnd
    refine bx_cv1 dL_randomKite_186 ln_L_randomKite_117 (Nat.le_of_ble_eq_true rfl) (by decide) hsR5 rfl (Nat.zero_le _) (Nat.zero_le _) (kr_below hsR5 (b := 100) (by decide)) (fun v5 u5 h5 hq5 => ?_)
    obtain ⟨rfl, ⟨z5, hz5, rfl⟩, s15, hh5⟩ := hq5
    have F5 : FRM g4 h5 (fun x => x = r) := by rw [hh5]; exact FRM.u1 rfl
    have B5 := B4.rf F5 ⟨s15, by rw [hh5]; exact ug_eq⟩
    refine bx_putf dL_randomKite_189 ck7 fg_KitePainterLaw_146 (by decide) B5.kf rfl ⟨rfl, rfl⟩ (Nat.le_of_ble_eq_true rfl) rfl ?_
    refine gx_gen (fun g6 q6 => ?_)
    have B6 : Bn true u5 g6 b r k w m p cl ce (upN (upN K 3 z3) 4 z5) K0 H d e xs := by
      rw [q6]
      exact B5.kw hK4 (fun j h3 h4 => up_ne h4) rfl
    refine bx_aload_n dL_randomKite_192 rfl ?_
    refine bx_aload_n dL_randomKite_193 rfl ?_
    refine gx_ldcS (j := 2) (tx := "cloth") (by decide) dL_randomKite_194 ?_
    refine bx_iconst dL_randomKite_196 ?_
    refine bx_newa (N := 1) dL_randomKite_197 (Or.inl ⟨rfl, rfl⟩) rfl (by omega) (by omega) (by omega) (fun a7 ea7 ha7 hea7 => ?_)
    refine bx_dup dL_randomKite_199 rfl ?_
    refine bx_iconst dL_randomKite_200 ?_
    refine bx_aload_n dL_randomKite_201 rfl ?_
    refine bx_getf dL_randomKite_202 ck7 fg_KitePainterLaw_143 (by decide) ((ug_ne (KN.ne ⟨_, B6.kf⟩ ha7)).trans B6.kf) rfl ?_
    refine bx_iasr (j := 0) dL_randomKite_205 (hea7.mv ug_eq) rfl (by decide) (by omega) (fun e205 he205 => ?_)
    rw [up_up]
    refine gx_gen (fun g7 q7 => ?_)
    have F7 : FRM g6 g7 (fun _ => False) := by rw [q7]; exact FRM.new ha7
    have A7 : rwI 0 (g7 a7) 1 (fun i => (f1x z3 i : Int)) := a1x (he205.mv (show g7 a7 = some e205 by rw [q7]; exact ug_eq))
    have B7 := B6.n F7
    have nb7 : a7 ≠ b := (B6.bf.kn.ne ha7).symm
    refine bx_csv4 dL_randomKite_206 ln_L_randomKite_131 (Nat.le_of_ble_eq_true rfl) rfl (Nat.zero_le _) (Nat.zero_le _) (kw_all (j := 2) (by decide) A7 (by decide) nb7 (fun i hi => by show z3 < 100; omega) B7.wb (by rw [l2]; omega)) (fun u8 h8 hq8 => ?_)
    obtain ⟨-, hW8, hF8⟩ := hq8
    have B8 := B7.wt hW8 hF8
    have n1 := num_len (f := f1x z3) (n := 1)
    refine bx_aload_n dL_randomKite_209 rfl ?_
    refine bx_aload_n dL_randomKite_210 rfl ?_
    refine gx_ldcS (j := 20) (tx := ";wood") (by decide) dL_randomKite_211 ?_
    refine bx_iconst dL_randomKite_213 ?_
    refine bx_newa (N := 1) dL_randomKite_214 (Or.inl ⟨rfl, rfl⟩) rfl (by omega) (by omega) (by omega) (fun a9 ea9 ha9 hea9 => ?_)
    refine bx_dup dL_randomKite_216 rfl ?_
    refine bx_iconst dL_randomKite_217 ?_
    refine bx_aload_n dL_randomKite_218 rfl ?_
    refine bx_getf dL_randomKite_219 ck7 fg_KitePainterLaw_146 (by decide) ((ug_ne (KN.ne ⟨_, B8.kf⟩ ha9)).trans B8.kf) rfl ?_
    refine bx_iasr (j := 0) dL_randomKite_222 (hea9.mv ug_eq) rfl (by decide) (by omega) (fun e222 he222 => ?_)
    rw [up_up]
    refine gx_gen (fun g9 q9 => ?_)
    have F9 : FRM h8 g9 (fun _ => False) := by rw [q9]; exact FRM.new ha9
    have A9 : rwI 0 (g9 a9) 1 (fun i => (f1x z5 i : Int)) := a1x (he222.mv (show g9 a9 = some e222 by rw [q9]; exact ug_eq))
    have B9 := B8.n F9
    have nb9 : a9 ≠ b := (B8.bf.kn.ne ha9).symm
    refine bx_csv4 dL_randomKite_223 ln_L_randomKite_131 (Nat.le_of_ble_eq_true rfl) rfl (Nat.zero_le _) (Nat.zero_le _) (kw_all (j := 20) (by decide) A9 (by decide) nb9 (fun i hi => by show z5 < 100; omega) B9.wb (by rw [List.length_append, List.length_append, l2, l20]; omega)) (fun u10 h10 hq10 => ?_)
    obtain ⟨-, hW10, hF10⟩ := hq10
    have B10 := B9.wt hW10 hF10
    have n2 := num_len (f := f1x z5) (n := 1)
    refine bx_aload_n dL_randomKite_226 rfl ?_
    refine bx_aload_n dL_randomKite_227 rfl ?_
    refine gx_ldcS (j := 19) (tx := ";") (by decide) dL_randomKite_228 ?_
    refine bx_csv3 dL_randomKite_230 ln_L_randomKite_105 (Nat.le_of_ble_eq_true rfl) rfl (Nat.zero_le _) (Nat.zero_le _) (kw_lit (j := 19) (by decide) B10.wb (by rw [List.length_append, List.length_append, List.length_append, List.length_append, l2, l20, l19]; omega)) (fun u11 h11 hq11 => ?_)
    obtain ⟨-, hW11, hF11⟩ := hq11
    have B11 := B10.wt hW11 hF11
    have et : ((xs ++ (litL 2 ++ numL (f1x z3) 1)) ++ (litL 20 ++ numL (f1x z5) 1)) ++ litL 19 = (xs ++ smL 2 (f1x z3) 1) ++ smL 3 (f1x z5) 1 := by
      rw [lit20, lit19]
      unfold smL
      simp only [List.append_assoc, List.cons_append, List.nil_append]
    rw [et] at B11
    have R8 := rd_cloth hR (f := f1x z3) (by decide) (show z3 ≤ 99 by omega)
    have R9 := rd_wood R8 (f := f1x z5) (by decide) (show z5 ≤ 99 by omega)
    have el := sm_len (j := 2) (f := f1x z3) (N := 1)
    have el3 := sm_len (j := 3) (f := f1x z5) (N := 1)
    rw [l2] at el
    rw [l3] at el3
    exact rk_233 (x6 := uk) rfl B11 R9 (by show upN (upN K 3 z3) 4 z5 5 = 0; rw [up_ne (by omega), up_ne (by omega)]; exact hk5) (by show upN (upN K 3 z3) 4 z5 0 ≤ 7 ∧ upN (upN K 3 z3) 4 z5 1 ≤ 6; rw [up_ne (by omega), up_ne (by omega), up_ne (by omega), up_ne (by omega)]; exact hsz) (by rw [List.length_append, List.length_append]; omega) (by omega) (by omega)
end RV
