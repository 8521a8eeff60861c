/-! THE LAW: paint -/
theorem cn_L_101 {M : mt} (h : M.1.cls = "KitePainterLaw") : Cond.constant M.1.cls 101 (I (-2000000099)) ∈ gT := by
  rw [h]
  exact gT_mem 1014 (by decide +kernel) (by decide +kernel)
section LP
variable {ad : Nat → Nat} {sc : Nat × (Nat → Int32)} {u : hp} {h : hg} {Q : qg} {b r B n8 t k k2 w m p cl c sl : Nat} {ce : Nat → Nat} {K K0 : Nat → Nat} {H : Nat → Nat → Nat}
variable {x y : Nat}
theorem lc_paint_on (hZ : LZ u K H (min (n8 + 1) 8)) (hC : KC h r B n8 k k2 w m p cl ce K K H) (hx : x < K 0) (hy : y < K 1) (hon : on K (y * K 0 + x) = true) {q wn : Nat} {mi : Bool} (hq : 1 ≤ q ∧ q ≤ 7) (hw : 1 ≤ wn ∧ wn ≤ 9) (hc : 1000 ≤ c) (hs : 6100 ≤ sl) (kk1 : ∀ (u1 : hp) (h1 : hg) (K1 : Nat → Nat) (c1 s1 : Nat), LZ u1 K1 (psh K H) (min ((min (n8 + 1) 8) + 1) 8) → KC h1 r B n8 k k2 w m p cl ce K K1 H → c ≤ c1 + 1000 → sl ≤ s1 + 6100 → Gx ad sc M_L_law 1020 [.ref (ad 3000), .int (I 1), .int (I 0), .ref (ad 0), .ref b, .ref r, .ref k, .ref B, .int (I (n8 : Int)), .int (I (t : Int)), .ref k2, .int (I 1), uk, uk, uk, uk, uk, uk, uk, uk, uk, uk, uk, uk, uk, uk, uk, uk] [] c1 s1 u1 h1 Q) (kk0 : ∀ (h1 : hg) (c1 s1 : Nat), KC h1 r B n8 k k2 w m p cl ce K K H → c ≤ c1 + 1000 → sl ≤ s1 + 6100 → Gx ad sc M_L_law 1020 [.ref (ad 3000), .int (I 1), .int (I 0), .ref (ad 0), .ref b, .ref r, .ref k, .ref B, .int (I (n8 : Int)), .int (I (t : Int)), .ref k2, .int (I 0), uk, uk, uk, uk, uk, uk, uk, uk, uk, uk, uk, uk, uk, uk, uk, uk] [] c1 s1 u h1 Q) : Gx ad sc M_L_law 451 [.ref (ad 3000), .int (I 1), .int (I 0), .ref (ad 0), .ref b, .ref r, .ref k, .ref B, .int (I (n8 : Int)), .int (I (t : Int)), .ref k2, .int (I 1), .int (I (x : Int)), .int (I (y : Int)), .ref (ce (y * K 0 + x)), .int (I 1), .int (I (q : Int)), .int (I (wn : Int)), .int (I (if mi = true then 1 else 0)), uk, uk, uk, uk, uk, uk, uk, uk, uk] [] c sl u h Q := by
  obtain ⟨⟨e, rr, T, hLA, hTX, hr0, hr6⟩, hK, hH⟩ := id hZ
  obtain ⟨a1, ⟨KS, a2⟩, a3, a4, a5, a6, a7, a8, a9, ⟨n0, a10⟩, a11, a12, a13⟩ := id hLA
  have k0 := hK.1
  have hn9 := nC_le hK
  have hzo : onZ K (x : Int) (y : Int) = true := by rw [← on_at hx]; exact hon
  have hi9 : y * K 0 + x < nC K := by obtain ⟨q1, q2, e1, e2, -, -, e3, -⟩ := onZ_nat hK hzo; cases e1; cases e2; exact e3
  by_cases hq7 : q < 7
  · refine bx_iload dL_law_451 rfl ?_
    refine bx_if_eq (tgt := 467) dL_law_453 (by decide) (by decide) (fun c453 => ?_) (fun c453 => ?_)
    · exact absurd c453 (by decide)
    · refine bx_iload dL_law_456 rfl ?_
      refine bx_bipush dL_law_458 (by decide) ?_
      refine bx_icmp_ge (tgt := 467) dL_law_460 (by decide) (by omega) (by omega) (fun c460 => ?_) (fun c460 => ?_)
      · exfalso
        omega
      · refine bx_iconst dL_law_463 ?_
        refine bx_goto (tgt := 468) dL_law_464 (by decide) ?_
        refine bx_istore dL_law_468 rfl (by decide) rfl ?_
        refine bx_iload dL_law_470 rfl ?_
        refine bx_if_eq (tgt := 488) dL_law_472 (by decide) (by decide) (fun c472 => ?_) (fun c472 => ?_)
        · exact absurd c472 (by decide)
        · refine bx_aload dL_law_475 rfl ?_
          refine bx_aload dL_law_477 rfl ?_
          refine bx_iload dL_law_479 rfl ?_
          refine bx_iload dL_law_481 rfl ?_
          refine bx_iload dL_law_483 rfl ?_
          refine bx_cvv4 dL_law_485 ln_L_law_263 (Nat.le_of_ble_eq_true rfl) rfl hC.1.1.1 rfl (Nat.zero_le _) (Nat.zero_le _) (kt_paintsB hC.1.1 hK hi9 hon (c9 := q) (w9 := wn) (mi := mi) (by omega) (by omega)) (fun u9 h9 hq9 => ?_)
          obtain ⟨rfl, hT9, hF9⟩ := hq9
          rw [← put_ix hx hzo] at hT9
          have C9 := hC.mt hK hF9 hT9 (tm.put hK)
          have hK9 : KI (putC K (x : Int) (y : Int) q wn mi) := hK.pC (by omega) (by omega)
          refine bx_aload_n dL_law_488 rfl ?_
          refine bx_iload dL_law_489 rfl ?_
          refine bx_iload dL_law_491 rfl ?_
          refine bx_iload dL_law_493 rfl ?_
          refine bx_iload dL_law_495 rfl ?_
          refine bx_iload dL_law_497 rfl ?_
          refine gx_cwr (n := 6) (As := [.int (I (x : Int)), .int (I (y : Int)), .int (I (q : Int)), .int (I (wn : Int)), .int (I (if mi = true then 1 else 0))]) dL_law_499 ln_L_law_237 rfl (Nat.le_of_ble_eq_true rfl) (nrI (xs := [I (x : Int), I (y : Int), I (q : Int), I (wn : Int), I (if mi = true then 1 else 0)])) (by omega) (by omega) (fun Γ l St adV hE hX hl9 hLn => wr_paint hE hX hl9 (by decide) a3 (sp_paint (Nat.le_refl _) a3 a1 hK a4 (x := (x : Int)) (by omega) (y := (y : Int)) (by omega) (c := (q : Int)) (by omega) (w := (wn : Int)) (by omega) (mi := mi) hzo (by omega) (by omega))) (fun r9 u9 hq9 => ?_)
          obtain ⟨e9, q1, q2, q3⟩ := hq9
          cases e9
          have Z9 := hZ.nB (K1 := putC K (x : Int) (y : Int) q wn mi) hK9 q1 q2 q3
          refine bx_iload dL_law_502 rfl ?_
          refine bx_if_eq (tgt := 515) dL_law_504 (by decide) (by decide) (fun c504 => ?_) (fun c504 => ?_)
          · exact absurd c504 (by decide)
          · refine bx_aload dL_law_507 rfl ?_
            refine bx_cvP0 dL_law_509 ln_L_law_267 (Nat.le_of_ble_eq_true rfl) (by decide) hT9.1 rfl (kt_balance hT9 hK9 C9.1.2.1) ?_
            refine bx_goto (tgt := 527) dL_law_512 (by decide) ?_
            refine gx_icmp_ne (tgt := 534) dL_law_527 (by decide) (fun q9 => absurd (rfl) q9) (fun _ => ?_)
            refine bx_iconst dL_law_530 ?_
            refine bx_goto (tgt := 535) dL_law_531 (by decide) ?_
            refine bx_istore_n dL_law_535 rfl (by decide) rfl ?_
            refine bx_goto (tgt := 1020) dL_law_536 (by decide) ?_
            refine gx_forg (i := 12) ?_
            refine gx_forg (i := 13) ?_
            refine gx_forg (i := 14) ?_
            refine gx_forg (i := 15) ?_
            refine gx_forg (i := 16) ?_
            refine gx_forg (i := 17) ?_
            refine gx_forg (i := 18) ?_
            exact kk1 _ _ _ _ _ Z9 C9 (by omega) (by omega)
  · refine bx_iload dL_law_451 rfl ?_
    refine bx_if_eq (tgt := 467) dL_law_453 (by decide) (by decide) (fun c453 => ?_) (fun c453 => ?_)
    · exact absurd c453 (by decide)
    · refine bx_iload dL_law_456 rfl ?_
      refine bx_bipush dL_law_458 (by decide) ?_
      refine bx_icmp_ge (tgt := 467) dL_law_460 (by decide) (by omega) (by omega) (fun c460 => ?_) (fun c460 => ?_)
      · refine bx_iconst dL_law_467 ?_
        refine bx_istore dL_law_468 rfl (by decide) rfl ?_
        refine bx_iload dL_law_470 rfl ?_
        refine bx_if_eq (tgt := 488) dL_law_472 (by decide) (by decide) (fun c472 => ?_) (fun c472 => ?_)
        · refine bx_aload_n dL_law_488 rfl ?_
          refine bx_iload dL_law_489 rfl ?_
          refine bx_iload dL_law_491 rfl ?_
          refine bx_iload dL_law_493 rfl ?_
          refine bx_iload dL_law_495 rfl ?_
          refine bx_iload dL_law_497 rfl ?_
          refine gx_cwr (n := 6) (As := [.int (I (x : Int)), .int (I (y : Int)), .int (I (q : Int)), .int (I (wn : Int)), .int (I (if mi = true then 1 else 0))]) dL_law_499 ln_L_law_237 rfl (Nat.le_of_ble_eq_true rfl) (nrI (xs := [I (x : Int), I (y : Int), I (q : Int), I (wn : Int), I (if mi = true then 1 else 0)])) (by omega) (by omega) (fun Γ l St adV hE hX hl9 hLn => wx_paint1 hE hX hl9 hLn (by decide) a3 (sx_paint2 (Nat.le_refl _) a3 a1 hK (x := (x : Int)) (by omega) (y := (y : Int)) (by omega) (c := (q : Int)) (by omega) (w := (wn : Int)) (by omega) (bz := (if mi = true then 1 else 0)) hzo (by omega))) (fun r9 u9 hq9 => ?_)
          obtain ⟨rfl, rfl⟩ := hq9
          refine bx_iload dL_law_502 rfl ?_
          refine bx_if_eq (tgt := 515) dL_law_504 (by decide) (by decide) (fun c504 => ?_) (fun c504 => ?_)
          · refine bx_iload dL_law_515 rfl ?_
            refine bx_if_eq (tgt := 525) dL_law_517 (by decide) (by decide) (fun c517 => ?_) (fun c517 => ?_)
            · exact absurd c517 (by decide)
            · refine gx_ldcI (cn_L_42 rfl) dL_law_520 ?_
              refine bx_goto (tgt := 527) dL_law_522 (by decide) ?_
              refine gx_icmp_ne (tgt := 534) dL_law_527 (by decide) (fun q9 => absurd (rfl) q9) (fun _ => ?_)
              refine bx_iconst dL_law_530 ?_
              refine bx_goto (tgt := 535) dL_law_531 (by decide) ?_
              refine bx_istore_n dL_law_535 rfl (by decide) rfl ?_
              refine bx_goto (tgt := 1020) dL_law_536 (by decide) ?_
              refine gx_forg (i := 12) ?_
              refine gx_forg (i := 13) ?_
              refine gx_forg (i := 14) ?_
              refine gx_forg (i := 15) ?_
              refine gx_forg (i := 16) ?_
              refine gx_forg (i := 17) ?_
              refine gx_forg (i := 18) ?_
              exact kk0 _ _ _ hC (by omega) (by omega)
          · exact absurd rfl c504
        · exact absurd rfl c472
      · exfalso
        omega
theorem lc_paint_off (hZ : LZ u K H (min (n8 + 1) 8)) (hC : KC h r B n8 k k2 w m p cl ce K K H) (hx : x < K 0) (hy : y < K 1) (hon : ¬ on K (y * K 0 + x) = true) {q wn : Nat} {mi : Bool} (hq : 1 ≤ q ∧ q ≤ 7) (hw : 1 ≤ wn ∧ wn ≤ 9) (hc : 1000 ≤ c) (hs : 6100 ≤ sl) (kk0 : ∀ (h1 : hg) (c1 s1 : Nat), KC h1 r B n8 k k2 w m p cl ce K K H → c ≤ c1 + 1000 → sl ≤ s1 + 6100 → Gx ad sc M_L_law 1020 [.ref (ad 3000), .int (I 1), .int (I 0), .ref (ad 0), .ref b, .ref r, .ref k, .ref B, .int (I (n8 : Int)), .int (I (t : Int)), .ref k2, .int (I 0), uk, uk, uk, uk, uk, uk, uk, uk, uk, uk, uk, uk, uk, uk, uk, uk] [] c1 s1 u h1 Q) : Gx ad sc M_L_law 451 [.ref (ad 3000), .int (I 1), .int (I 0), .ref (ad 0), .ref b, .ref r, .ref k, .ref B, .int (I (n8 : Int)), .int (I (t : Int)), .ref k2, .int (I 1), .int (I (x : Int)), .int (I (y : Int)), .null, .int (I 0), .int (I (q : Int)), .int (I (wn : Int)), .int (I (if mi = true then 1 else 0)), uk, uk, uk, uk, uk, uk, uk, uk, uk] [] c sl u h Q := by
  obtain ⟨⟨e, rr, T, hLA, hTX, hr0, hr6⟩, hK, hH⟩ := id hZ
  obtain ⟨a1, ⟨KS, a2⟩, a3, a4, a5, a6, a7, a8, a9, ⟨n0, a10⟩, a11, a12, a13⟩ := id hLA
  have k0 := hK.1
  have hn9 := nC_le hK
  have hzo : ¬ onZ K (x : Int) (y : Int) = true := by rw [← on_at hx]; exact hon
  refine bx_iload dL_law_451 rfl ?_
  refine bx_if_eq (tgt := 467) dL_law_453 (by decide) (by decide) (fun c453 => ?_) (fun c453 => ?_)
  · refine bx_iconst dL_law_467 ?_
    refine bx_istore dL_law_468 rfl (by decide) rfl ?_
    refine bx_iload dL_law_470 rfl ?_
    refine bx_if_eq (tgt := 488) dL_law_472 (by decide) (by decide) (fun c472 => ?_) (fun c472 => ?_)
    · refine bx_aload_n dL_law_488 rfl ?_
      refine bx_iload dL_law_489 rfl ?_
      refine bx_iload dL_law_491 rfl ?_
      refine bx_iload dL_law_493 rfl ?_
      refine bx_iload dL_law_495 rfl ?_
      refine bx_iload dL_law_497 rfl ?_
      refine gx_cwr (n := 6) (As := [.int (I (x : Int)), .int (I (y : Int)), .int (I (q : Int)), .int (I (wn : Int)), .int (I (if mi = true then 1 else 0))]) dL_law_499 ln_L_law_237 rfl (Nat.le_of_ble_eq_true rfl) (nrI (xs := [I (x : Int), I (y : Int), I (q : Int), I (wn : Int), I (if mi = true then 1 else 0)])) (by omega) (by omega) (fun Γ l St adV hE hX hl9 hLn => wx_paint0 hE hX hl9 hLn (by decide) a3 (sx_paint1 (Nat.le_refl _) a3 a1 hK (x := (x : Int)) (by omega) (y := (y : Int)) (by omega) (c := (q : Int)) (by omega) (w := (wn : Int)) (by omega) (bz := (if mi = true then 1 else 0)) hzo)) (fun r9 u9 hq9 => ?_)
      obtain ⟨rfl, rfl⟩ := hq9
      refine bx_iload dL_law_502 rfl ?_
      refine bx_if_eq (tgt := 515) dL_law_504 (by decide) (by decide) (fun c504 => ?_) (fun c504 => ?_)
      · refine bx_iload dL_law_515 rfl ?_
        refine bx_if_eq (tgt := 525) dL_law_517 (by decide) (by decide) (fun c517 => ?_) (fun c517 => ?_)
        · refine gx_ldcI (cn_L_52 rfl) dL_law_525 ?_
          refine gx_icmp_ne (tgt := 534) dL_law_527 (by decide) (fun q9 => absurd (rfl) q9) (fun _ => ?_)
          refine bx_iconst dL_law_530 ?_
          refine bx_goto (tgt := 535) dL_law_531 (by decide) ?_
          refine bx_istore_n dL_law_535 rfl (by decide) rfl ?_
          refine bx_goto (tgt := 1020) dL_law_536 (by decide) ?_
          refine gx_forg (i := 12) ?_
          refine gx_forg (i := 13) ?_
          refine gx_forg (i := 14) ?_
          refine gx_forg (i := 15) ?_
          refine gx_forg (i := 16) ?_
          refine gx_forg (i := 17) ?_
          refine gx_forg (i := 18) ?_
          exact kk0 _ _ _ hC (by omega) (by omega)
        · exact absurd rfl c517
      · exact absurd rfl c504
    · exact absurd rfl c472
  · exact absurd rfl c453
theorem lc_paint_pre {cv : Value} {ov : Int} {q : Nat} (hC : KC h r B n8 k k2 w m p cl ce K K H) (kk : ∀ (h1 : hg) (wn : Nat) (mi : Bool), KC h1 r B n8 k k2 w m p cl ce K K H → 1 ≤ wn ∧ wn ≤ 9 → Gx ad sc M_L_law 451 [.ref (ad 3000), .int (I 1), .int (I 0), .ref (ad 0), .ref b, .ref r, .ref k, .ref B, .int (I (n8 : Int)), .int (I (t : Int)), .ref k2, .int (I 1), .int (I (x : Int)), .int (I (y : Int)), cv, .int (I ov), .int (I (q : Int)), .int (I (wn : Int)), .int (I (if mi = true then 1 else 0)), uk, uk, uk, uk, uk, uk, uk, uk, uk] [] c sl u h1 Q) : Gx ad sc M_L_law 424 [.ref (ad 3000), .int (I 1), .int (I 0), .ref (ad 0), .ref b, .ref r, .ref k, .ref B, .int (I (n8 : Int)), .int (I (t : Int)), .ref k2, .int (I 1), .int (I (x : Int)), .int (I (y : Int)), cv, .int (I ov), .int (I (q : Int)), uk, uk, uk, uk, uk, uk, uk, uk, uk, uk, uk] [] c sl u h Q := by
  refine bx_iconst dL_law_424 ?_
  refine bx_aload dL_law_425 rfl ?_
  refine bx_bipush dL_law_427 (by decide) ?_
  obtain ⟨sR2, hsR2⟩ := hC.1.2.2.1
  refine bx_cv1 dL_law_429 ln_L_law_117 (Nat.le_of_ble_eq_true rfl) (by decide) hsR2 rfl (Nat.zero_le _) (Nat.zero_le _) (kr_below hsR2 (b := 9) (by decide)) (fun v2 u2 h2 hq2 => ?_)
  obtain ⟨rfl, ⟨z2, hz2, rfl⟩, s12, hh2⟩ := hq2
  have F2 : FRM h h2 (fun x => x = r) := by rw [hh2]; exact FRM.u1 rfl
  have C2 := hC.rd F2 ⟨s12, by rw [hh2]; exact ug_eq⟩
  refine bx_iadd dL_law_432 ?_
  rw [show (1 + (z2 : Int)) = ((z2 + 1 : Nat) : Int) by omega]
  refine bx_istore dL_law_433 rfl (by decide) rfl ?_
  refine bx_aload dL_law_435 rfl ?_
  refine bx_iconst dL_law_437 ?_
  obtain ⟨sR3, hsR3⟩ := C2.1.2.2.1
  refine bx_cv1 dL_law_438 ln_L_law_117 (Nat.le_of_ble_eq_true rfl) (by decide) hsR3 rfl (Nat.zero_le _) (Nat.zero_le _) (kr_below hsR3 (b := 2) (by decide)) (fun v3 u3 h3 hq3 => ?_)
  obtain ⟨rfl, ⟨z3, hz3, rfl⟩, s13, hh3⟩ := hq3
  have F3 : FRM h2 h3 (fun x => x = r) := by rw [hh3]; exact FRM.u1 rfl
  have C3 := C2.rd F3 ⟨s13, by rw [hh3]; exact ug_eq⟩
  refine bx_if_ne (tgt := 448) dL_law_441 (by decide) (by omega) (fun c441 => ?_) (fun c441 => ?_)
  · refine bx_iconst dL_law_448 ?_
    refine bx_istore dL_law_449 rfl (by decide) rfl ?_
    exact kk h3 _ false C3 (by omega)
  · refine bx_iconst dL_law_444 ?_
    refine bx_goto (tgt := 449) dL_law_445 (by decide) ?_
    refine bx_istore dL_law_449 rfl (by decide) rfl ?_
    exact kk h3 _ true C3 (by omega)
end LP
