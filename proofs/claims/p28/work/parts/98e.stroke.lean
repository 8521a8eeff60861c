/-! THE LAW: stroke, spar -/
section LS
variable {ad : Nat → Nat} {sc : Nat × (Nat → Int32)} {u : hp} {h : hg} {Q : qg} {b r B n8 t k k2 w m p cl c sl : Nat} {ce : Nat → Nat} {K K0 : Nat → Nat} {H : Nat → Nat → Nat}
variable {x y : Nat}
theorem lc_stroke_on (hZ : LZ u K H (min (n8 + 1) 8)) (hC : KC h r B n8 k k2 w m p cl ce K K H) (hx : x < K 0) (hy : y < K 1) (hon : on K (y * K 0 + x) = true) {q wy ln : Nat} (hq : 1 ≤ q ∧ q ≤ 7) (hw : wy < 4) (hl : ln < 6) (hc : 1000 ≤ c) (hs : 6100 ≤ sl) (kk1 : ∀ (u1 : hp) (h1 : hg) (K1 : Nat → Nat) (c1 s1 : Nat), LZ u1 K1 (psh K H) (min ((min (n8 + 1) 8) + 1) 8) → KC h1 r B n8 k k2 w m p cl ce K K1 H → c ≤ c1 + 1000 → sl ≤ s1 + 6100 → Gx ad sc M_L_law 1020 [.ref (ad 3000), .int (I 1), .int (I 0), .ref (ad 0), .ref b, .ref r, .ref k, .ref B, .int (I (n8 : Int)), .int (I (t : Int)), .ref k2, .int (I 1), uk, uk, uk, uk, uk, uk, uk, uk, uk, uk, uk, uk, uk, uk, uk, uk] [] c1 s1 u1 h1 Q) (kk0 : ∀ (h1 : hg) (c1 s1 : Nat), KC h1 r B n8 k k2 w m p cl ce K K H → c ≤ c1 + 1000 → sl ≤ s1 + 6100 → Gx ad sc M_L_law 1020 [.ref (ad 3000), .int (I 1), .int (I 0), .ref (ad 0), .ref b, .ref r, .ref k, .ref B, .int (I (n8 : Int)), .int (I (t : Int)), .ref k2, .int (I 0), uk, uk, uk, uk, uk, uk, uk, uk, uk, uk, uk, uk, uk, uk, uk, uk] [] c1 s1 u h1 Q) : Gx ad sc M_L_law 556 [.ref (ad 3000), .int (I 1), .int (I 0), .ref (ad 0), .ref b, .ref r, .ref k, .ref B, .int (I (n8 : Int)), .int (I (t : Int)), .ref k2, .int (I 1), .int (I (x : Int)), .int (I (y : Int)), .ref (ce (y * K 0 + x)), .int (I 1), .int (I (q : Int)), uk, uk, .int (I (wy : Int)), .int (I (ln : Int)), uk, uk, uk, uk, uk, uk, uk] [] c sl u h Q := by
  obtain ⟨⟨e, rr, T, hLA, hTX, hr0, hr6⟩, hK, hH⟩ := id hZ
  obtain ⟨a1, ⟨KS, a2⟩, a3, a4, a5, a6, a7, a8, a9, ⟨n0, a10⟩, a11, a12, a13⟩ := id hLA
  have k0 := hK.1
  have hn9 := nC_le hK
  have hzo : onZ K (x : Int) (y : Int) = true := by rw [← on_at hx]; exact hon
  have hi9 : y * K 0 + x < nC K := by obtain ⟨q1, q2, e1, e2, -, -, e3, -⟩ := onZ_nat hK hzo; cases e1; cases e2; exact e3
  by_cases hl0 : ln = 0
  · refine bx_iload dL_law_556 rfl ?_
    refine bx_if_eq (tgt := 577) dL_law_558 (by decide) (by decide) (fun c558 => ?_) (fun c558 => ?_)
    · exact absurd c558 (by decide)
    · refine bx_iload dL_law_561 rfl ?_
      refine bx_if_le (tgt := 577) dL_law_563 (by decide) (by omega) (fun c563 => ?_) (fun c563 => ?_)
      · refine bx_iconst dL_law_577 ?_
        refine bx_istore dL_law_578 rfl (by decide) rfl ?_
        refine bx_aload_n dL_law_580 rfl ?_
        refine bx_iload dL_law_581 rfl ?_
        refine bx_iload dL_law_583 rfl ?_
        refine bx_iload dL_law_585 rfl ?_
        refine bx_iload dL_law_587 rfl ?_
        refine bx_iload dL_law_589 rfl ?_
        refine gx_cwr (n := 6) (As := [.int (I (x : Int)), .int (I (y : Int)), .int (I (wy : Int)), .int (I (ln : Int)), .int (I (q : Int))]) dL_law_591 ln_L_law_240 rfl (Nat.le_of_ble_eq_true rfl) (nrI (xs := [I (x : Int), I (y : Int), I (wy : Int), I (ln : Int), I (q : Int)])) (by omega) (by omega) (fun Γ l St adV hE hX hl9 hLn => wx_stroke1 hE hX hl9 hLn (by decide) a3 (sx_stroke2 (Nat.le_refl _) a3 a1 hK (x := (x : Int)) (by omega) (y := (y : Int)) (by omega) (a := (wy : Int)) (by omega) (z := (ln : Int)) (by omega) (w := (q : Int)) (by omega) hzo (by omega))) (fun r9 u9 hq9 => ?_)
        obtain ⟨rfl, rfl⟩ := hq9
        refine bx_iload dL_law_594 rfl ?_
        refine bx_if_eq (tgt := 615) dL_law_596 (by decide) (by decide) (fun c596 => ?_) (fun c596 => ?_)
        · refine bx_iload dL_law_615 rfl ?_
          refine bx_if_eq (tgt := 625) dL_law_617 (by decide) (by decide) (fun c617 => ?_) (fun c617 => ?_)
          · exact absurd c617 (by decide)
          · refine gx_ldcI (cn_L_42 rfl) dL_law_620 ?_
            refine bx_goto (tgt := 627) dL_law_622 (by decide) ?_
            refine gx_icmp_ne (tgt := 634) dL_law_627 (by decide) (fun q9 => absurd (rfl) q9) (fun _ => ?_)
            refine bx_iconst dL_law_630 ?_
            refine bx_goto (tgt := 635) dL_law_631 (by decide) ?_
            refine bx_istore_n dL_law_635 rfl (by decide) rfl ?_
            refine bx_goto (tgt := 1020) dL_law_636 (by decide) ?_
            refine gx_forg (i := 12) ?_
            refine gx_forg (i := 13) ?_
            refine gx_forg (i := 14) ?_
            refine gx_forg (i := 15) ?_
            refine gx_forg (i := 16) ?_
            refine gx_forg (i := 19) ?_
            refine gx_forg (i := 20) ?_
            exact kk0 _ _ _ hC (by omega) (by omega)
        · exact absurd rfl c596
      · exfalso
        omega
  · by_cases hq7 : q < 7
    · refine bx_iload dL_law_556 rfl ?_
      refine bx_if_eq (tgt := 577) dL_law_558 (by decide) (by decide) (fun c558 => ?_) (fun c558 => ?_)
      · exact absurd c558 (by decide)
      · refine bx_iload dL_law_561 rfl ?_
        refine bx_if_le (tgt := 577) dL_law_563 (by decide) (by omega) (fun c563 => ?_) (fun c563 => ?_)
        · exfalso
          omega
        · refine bx_iload dL_law_566 rfl ?_
          refine bx_bipush dL_law_568 (by decide) ?_
          refine bx_icmp_ge (tgt := 577) dL_law_570 (by decide) (by omega) (by omega) (fun c570 => ?_) (fun c570 => ?_)
          · exfalso
            omega
          · refine bx_iconst dL_law_573 ?_
            refine bx_goto (tgt := 578) dL_law_574 (by decide) ?_
            refine bx_istore dL_law_578 rfl (by decide) rfl ?_
            refine bx_aload_n dL_law_580 rfl ?_
            refine bx_iload dL_law_581 rfl ?_
            refine bx_iload dL_law_583 rfl ?_
            refine bx_iload dL_law_585 rfl ?_
            refine bx_iload dL_law_587 rfl ?_
            refine bx_iload dL_law_589 rfl ?_
            refine gx_cwr (n := 6) (As := [.int (I (x : Int)), .int (I (y : Int)), .int (I (wy : Int)), .int (I (ln : Int)), .int (I (q : Int))]) dL_law_591 ln_L_law_240 rfl (Nat.le_of_ble_eq_true rfl) (nrI (xs := [I (x : Int), I (y : Int), I (wy : Int), I (ln : Int), I (q : Int)])) (by omega) (by omega) (fun Γ l St adV hE hX hl9 hLn => wr_stroke hE hX hl9 (by decide) a3 (sp_stroke (Nat.le_refl _) a3 a1 hK a4 (x := (x : Int)) (by omega) (y := (y : Int)) (by omega) (wy := wy) (len := ln) (c := q) hzo (by omega) (by omega) (by omega))) (fun r9 u9 hq9 => ?_)
            obtain ⟨e9, q1, q2, q3⟩ := hq9
            cases e9
            obtain ⟨tm9, hK9⟩ := tm.str (c := q) (dx := dxW wy) (dy := dyW wy) (by omega) ln (x : Int) (y : Int) hK
            have Z9 := hZ.nB (K1 := (strP q (dxW wy) (dyW wy) ln K (x : Int) (y : Int)).2) hK9 q1 q2 q3
            refine bx_iload dL_law_594 rfl ?_
            refine bx_if_eq (tgt := 615) dL_law_596 (by decide) (by decide) (fun c596 => ?_) (fun c596 => ?_)
            · exact absurd c596 (by decide)
            · refine bx_aload dL_law_599 rfl ?_
              refine bx_aload dL_law_601 rfl ?_
              refine bx_iload dL_law_603 rfl ?_
              refine bx_iload dL_law_605 rfl ?_
              refine bx_iload dL_law_607 rfl ?_
              refine bx_cv4 dL_law_609 ln_L_law_270 (Nat.le_of_ble_eq_true rfl) (by decide) hC.1.1.1 rfl (Nat.zero_le _) (Nat.zero_le _) (kt_strokes hC.1.1 hK hi9 hon hw (len := ln) (c9 := q) (by omega) (by omega)) (fun v9 u9 h9 hq9 => ?_)
              rw [ix_m hx, ix_d hx] at hq9
              obtain ⟨rfl, rfl, hT9, hF9⟩ := hq9
              have C9 := hC.mt hK hF9 hT9 tm9
              refine bx_goto (tgt := 627) dL_law_612 (by decide) ?_
              refine gx_icmp_ne (tgt := 634) dL_law_627 (by decide) (fun q9 => absurd (rfl) q9) (fun _ => ?_)
              refine bx_iconst dL_law_630 ?_
              refine bx_goto (tgt := 635) dL_law_631 (by decide) ?_
              refine bx_istore_n dL_law_635 rfl (by decide) rfl ?_
              refine bx_goto (tgt := 1020) dL_law_636 (by decide) ?_
              refine gx_forg (i := 12) ?_
              refine gx_forg (i := 13) ?_
              refine gx_forg (i := 14) ?_
              refine gx_forg (i := 15) ?_
              refine gx_forg (i := 16) ?_
              refine gx_forg (i := 19) ?_
              refine gx_forg (i := 20) ?_
              exact kk1 _ _ _ _ _ Z9 C9 (by omega) (by omega)
    · refine bx_iload dL_law_556 rfl ?_
      refine bx_if_eq (tgt := 577) dL_law_558 (by decide) (by decide) (fun c558 => ?_) (fun c558 => ?_)
      · exact absurd c558 (by decide)
      · refine bx_iload dL_law_561 rfl ?_
        refine bx_if_le (tgt := 577) dL_law_563 (by decide) (by omega) (fun c563 => ?_) (fun c563 => ?_)
        · exfalso
          omega
        · refine bx_iload dL_law_566 rfl ?_
          refine bx_bipush dL_law_568 (by decide) ?_
          refine bx_icmp_ge (tgt := 577) dL_law_570 (by decide) (by omega) (by omega) (fun c570 => ?_) (fun c570 => ?_)
          · refine bx_iconst dL_law_577 ?_
            refine bx_istore dL_law_578 rfl (by decide) rfl ?_
            refine bx_aload_n dL_law_580 rfl ?_
            refine bx_iload dL_law_581 rfl ?_
            refine bx_iload dL_law_583 rfl ?_
            refine bx_iload dL_law_585 rfl ?_
            refine bx_iload dL_law_587 rfl ?_
            refine bx_iload dL_law_589 rfl ?_
            refine gx_cwr (n := 6) (As := [.int (I (x : Int)), .int (I (y : Int)), .int (I (wy : Int)), .int (I (ln : Int)), .int (I (q : Int))]) dL_law_591 ln_L_law_240 rfl (Nat.le_of_ble_eq_true rfl) (nrI (xs := [I (x : Int), I (y : Int), I (wy : Int), I (ln : Int), I (q : Int)])) (by omega) (by omega) (fun Γ l St adV hE hX hl9 hLn => wx_stroke1 hE hX hl9 hLn (by decide) a3 (sx_stroke2 (Nat.le_refl _) a3 a1 hK (x := (x : Int)) (by omega) (y := (y : Int)) (by omega) (a := (wy : Int)) (by omega) (z := (ln : Int)) (by omega) (w := (q : Int)) (by omega) hzo (by omega))) (fun r9 u9 hq9 => ?_)
            obtain ⟨rfl, rfl⟩ := hq9
            refine bx_iload dL_law_594 rfl ?_
            refine bx_if_eq (tgt := 615) dL_law_596 (by decide) (by decide) (fun c596 => ?_) (fun c596 => ?_)
            · refine bx_iload dL_law_615 rfl ?_
              refine bx_if_eq (tgt := 625) dL_law_617 (by decide) (by decide) (fun c617 => ?_) (fun c617 => ?_)
              · exact absurd c617 (by decide)
              · refine gx_ldcI (cn_L_42 rfl) dL_law_620 ?_
                refine bx_goto (tgt := 627) dL_law_622 (by decide) ?_
                refine gx_icmp_ne (tgt := 634) dL_law_627 (by decide) (fun q9 => absurd (rfl) q9) (fun _ => ?_)
                refine bx_iconst dL_law_630 ?_
                refine bx_goto (tgt := 635) dL_law_631 (by decide) ?_
                refine bx_istore_n dL_law_635 rfl (by decide) rfl ?_
                refine bx_goto (tgt := 1020) dL_law_636 (by decide) ?_
                refine gx_forg (i := 12) ?_
                refine gx_forg (i := 13) ?_
                refine gx_forg (i := 14) ?_
                refine gx_forg (i := 15) ?_
                refine gx_forg (i := 16) ?_
                refine gx_forg (i := 19) ?_
                refine gx_forg (i := 20) ?_
                exact kk0 _ _ _ hC (by omega) (by omega)
            · exact absurd rfl c596
          · exfalso
            omega
theorem lc_stroke_off (hZ : LZ u K H (min (n8 + 1) 8)) (hC : KC h r B n8 k k2 w m p cl ce K K H) (hx : x < K 0) (hy : y < K 1) (hon : ¬ on K (y * K 0 + x) = true) {q wy ln : Nat} (hq : 1 ≤ q ∧ q ≤ 7) (hw : wy < 4) (hl : ln < 6) (hc : 1000 ≤ c) (hs : 6100 ≤ sl) (kk0 : ∀ (h1 : hg) (c1 s1 : Nat), KC h1 r B n8 k k2 w m p cl ce K K H → c ≤ c1 + 1000 → sl ≤ s1 + 6100 → Gx ad sc M_L_law 1020 [.ref (ad 3000), .int (I 1), .int (I 0), .ref (ad 0), .ref b, .ref r, .ref k, .ref B, .int (I (n8 : Int)), .int (I (t : Int)), .ref k2, .int (I 0), uk, uk, uk, uk, uk, uk, uk, uk, uk, uk, uk, uk, uk, uk, uk, uk] [] c1 s1 u h1 Q) : Gx ad sc M_L_law 556 [.ref (ad 3000), .int (I 1), .int (I 0), .ref (ad 0), .ref b, .ref r, .ref k, .ref B, .int (I (n8 : Int)), .int (I (t : Int)), .ref k2, .int (I 1), .int (I (x : Int)), .int (I (y : Int)), .null, .int (I 0), .int (I (q : Int)), uk, uk, .int (I (wy : Int)), .int (I (ln : Int)), uk, uk, uk, uk, uk, uk, uk] [] c sl u h Q := by
  obtain ⟨⟨e, rr, T, hLA, hTX, hr0, hr6⟩, hK, hH⟩ := id hZ
  obtain ⟨a1, ⟨KS, a2⟩, a3, a4, a5, a6, a7, a8, a9, ⟨n0, a10⟩, a11, a12, a13⟩ := id hLA
  have k0 := hK.1
  have hn9 := nC_le hK
  have hzo : ¬ onZ K (x : Int) (y : Int) = true := by rw [← on_at hx]; exact hon
  refine bx_iload dL_law_556 rfl ?_
  refine bx_if_eq (tgt := 577) dL_law_558 (by decide) (by decide) (fun c558 => ?_) (fun c558 => ?_)
  · refine bx_iconst dL_law_577 ?_
    refine bx_istore dL_law_578 rfl (by decide) rfl ?_
    refine bx_aload_n dL_law_580 rfl ?_
    refine bx_iload dL_law_581 rfl ?_
    refine bx_iload dL_law_583 rfl ?_
    refine bx_iload dL_law_585 rfl ?_
    refine bx_iload dL_law_587 rfl ?_
    refine bx_iload dL_law_589 rfl ?_
    refine gx_cwr (n := 6) (As := [.int (I (x : Int)), .int (I (y : Int)), .int (I (wy : Int)), .int (I (ln : Int)), .int (I (q : Int))]) dL_law_591 ln_L_law_240 rfl (Nat.le_of_ble_eq_true rfl) (nrI (xs := [I (x : Int), I (y : Int), I (wy : Int), I (ln : Int), I (q : Int)])) (by omega) (by omega) (fun Γ l St adV hE hX hl9 hLn => wx_stroke0 hE hX hl9 hLn (by decide) a3 (sx_stroke1 (Nat.le_refl _) a3 a1 hK (x := (x : Int)) (by omega) (y := (y : Int)) (by omega) hzo)) (fun r9 u9 hq9 => ?_)
    obtain ⟨rfl, rfl⟩ := hq9
    refine bx_iload dL_law_594 rfl ?_
    refine bx_if_eq (tgt := 615) dL_law_596 (by decide) (by decide) (fun c596 => ?_) (fun c596 => ?_)
    · refine bx_iload dL_law_615 rfl ?_
      refine bx_if_eq (tgt := 625) dL_law_617 (by decide) (by decide) (fun c617 => ?_) (fun c617 => ?_)
      · refine gx_ldcI (cn_L_52 rfl) dL_law_625 ?_
        refine gx_icmp_ne (tgt := 634) dL_law_627 (by decide) (fun q9 => absurd (rfl) q9) (fun _ => ?_)
        refine bx_iconst dL_law_630 ?_
        refine bx_goto (tgt := 635) dL_law_631 (by decide) ?_
        refine bx_istore_n dL_law_635 rfl (by decide) rfl ?_
        refine bx_goto (tgt := 1020) dL_law_636 (by decide) ?_
        refine gx_forg (i := 12) ?_
        refine gx_forg (i := 13) ?_
        refine gx_forg (i := 14) ?_
        refine gx_forg (i := 15) ?_
        refine gx_forg (i := 16) ?_
        refine gx_forg (i := 19) ?_
        refine gx_forg (i := 20) ?_
        exact kk0 _ _ _ hC (by omega) (by omega)
      · exact absurd rfl c617
    · exact absurd rfl c596
  · exact absurd rfl c558
theorem lc_stroke_pre {cv : Value} {ov : Int} {q : Nat} (hC : KC h r B n8 k k2 w m p cl ce K K H) (kk : ∀ (h1 : hg) (wy ln : Nat), KC h1 r B n8 k k2 w m p cl ce K K H → wy < 4 → ln < 6 → Gx ad sc M_L_law 556 [.ref (ad 3000), .int (I 1), .int (I 0), .ref (ad 0), .ref b, .ref r, .ref k, .ref B, .int (I (n8 : Int)), .int (I (t : Int)), .ref k2, .int (I 1), .int (I (x : Int)), .int (I (y : Int)), cv, .int (I ov), .int (I (q : Int)), uk, uk, .int (I (wy : Int)), .int (I (ln : Int)), uk, uk, uk, uk, uk, uk, uk] [] c sl u h1 Q) : Gx ad sc M_L_law 539 [.ref (ad 3000), .int (I 1), .int (I 0), .ref (ad 0), .ref b, .ref r, .ref k, .ref B, .int (I (n8 : Int)), .int (I (t : Int)), .ref k2, .int (I 1), .int (I (x : Int)), .int (I (y : Int)), cv, .int (I ov), .int (I (q : Int)), uk, uk, uk, uk, uk, uk, uk, uk, uk, uk, uk] [] c sl u h Q := by
  refine bx_aload dL_law_539 rfl ?_
  refine bx_iconst dL_law_541 ?_
  obtain ⟨sR2, hsR2⟩ := hC.1.2.2.1
  refine bx_cv1 dL_law_542 ln_L_law_117 (Nat.le_of_ble_eq_true rfl) (by decide) hsR2 rfl (Nat.zero_le _) (Nat.zero_le _) (kr_below hsR2 (b := 4) (by decide)) (fun v2 u2 h2 hq2 => ?_)
  obtain ⟨rfl, ⟨z2, hz2, rfl⟩, s12, hh2⟩ := hq2
  have F2 : FRM h h2 (fun x => x = r) := by rw [hh2]; exact FRM.u1 rfl
  have C2 := hC.rd F2 ⟨s12, by rw [hh2]; exact ug_eq⟩
  refine bx_istore dL_law_545 rfl (by decide) rfl ?_
  refine bx_aload dL_law_547 rfl ?_
  refine bx_bipush dL_law_549 (by decide) ?_
  obtain ⟨sR3, hsR3⟩ := C2.1.2.2.1
  refine bx_cv1 dL_law_551 ln_L_law_117 (Nat.le_of_ble_eq_true rfl) (by decide) hsR3 rfl (Nat.zero_le _) (Nat.zero_le _) (kr_below hsR3 (b := 6) (by decide)) (fun v3 u3 h3 hq3 => ?_)
  obtain ⟨rfl, ⟨z3, hz3, rfl⟩, s13, hh3⟩ := hq3
  have F3 : FRM h2 h3 (fun x => x = r) := by rw [hh3]; exact FRM.u1 rfl
  have C3 := C2.rd F3 ⟨s13, by rw [hh3]; exact ug_eq⟩
  refine bx_istore dL_law_554 rfl (by decide) rfl ?_
  exact kk h3 _ _ C3 hz2 hz3
theorem lc_spar_on (hZ : LZ u K H (min (n8 + 1) 8)) (hC : KC h r B n8 k k2 w m p cl ce K K H) (hx : x < K 0) (hy : y < K 1) (hon : on K (y * K 0 + x) = true) {q ln : Nat} {dn : Bool} (hl : 1 ≤ ln ∧ ln ≤ 4) (hc : 1000 ≤ c) (hs : 6100 ≤ sl) (kk1 : ∀ (u1 : hp) (h1 : hg) (K1 : Nat → Nat) (c1 s1 : Nat), LZ u1 K1 (psh K H) (min ((min (n8 + 1) 8) + 1) 8) → KC h1 r B n8 k k2 w m p cl ce K K1 H → c ≤ c1 + 1000 → sl ≤ s1 + 6100 → Gx ad sc M_L_law 1020 [.ref (ad 3000), .int (I 1), .int (I 0), .ref (ad 0), .ref b, .ref r, .ref k, .ref B, .int (I (n8 : Int)), .int (I (t : Int)), .ref k2, .int (I 1), uk, uk, uk, uk, uk, uk, uk, uk, uk, uk, uk, uk, uk, uk, uk, uk] [] c1 s1 u1 h1 Q) : Gx ad sc M_L_law 772 [.ref (ad 3000), .int (I 1), .int (I 0), .ref (ad 0), .ref b, .ref r, .ref k, .ref B, .int (I (n8 : Int)), .int (I (t : Int)), .ref k2, .int (I 1), .int (I (x : Int)), .int (I (y : Int)), .ref (ce (y * K 0 + x)), .int (I 1), .int (I (q : Int)), uk, uk, uk, uk, uk, uk, .int (I (if dn = true then 1 else 0)), .int (I (ln : Int)), uk, uk, uk] [] c sl u h Q := by
  obtain ⟨⟨e, rr, T, hLA, hTX, hr0, hr6⟩, hK, hH⟩ := id hZ
  obtain ⟨a1, ⟨KS, a2⟩, a3, a4, a5, a6, a7, a8, a9, ⟨n0, a10⟩, a11, a12, a13⟩ := id hLA
  have k0 := hK.1
  have hn9 := nC_le hK
  have hzo : onZ K (x : Int) (y : Int) = true := by rw [← on_at hx]; exact hon
  have hi9 : y * K 0 + x < nC K := by obtain ⟨q1, q2, e1, e2, -, -, e3, -⟩ := onZ_nat hK hzo; cases e1; cases e2; exact e3
  refine bx_iload dL_law_772 rfl ?_
  refine bx_istore dL_law_774 rfl (by decide) rfl ?_
  refine bx_aload_n dL_law_776 rfl ?_
  refine bx_iload dL_law_777 rfl ?_
  refine bx_iload dL_law_779 rfl ?_
  refine bx_iload dL_law_781 rfl ?_
  refine bx_iload dL_law_783 rfl ?_
  refine gx_cwr (n := 5) (As := [.int (I (x : Int)), .int (I (y : Int)), .int (I (if dn = true then 1 else 0)), .int (I (ln : Int))]) dL_law_785 ln_L_law_250 rfl (Nat.le_of_ble_eq_true rfl) (nrI (xs := [I (x : Int), I (y : Int), I (if dn = true then 1 else 0), I (ln : Int)])) (by omega) (by omega) (fun Γ l St adV hE hX hl9 hLn => wr_spar hE hX hl9 (by decide) a3 (sp_spar (Nat.le_refl _) a3 a1 hK a4 (x := (x : Int)) (by omega) (y := (y : Int)) (by omega) (len := ln) (dn := dn) hzo (by omega))) (fun r9 u9 hq9 => ?_)
  obtain ⟨e9, q1, q2, q3⟩ := hq9
  cases e9
  have tm9 := tm.spa (dx := sdx dn) (dy := sdy dn) ln (x : Int) (y : Int) hK
  have hK9 := (spa_sum (dx := sdx dn) (dy := sdy dn) ln (x : Int) (y : Int) hK).2
  have Z9 := hZ.nB (K1 := (spaP (sdx dn) (sdy dn) ln K (x : Int) (y : Int)).2) hK9 q1 q2 q3
  refine bx_iload dL_law_788 rfl ?_
  refine bx_if_eq (tgt := 807) dL_law_790 (by decide) (by decide) (fun c790 => ?_) (fun c790 => ?_)
  · exact absurd c790 (by decide)
  · refine bx_aload dL_law_793 rfl ?_
    refine bx_aload dL_law_795 rfl ?_
    refine bx_iload dL_law_797 rfl ?_
    refine bx_iload dL_law_799 rfl ?_
    refine bx_cv3 dL_law_801 ln_L_law_278 (Nat.le_of_ble_eq_true rfl) (by decide) hC.1.1.1 rfl (Nat.zero_le _) (Nat.zero_le _) (kt_spars hC.1.1 hK hi9 hon (len := ln) (dn := dn) (by omega)) (fun v9 u9 h9 hq9 => ?_)
    rw [ix_m hx, ix_d hx] at hq9
    obtain ⟨rfl, rfl, hT9, hF9⟩ := hq9
    have C9 := hC.mt hK hF9 hT9 tm9
    refine bx_goto (tgt := 809) dL_law_804 (by decide) ?_
    refine gx_icmp_ne (tgt := 816) dL_law_809 (by decide) (fun q9 => absurd (rfl) q9) (fun _ => ?_)
    refine bx_iconst dL_law_812 ?_
    refine bx_goto (tgt := 817) dL_law_813 (by decide) ?_
    refine bx_istore_n dL_law_817 rfl (by decide) rfl ?_
    refine bx_goto (tgt := 1020) dL_law_818 (by decide) ?_
    refine gx_forg (i := 12) ?_
    refine gx_forg (i := 13) ?_
    refine gx_forg (i := 14) ?_
    refine gx_forg (i := 15) ?_
    refine gx_forg (i := 16) ?_
    refine gx_forg (i := 23) ?_
    refine gx_forg (i := 24) ?_
    exact kk1 _ _ _ _ _ Z9 C9 (by omega) (by omega)
theorem lc_spar_off (hZ : LZ u K H (min (n8 + 1) 8)) (hC : KC h r B n8 k k2 w m p cl ce K K H) (hx : x < K 0) (hy : y < K 1) (hon : ¬ on K (y * K 0 + x) = true) {q ln : Nat} {dn : Bool} (hl : 1 ≤ ln ∧ ln ≤ 4) (hc : 1000 ≤ c) (hs : 6100 ≤ sl) (kk0 : ∀ (h1 : hg) (c1 s1 : Nat), KC h1 r B n8 k k2 w m p cl ce K K H → c ≤ c1 + 1000 → sl ≤ s1 + 6100 → Gx ad sc M_L_law 1020 [.ref (ad 3000), .int (I 1), .int (I 0), .ref (ad 0), .ref b, .ref r, .ref k, .ref B, .int (I (n8 : Int)), .int (I (t : Int)), .ref k2, .int (I 0), uk, uk, uk, uk, uk, uk, uk, uk, uk, uk, uk, uk, uk, uk, uk, uk] [] c1 s1 u h1 Q) : Gx ad sc M_L_law 772 [.ref (ad 3000), .int (I 1), .int (I 0), .ref (ad 0), .ref b, .ref r, .ref k, .ref B, .int (I (n8 : Int)), .int (I (t : Int)), .ref k2, .int (I 1), .int (I (x : Int)), .int (I (y : Int)), .null, .int (I 0), .int (I (q : Int)), uk, uk, uk, uk, uk, uk, .int (I (if dn = true then 1 else 0)), .int (I (ln : Int)), uk, uk, uk] [] c sl u h Q := by
  obtain ⟨⟨e, rr, T, hLA, hTX, hr0, hr6⟩, hK, hH⟩ := id hZ
  obtain ⟨a1, ⟨KS, a2⟩, a3, a4, a5, a6, a7, a8, a9, ⟨n0, a10⟩, a11, a12, a13⟩ := id hLA
  have k0 := hK.1
  have hn9 := nC_le hK
  have hzo : ¬ onZ K (x : Int) (y : Int) = true := by rw [← on_at hx]; exact hon
  refine bx_iload dL_law_772 rfl ?_
  refine bx_istore dL_law_774 rfl (by decide) rfl ?_
  refine bx_aload_n dL_law_776 rfl ?_
  refine bx_iload dL_law_777 rfl ?_
  refine bx_iload dL_law_779 rfl ?_
  refine bx_iload dL_law_781 rfl ?_
  refine bx_iload dL_law_783 rfl ?_
  refine gx_cwr (n := 5) (As := [.int (I (x : Int)), .int (I (y : Int)), .int (I (if dn = true then 1 else 0)), .int (I (ln : Int))]) dL_law_785 ln_L_law_250 rfl (Nat.le_of_ble_eq_true rfl) (nrI (xs := [I (x : Int), I (y : Int), I (if dn = true then 1 else 0), I (ln : Int)])) (by omega) (by omega) (fun Γ l St adV hE hX hl9 hLn => wx_spar0 hE hX hl9 hLn (by decide) a3 (sx_spar1 (Nat.le_refl _) a3 a1 hK (x := (x : Int)) (by omega) (y := (y : Int)) (by omega) hzo)) (fun r9 u9 hq9 => ?_)
  obtain ⟨rfl, rfl⟩ := hq9
  refine bx_iload dL_law_788 rfl ?_
  refine bx_if_eq (tgt := 807) dL_law_790 (by decide) (by decide) (fun c790 => ?_) (fun c790 => ?_)
  · refine gx_ldcI (cn_L_52 rfl) dL_law_807 ?_
    refine gx_icmp_ne (tgt := 816) dL_law_809 (by decide) (fun q9 => absurd (rfl) q9) (fun _ => ?_)
    refine bx_iconst dL_law_812 ?_
    refine bx_goto (tgt := 817) dL_law_813 (by decide) ?_
    refine bx_istore_n dL_law_817 rfl (by decide) rfl ?_
    refine bx_goto (tgt := 1020) dL_law_818 (by decide) ?_
    refine gx_forg (i := 12) ?_
    refine gx_forg (i := 13) ?_
    refine gx_forg (i := 14) ?_
    refine gx_forg (i := 15) ?_
    refine gx_forg (i := 16) ?_
    refine gx_forg (i := 23) ?_
    refine gx_forg (i := 24) ?_
    exact kk0 _ _ _ hC (by omega) (by omega)
  · exact absurd rfl c790
theorem lc_spar_pre {cv : Value} {ov : Int} {q : Nat} (hC : KC h r B n8 k k2 w m p cl ce K K H) (kk : ∀ (h1 : hg) (ln : Nat) (dn : Bool), KC h1 r B n8 k k2 w m p cl ce K K H → 1 ≤ ln ∧ ln ≤ 4 → Gx ad sc M_L_law 772 [.ref (ad 3000), .int (I 1), .int (I 0), .ref (ad 0), .ref b, .ref r, .ref k, .ref B, .int (I (n8 : Int)), .int (I (t : Int)), .ref k2, .int (I 1), .int (I (x : Int)), .int (I (y : Int)), cv, .int (I ov), .int (I (q : Int)), uk, uk, uk, uk, uk, uk, .int (I (if dn = true then 1 else 0)), .int (I (ln : Int)), uk, uk, uk] [] c sl u h1 Q) : Gx ad sc M_L_law 746 [.ref (ad 3000), .int (I 1), .int (I 0), .ref (ad 0), .ref b, .ref r, .ref k, .ref B, .int (I (n8 : Int)), .int (I (t : Int)), .ref k2, .int (I 1), .int (I (x : Int)), .int (I (y : Int)), cv, .int (I ov), .int (I (q : Int)), uk, uk, uk, uk, uk, uk, uk, uk, uk, uk, uk] [] c sl u h Q := by
  refine bx_aload dL_law_746 rfl ?_
  refine bx_iconst dL_law_748 ?_
  obtain ⟨sR2, hsR2⟩ := hC.1.2.2.1
  refine bx_cv1 dL_law_749 ln_L_law_117 (Nat.le_of_ble_eq_true rfl) (by decide) hsR2 rfl (Nat.zero_le _) (Nat.zero_le _) (kr_below hsR2 (b := 2) (by decide)) (fun v2 u2 h2 hq2 => ?_)
  obtain ⟨rfl, ⟨z2, hz2, rfl⟩, s12, hh2⟩ := hq2
  have F2 : FRM h h2 (fun x => x = r) := by rw [hh2]; exact FRM.u1 rfl
  have C2 := hC.rd F2 ⟨s12, by rw [hh2]; exact ug_eq⟩
  refine bx_if_ne (tgt := 759) dL_law_752 (by decide) (by omega) (fun c752 => ?_) (fun c752 => ?_)
  · refine bx_iconst dL_law_759 ?_
    refine bx_istore dL_law_760 rfl (by decide) rfl ?_
    refine bx_iconst dL_law_762 ?_
    refine bx_aload dL_law_763 rfl ?_
    refine bx_iconst dL_law_765 ?_
    obtain ⟨sR3, hsR3⟩ := C2.1.2.2.1
    refine bx_cv1 dL_law_766 ln_L_law_117 (Nat.le_of_ble_eq_true rfl) (by decide) hsR3 rfl (Nat.zero_le _) (Nat.zero_le _) (kr_below hsR3 (b := 4) (by decide)) (fun v3 u3 h3 hq3 => ?_)
    obtain ⟨rfl, ⟨z3, hz3, rfl⟩, s13, hh3⟩ := hq3
    have F3 : FRM h2 h3 (fun x => x = r) := by rw [hh3]; exact FRM.u1 rfl
    have C3 := C2.rd F3 ⟨s13, by rw [hh3]; exact ug_eq⟩
    refine bx_iadd dL_law_769 ?_
    rw [show (1 + (z3 : Int)) = ((z3 + 1 : Nat) : Int) by omega]
    refine bx_istore dL_law_770 rfl (by decide) rfl ?_
    exact kk h3 _ false C3 (by omega)
  · refine bx_iconst dL_law_755 ?_
    refine bx_goto (tgt := 760) dL_law_756 (by decide) ?_
    refine bx_istore dL_law_760 rfl (by decide) rfl ?_
    refine bx_iconst dL_law_762 ?_
    refine bx_aload dL_law_763 rfl ?_
    refine bx_iconst dL_law_765 ?_
    obtain ⟨sR3, hsR3⟩ := C2.1.2.2.1
    refine bx_cv1 dL_law_766 ln_L_law_117 (Nat.le_of_ble_eq_true rfl) (by decide) hsR3 rfl (Nat.zero_le _) (Nat.zero_le _) (kr_below hsR3 (b := 4) (by decide)) (fun v3 u3 h3 hq3 => ?_)
    obtain ⟨rfl, ⟨z3, hz3, rfl⟩, s13, hh3⟩ := hq3
    have F3 : FRM h2 h3 (fun x => x = r) := by rw [hh3]; exact FRM.u1 rfl
    have C3 := C2.rd F3 ⟨s13, by rw [hh3]; exact ug_eq⟩
    refine bx_iadd dL_law_769 ?_
    rw [show (1 + (z3 : Int)) = ((z3 + 1 : Nat) : Int) by omega]
    refine bx_istore dL_law_770 rfl (by decide) rfl ?_
    exact kk h3 _ true C3 (by omega)
end LS
