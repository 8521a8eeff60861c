/-! THE LAW: pass; a turn -/
section LS
variable {ad : Nat → Nat} {sc : Nat × (Nat → Int32)} {u : hp} {h : hg} {Q : qg} {b r B n8 t k k2 w m p cl c sl : Nat} {ce : Nat → Nat} {K K0 : Nat → Nat} {H : Nat → Nat → Nat}
variable {x y : Nat}
set_option maxRecDepth 20000 in
theorem lw_ticks {cv : Value} {ov : Int} {q : Nat} {T : Nat} (hT9 : 1 ≤ T ∧ T ≤ 4) (hcs : 800 ≤ c ∧ 4800 ≤ sl) (hK : KI K) (kk : ∀ (h1 : hg) (c1 s1 : Nat), KC h1 r B n8 k k2 w m p cl ce K (fotK K T) H → c ≤ c1 + 800 → sl ≤ s1 + 4800 → Gx ad sc M_L_law 1003 [.ref (ad 3000), .int (I 1), .int (I 0), .ref (ad 0), .ref b, .ref r, .ref k, .ref B, .int (I (n8 : Int)), .int (I (t : Int)), .ref k2, .int (I 1), .int (I (x : Int)), .int (I (y : Int)), cv, .int (I ov), .int (I (q : Int)), uk, uk, uk, uk, uk, uk, uk, uk, .int (I (T : Int)), .int (I (blI K T)), .int (I (T : Int))] [] c1 s1 u h1 Q) : ∀ (n j : Nat) (h : hg) (c1 s1 : Nat), j + n = T → KC h r B n8 k k2 w m p cl ce K (fotK K j) H → c + 200 * n ≤ c1 + 800 → sl + 1200 * n ≤ s1 + 4800 → Gx ad sc M_L_law 980 [.ref (ad 3000), .int (I 1), .int (I 0), .ref (ad 0), .ref b, .ref r, .ref k, .ref B, .int (I (n8 : Int)), .int (I (t : Int)), .ref k2, .int (I 1), .int (I (x : Int)), .int (I (y : Int)), cv, .int (I ov), .int (I (q : Int)), uk, uk, uk, uk, uk, uk, uk, uk, .int (I (T : Int)), .int (I (blI K j)), .int (I (j : Int))] [] c1 s1 u h Q := by
  intro n
  induction n with
  | zero =>
    intro j h c1 s1 hj hC hcc hss
    refine bx_iload dL_law_980 rfl ?_
    refine bx_iload dL_law_982 rfl ?_
    refine bx_icmp_ge (tgt := 1003) dL_law_984 (by decide) (by omega) (by omega) (fun c984 => ?_) (fun c984 => ?_)
    · obtain rfl : j = T := by omega
      exact kk _ _ _ hC (by omega) (by omega)
    · exfalso
      omega
  | succ n ih =>
    intro j h c1 s1 hj hC hcc hss
    refine bx_iload dL_law_980 rfl ?_
    refine bx_iload dL_law_982 rfl ?_
    refine bx_icmp_ge (tgt := 1003) dL_law_984 (by decide) (by omega) (by omega) (fun c984 => ?_) (fun c984 => ?_)
    · exfalso
      omega
    · refine bx_iload dL_law_987 rfl ?_
      refine bx_aload dL_law_989 rfl ?_
      have b1 : 200 ≤ c1 := by omega
      have b2 : 1200 ≤ s1 := by omega
      refine bx_cv0 dL_law_991 ln_L_law_288 (Nat.le_of_ble_eq_true rfl) (by decide) hC.1.1.1 rfl b1 b2 (kt_ticks hC.1.1 (hK.fot j) hC.1.2.1) (fun v9 u9 h9 hq9 => ?_)
      obtain ⟨rfl, rfl, hT8, hF8⟩ := hq9
      rw [fot_s] at hT8
      have C9 := hC.mt (hK.fot j) hF8 hT8 (by rw [← fot_s]; exact tm.tik)
      rw [ble_fot]
      refine bx_iadd dL_law_994 ?_
      refine bx_istore dL_law_995 rfl (by decide) rfl ?_
      refine bx_iinc dL_law_997 rfl rfl (by decide) rfl ?_
      refine bx_goto (tgt := 980) dL_law_1000 (by decide) ?_
      exact ih (j + 1) _ _ _ (by omega) C9 (by omega) (by omega)
set_option maxRecDepth 20000 in
theorem lc_pass {cv : Value} {ov : Int} {q : Nat} (hZ : LZ u K H (min (n8 + 1) 8)) (hC : KC h r B n8 k k2 w m p cl ce K K H) (hc : 1000 ≤ c) (hs : 6100 ≤ sl) (kk1 : ∀ (u1 : hp) (h1 : hg) (K1 : Nat → Nat) (c1 s1 : Nat), LZ u1 K1 (psh K H) (min ((min (n8 + 1) 8) + 1) 8) → KC h1 r B n8 k k2 w m p cl ce K K1 H → c ≤ c1 + 1000 → sl ≤ s1 + 6100 → Gx ad sc M_L_law 1020 [.ref (ad 3000), .int (I 1), .int (I 0), .ref (ad 0), .ref b, .ref r, .ref k, .ref B, .int (I (n8 : Int)), .int (I (t : Int)), .ref k2, .int (I 1), uk, uk, uk, uk, uk, uk, uk, uk, uk, uk, uk, uk, uk, uk, uk, uk] [] c1 s1 u1 h1 Q) : Gx ad sc M_L_law 964 [.ref (ad 3000), .int (I 1), .int (I 0), .ref (ad 0), .ref b, .ref r, .ref k, .ref B, .int (I (n8 : Int)), .int (I (t : Int)), .ref k2, .int (I 1), .int (I (x : Int)), .int (I (y : Int)), cv, .int (I ov), .int (I (q : Int)), uk, uk, uk, uk, uk, uk, uk, uk, uk, uk, uk] [] c sl u h Q := by
  obtain ⟨⟨e, rr, T, hLA, hTX, hr0, hr6⟩, hK, hH⟩ := id hZ
  obtain ⟨a1, ⟨KS, a2⟩, a3, a4, a5, a6, a7, a8, a9, ⟨n0, a10⟩, a11, a12, a13⟩ := id hLA
  have k0 := hK.1
  have hn9 := nC_le hK
  refine bx_iconst dL_law_964 ?_
  refine bx_aload dL_law_965 rfl ?_
  refine bx_iconst dL_law_967 ?_
  obtain ⟨sR2, hsR2⟩ := hC.1.2.2.1
  refine bx_cv1 dL_law_968 ln_L_law_117 (Nat.le_of_ble_eq_true rfl) (by decide) hsR2 rfl (Nat.zero_le _) (Nat.zero_le _) (kr_below hsR2 (b := 4) (by decide)) (fun v2 u2 h2 hq2 => ?_)
  obtain ⟨rfl, ⟨z2, hz2, rfl⟩, s12, hh2⟩ := hq2
  have F2 : FRM h h2 (fun x => x = r) := by rw [hh2]; exact FRM.u1 rfl
  have C2 := hC.rd F2 ⟨s12, by rw [hh2]; exact ug_eq⟩
  refine bx_iadd dL_law_971 ?_
  rw [show (1 + (z2 : Int)) = ((z2 + 1 : Nat) : Int) by omega]
  refine bx_istore dL_law_972 rfl (by decide) rfl ?_
  refine bx_iconst dL_law_974 ?_
  refine bx_istore dL_law_975 rfl (by decide) rfl ?_
  refine bx_iconst dL_law_977 ?_
  refine bx_istore dL_law_978 rfl (by decide) rfl ?_
  refine lw_ticks (K := K) (c := c) (sl := sl) (T := z2 + 1) (by omega) (by omega) hK (fun h3 c3 s3 C3 b3 b4 => ?_) (z2 + 1) 0 _ _ _ (by omega) (by rw [fot_0]; exact C2) (by omega) (by omega)
  refine bx_aload_n dL_law_1003 rfl ?_
  refine bx_iload dL_law_1004 rfl ?_
  refine gx_cwr (n := 2) (As := [.int (I ((z2 + 1 : Nat) : Int))]) dL_law_1006 ln_L_law_253 rfl (Nat.le_of_ble_eq_true rfl) (nrI (xs := [I ((z2 + 1 : Nat) : Int)])) (by omega) (by omega) (fun Γ l St adV hE hX hl9 hLn => wr_pass hE hX hl9 (by decide) a3 (sp_pass (Nat.le_refl _) a3 a1 hK a4 a7 a8 a9 (a := ((z2 + 1 : Nat) : Int)) (by omega) (by omega))) (fun r9 u9 hq9 => ?_)
  obtain ⟨e9, q1, q2, q4, q5, q3⟩ := hq9
  cases e9
  have Z9 := hZ.nP (K1 := fotK K (z2 + 1)) (hK.fot _) q1 q2 q4 q5 q3
  refine bx_iload dL_law_1009 rfl ?_
  refine gx_icmp_ne (tgt := 1018) dL_law_1011 (by decide) (fun q9 => absurd (rfl) q9) (fun _ => ?_)
  refine bx_iconst dL_law_1014 ?_
  refine bx_goto (tgt := 1019) dL_law_1015 (by decide) ?_
  refine bx_istore_n dL_law_1019 rfl (by decide) rfl ?_
  refine gx_forg (i := 12) ?_
  refine gx_forg (i := 13) ?_
  refine gx_forg (i := 14) ?_
  refine gx_forg (i := 15) ?_
  refine gx_forg (i := 16) ?_
  refine gx_forg (i := 25) ?_
  refine gx_forg (i := 26) ?_
  refine gx_forg (i := 27) ?_
  exact kk1 _ _ _ _ _ Z9 C3 (by omega) (by omega)
set_option maxRecDepth 20000 in
theorem lw_turn (hZ : LZ u K H (min (n8 + 1) 8)) (hV : KV h r B n8 k w m p cl ce K H) (hn : n8 ≤ 20) (hc : 1200 ≤ c) (hs : 7300 ≤ sl) (kk : ∀ (u1 : hp) (h1 : hg) (K1 : Nat → Nat) (n1 : Nat) (H1 : Nat → Nat → Nat) (c1 s1 : Nat), LZ u1 K1 H1 (min (n1 + 1) 8) → KV h1 r B n1 k w m p cl ce K1 H1 → n1 ≤ n8 + 1 → c ≤ c1 + 1200 → sl ≤ s1 + 7300 → Gx ad sc M_L_law 1061 [.ref (ad 3000), .int (I 1), .int (I 0), .ref (ad 0), .ref b, .ref r, .ref k, .ref B, .int (I (n1 : Int)), .int (I (t : Int)), uk, uk, uk, uk, uk, uk, uk, uk, uk, uk, uk, uk, uk, uk, uk, uk, uk, uk] [] c1 s1 u1 h1 Q) : Gx ad sc M_L_law 306 [.ref (ad 3000), .int (I 1), .int (I 0), .ref (ad 0), .ref b, .ref r, .ref k, .ref B, .int (I (n8 : Int)), .int (I (t : Int)), uk, uk, uk, uk, uk, uk, uk, uk, uk, uk, uk, uk, uk, uk, uk, uk, uk, uk] [] c sl u h Q := by
  obtain ⟨⟨e, rr, T, hLA, hTX, hr0, hr6⟩, hK, hH⟩ := id hZ
  obtain ⟨a1, ⟨KS, a2⟩, a3, a4, a5, a6, a7, a8, a9, ⟨n0, a10⟩, a11, a12, a13⟩ := id hLA
  have k0 := hK.1
  have hn9 := nC_le hK
  refine bx_aload dL_law_306 rfl ?_
  refine bx_cv0 dL_law_308 ln_L_law_259 (Nat.le_of_ble_eq_true rfl) (by decide) hV.1.1 rfl (by omega) (by omega) (kt_copy hV.1 hK) (fun v9 u9 h9 hq9 => ?_)
  obtain ⟨rfl, k2, cl2, ce2, rfl, nk, hL⟩ := hq9
  have C0 := hV.cp nk hL
  refine bx_astore dL_law_311 rfl (by decide) rfl ?_
  refine bx_iconst dL_law_313 ?_
  refine bx_istore dL_law_314 rfl (by decide) rfl ?_
  refine bx_aload dL_law_316 rfl ?_
  refine bx_aload dL_law_318 rfl ?_
  refine bx_getf dL_law_320 ck7 fg_KitePainterLaw_122 (by decide) C0.1.1.1 rfl ?_
  obtain ⟨sR3, hsR3⟩ := C0.1.2.2.1
  refine bx_cv1 dL_law_323 ln_L_law_117 (Nat.le_of_ble_eq_true rfl) (by decide) hsR3 rfl (Nat.zero_le _) (Nat.zero_le _) (kr_below hsR3 (b := K 0) (by omega)) (fun v3 u3 h3 hq3 => ?_)
  obtain ⟨rfl, ⟨z3, hz3, rfl⟩, s13, hh3⟩ := hq3
  have F3 : FRM h9 h3 (fun x => x = r) := by rw [hh3]; exact FRM.u1 rfl
  have C3 := C0.rd F3 ⟨s13, by rw [hh3]; exact ug_eq⟩
  refine bx_istore dL_law_326 rfl (by decide) rfl ?_
  refine bx_aload dL_law_328 rfl ?_
  refine bx_aload dL_law_330 rfl ?_
  refine bx_getf dL_law_332 ck7 fg_KitePainterLaw_126 (by decide) C3.1.1.1 rfl ?_
  obtain ⟨sR4, hsR4⟩ := C3.1.2.2.1
  refine bx_cv1 dL_law_335 ln_L_law_117 (Nat.le_of_ble_eq_true rfl) (by decide) hsR4 rfl (Nat.zero_le _) (Nat.zero_le _) (kr_below hsR4 (b := K 1) (by omega)) (fun v4 u4 h4 hq4 => ?_)
  obtain ⟨rfl, ⟨z4, hz4, rfl⟩, s14, hh4⟩ := hq4
  have F4 : FRM h3 h4 (fun x => x = r) := by rw [hh4]; exact FRM.u1 rfl
  have C4 := C3.rd F4 ⟨s14, by rw [hh4]; exact ug_eq⟩
  refine bx_istore dL_law_338 rfl (by decide) rfl ?_
  by_cases hon : on K (z4 * K 0 + z3) = true
  · have hat : atR K ce (z3 : Int) (z4 : Int) = some (ce (z4 * K 0 + z3)) := by rw [atR_in hz3]; exact if_pos hon
    refine bx_aload dL_law_340 rfl ?_
    refine bx_iload dL_law_342 rfl ?_
    refine bx_iload dL_law_344 rfl ?_
    refine bx_cvP2 dL_law_346 ln_L_law_167 (Nat.le_of_ble_eq_true rfl) (by decide) C4.1.1.1 rfl (kt_at C4.1.1 hK (x := (z3 : Int)) (y := (z4 : Int)) (by omega) (by omega)) ?_
    rw [hat]
    refine bx_astore dL_law_349 rfl (by decide) rfl ?_
    refine bx_aload dL_law_351 rfl ?_
    refine gx_ifnull dL_law_353 ?_
    refine bx_iconst dL_law_356 ?_
    refine bx_goto (tgt := 361) dL_law_357 (by decide) ?_
    refine bx_istore dL_law_361 rfl (by decide) rfl ?_
    refine bx_iconst dL_law_363 ?_
    refine bx_aload dL_law_364 rfl ?_
    refine bx_bipush dL_law_366 (by decide) ?_
    obtain ⟨sR5, hsR5⟩ := C4.1.2.2.1
    refine bx_cv1 dL_law_368 ln_L_law_117 (Nat.le_of_ble_eq_true rfl) (by decide) hsR5 rfl (Nat.zero_le _) (Nat.zero_le _) (kr_below hsR5 (b := 7) (by decide)) (fun v5 u5 h5 hq5 => ?_)
    obtain ⟨rfl, ⟨z5, hz5, rfl⟩, s15, hh5⟩ := hq5
    have F5 : FRM h4 h5 (fun x => x = r) := by rw [hh5]; exact FRM.u1 rfl
    have C5 := C4.rd F5 ⟨s15, by rw [hh5]; exact ug_eq⟩
    refine bx_iadd dL_law_371 ?_
    rw [show (1 + (z5 : Int)) = ((z5 + 1 : Nat) : Int) by omega]
    refine bx_istore dL_law_372 rfl (by decide) rfl ?_
    refine bx_aload dL_law_374 rfl ?_
    refine bx_bipush dL_law_376 (by decide) ?_
    obtain ⟨sR6, hsR6⟩ := C5.1.2.2.1
    refine bx_cv1 dL_law_378 ln_L_law_117 (Nat.le_of_ble_eq_true rfl) (by decide) hsR6 rfl (Nat.zero_le _) (Nat.zero_le _) (kr_below hsR6 (b := 9) (by decide)) (fun v6 u6 h6 hq6 => ?_)
    obtain ⟨rfl, ⟨z6, hz6, rfl⟩, s16, hh6⟩ := hq6
    have F6 : FRM h5 h6 (fun x => x = r) := by rw [hh6]; exact FRM.u1 rfl
    have C6 := C5.rd F6 ⟨s16, by rw [hh6]; exact ug_eq⟩
    rcases (by omega : z6 = 0 ∨ z6 = 1 ∨ z6 = 2 ∨ z6 = 3 ∨ z6 = 4 ∨ z6 = 5 ∨ z6 = 6 ∨ z6 = 7 ∨ z6 = 8) with rfl | rfl | rfl | rfl | rfl | rfl | rfl | rfl | rfl
    · refine gx_tabI (tgt := 424) dL_law_381 (by decide) (by decide) rfl (by decide) ?_
      refine lc_paint_pre C6 (fun h7 wn mi C7 hw => ?_)
      exact lc_paint_on hZ C7 hz3 hz4 hon ⟨by omega, by omega⟩ hw (by omega) (by omega) (fun u5 h5 K5 c5 s5 Z5 C5 b5 b6 => lw_keep C5 (by omega) (fun h6 V6 => kk _ _ _ _ _ _ _ (by rw [show min (n8 + 1 + 1) 8 = min (min (n8 + 1) 8 + 1) 8 by omega]; exact Z5) V6 (by omega) (by omega) (by omega))) (fun h5 c5 s5 C5 b5 b6 => lw_skip (kk _ _ _ _ _ _ _ hZ C5.1 (by omega) (by omega) (by omega)))
    · refine gx_tabI (tgt := 424) dL_law_381 (by decide) (by decide) rfl (by decide) ?_
      refine lc_paint_pre C6 (fun h7 wn mi C7 hw => ?_)
      exact lc_paint_on hZ C7 hz3 hz4 hon ⟨by omega, by omega⟩ hw (by omega) (by omega) (fun u5 h5 K5 c5 s5 Z5 C5 b5 b6 => lw_keep C5 (by omega) (fun h6 V6 => kk _ _ _ _ _ _ _ (by rw [show min (n8 + 1 + 1) 8 = min (min (n8 + 1) 8 + 1) 8 by omega]; exact Z5) V6 (by omega) (by omega) (by omega))) (fun h5 c5 s5 C5 b5 b6 => lw_skip (kk _ _ _ _ _ _ _ hZ C5.1 (by omega) (by omega) (by omega)))
    · refine gx_tabI (tgt := 539) dL_law_381 (by decide) (by decide) rfl (by decide) ?_
      refine lc_stroke_pre C6 (fun h7 wy ln C7 hw hl => ?_)
      exact lc_stroke_on hZ C7 hz3 hz4 hon ⟨by omega, by omega⟩ hw hl (by omega) (by omega) (fun u5 h5 K5 c5 s5 Z5 C5 b5 b6 => lw_keep C5 (by omega) (fun h6 V6 => kk _ _ _ _ _ _ _ (by rw [show min (n8 + 1 + 1) 8 = min (min (n8 + 1) 8 + 1) 8 by omega]; exact Z5) V6 (by omega) (by omega) (by omega))) (fun h5 c5 s5 C5 b5 b6 => lw_skip (kk _ _ _ _ _ _ _ hZ C5.1 (by omega) (by omega) (by omega)))
    · refine gx_tabI (tgt := 639) dL_law_381 (by decide) (by decide) rfl (by decide) ?_
      refine lc_stamp_pre C6 hK (fun h7 pp mi C7 hw => ?_)
      exact lc_stamp_on hZ C7 hz3 hz4 hon hw (by omega) (by omega) (fun u5 h5 K5 c5 s5 Z5 C5 b5 b6 => lw_keep C5 (by omega) (fun h6 V6 => kk _ _ _ _ _ _ _ (by rw [show min (n8 + 1 + 1) 8 = min (min (n8 + 1) 8 + 1) 8 by omega]; exact Z5) V6 (by omega) (by omega) (by omega))) (fun h5 c5 s5 C5 b5 b6 => lw_skip (kk _ _ _ _ _ _ _ hZ C5.1 (by omega) (by omega) (by omega)))
    · refine gx_tabI (tgt := 746) dL_law_381 (by decide) (by decide) rfl (by decide) ?_
      refine lc_spar_pre C6 (fun h7 ln dn C7 hl => ?_)
      exact lc_spar_on hZ C7 hz3 hz4 hon hl (by omega) (by omega) (fun u5 h5 K5 c5 s5 Z5 C5 b5 b6 => lw_keep C5 (by omega) (fun h6 V6 => kk _ _ _ _ _ _ _ (by rw [show min (n8 + 1 + 1) 8 = min (min (n8 + 1) 8 + 1) 8 by omega]; exact Z5) V6 (by omega) (by omega) (by omega)))
    · refine gx_tabI (tgt := 821) dL_law_381 (by decide) (by decide) rfl (by decide) ?_
      exact lc_strip_on hZ C6 hz3 hz4 hon (by omega) (by omega) (fun u5 h5 K5 c5 s5 Z5 C5 b5 b6 => lw_keep C5 (by omega) (fun h6 V6 => kk _ _ _ _ _ _ _ (by rw [show min (n8 + 1 + 1) 8 = min (min (n8 + 1) 8 + 1) 8 by omega]; exact Z5) V6 (by omega) (by omega) (by omega))) (fun h5 c5 s5 C5 b5 b6 => lw_skip (kk _ _ _ _ _ _ _ hZ C5.1 (by omega) (by omega) (by omega)))
    · refine gx_tabI (tgt := 897) dL_law_381 (by decide) (by decide) rfl (by decide) ?_
      exact lc_wash_on hZ C6 hz3 hz4 hon (by omega) (by omega) (fun u5 h5 K5 c5 s5 Z5 C5 b5 b6 => lw_keep C5 (by omega) (fun h6 V6 => kk _ _ _ _ _ _ _ (by rw [show min (n8 + 1 + 1) 8 = min (min (n8 + 1) 8 + 1) 8 by omega]; exact Z5) V6 (by omega) (by omega) (by omega))) (fun h5 c5 s5 C5 b5 b6 => lw_skip (kk _ _ _ _ _ _ _ hZ C5.1 (by omega) (by omega) (by omega)))
    · refine gx_tabO (tgt := 964) dL_law_381 (by decide) (by decide) ?_
      exact lc_pass hZ C6 (by omega) (by omega) (fun u5 h5 K5 c5 s5 Z5 C5 b5 b6 => lw_keep C5 (by omega) (fun h6 V6 => kk _ _ _ _ _ _ _ (by rw [show min (n8 + 1 + 1) 8 = min (min (n8 + 1) 8 + 1) 8 by omega]; exact Z5) V6 (by omega) (by omega) (by omega)))
    · refine gx_tabO (tgt := 964) dL_law_381 (by decide) (by decide) ?_
      exact lc_pass hZ C6 (by omega) (by omega) (fun u5 h5 K5 c5 s5 Z5 C5 b5 b6 => lw_keep C5 (by omega) (fun h6 V6 => kk _ _ _ _ _ _ _ (by rw [show min (n8 + 1 + 1) 8 = min (min (n8 + 1) 8 + 1) 8 by omega]; exact Z5) V6 (by omega) (by omega) (by omega)))
  · have hat : atR K ce (z3 : Int) (z4 : Int) = none := by rw [atR_in hz3]; exact if_neg hon
    refine bx_aload dL_law_340 rfl ?_
    refine bx_iload dL_law_342 rfl ?_
    refine bx_iload dL_law_344 rfl ?_
    refine bx_cvP2 dL_law_346 ln_L_law_167 (Nat.le_of_ble_eq_true rfl) (by decide) C4.1.1.1 rfl (kt_at C4.1.1 hK (x := (z3 : Int)) (y := (z4 : Int)) (by omega) (by omega)) ?_
    rw [hat]
    refine bx_astoreN dL_law_349 rfl (by decide) rfl ?_
    refine gx_aloadN rfl dL_law_351 ?_
    refine gx_ifnullN (tgt := 360) dL_law_353 (by decide) ?_
    refine bx_iconst dL_law_360 ?_
    refine bx_istore dL_law_361 rfl (by decide) rfl ?_
    refine bx_iconst dL_law_363 ?_
    refine bx_aload dL_law_364 rfl ?_
    refine bx_bipush dL_law_366 (by decide) ?_
    obtain ⟨sR5, hsR5⟩ := C4.1.2.2.1
    refine bx_cv1 dL_law_368 ln_L_law_117 (Nat.le_of_ble_eq_true rfl) (by decide) hsR5 rfl (Nat.zero_le _) (Nat.zero_le _) (kr_below hsR5 (b := 7) (by decide)) (fun v5 u5 h5 hq5 => ?_)
    obtain ⟨rfl, ⟨z5, hz5, rfl⟩, s15, hh5⟩ := hq5
    have F5 : FRM h4 h5 (fun x => x = r) := by rw [hh5]; exact FRM.u1 rfl
    have C5 := C4.rd F5 ⟨s15, by rw [hh5]; exact ug_eq⟩
    refine bx_iadd dL_law_371 ?_
    rw [show (1 + (z5 : Int)) = ((z5 + 1 : Nat) : Int) by omega]
    refine bx_istore dL_law_372 rfl (by decide) rfl ?_
    refine bx_aload dL_law_374 rfl ?_
    refine bx_bipush dL_law_376 (by decide) ?_
    obtain ⟨sR6, hsR6⟩ := C5.1.2.2.1
    refine bx_cv1 dL_law_378 ln_L_law_117 (Nat.le_of_ble_eq_true rfl) (by decide) hsR6 rfl (Nat.zero_le _) (Nat.zero_le _) (kr_below hsR6 (b := 9) (by decide)) (fun v6 u6 h6 hq6 => ?_)
    obtain ⟨rfl, ⟨z6, hz6, rfl⟩, s16, hh6⟩ := hq6
    have F6 : FRM h5 h6 (fun x => x = r) := by rw [hh6]; exact FRM.u1 rfl
    have C6 := C5.rd F6 ⟨s16, by rw [hh6]; exact ug_eq⟩
    rcases (by omega : z6 = 0 ∨ z6 = 1 ∨ z6 = 2 ∨ z6 = 3 ∨ z6 = 4 ∨ z6 = 5 ∨ z6 = 6 ∨ z6 = 7 ∨ z6 = 8) with rfl | rfl | rfl | rfl | rfl | rfl | rfl | rfl | rfl
    · refine gx_tabI (tgt := 424) dL_law_381 (by decide) (by decide) rfl (by decide) ?_
      refine lc_paint_pre C6 (fun h7 wn mi C7 hw => ?_)
      exact lc_paint_off hZ C7 hz3 hz4 hon ⟨by omega, by omega⟩ hw (by omega) (by omega) (fun h5 c5 s5 C5 b5 b6 => lw_skip (kk _ _ _ _ _ _ _ hZ C5.1 (by omega) (by omega) (by omega)))
    · refine gx_tabI (tgt := 424) dL_law_381 (by decide) (by decide) rfl (by decide) ?_
      refine lc_paint_pre C6 (fun h7 wn mi C7 hw => ?_)
      exact lc_paint_off hZ C7 hz3 hz4 hon ⟨by omega, by omega⟩ hw (by omega) (by omega) (fun h5 c5 s5 C5 b5 b6 => lw_skip (kk _ _ _ _ _ _ _ hZ C5.1 (by omega) (by omega) (by omega)))
    · refine gx_tabI (tgt := 539) dL_law_381 (by decide) (by decide) rfl (by decide) ?_
      refine lc_stroke_pre C6 (fun h7 wy ln C7 hw hl => ?_)
      exact lc_stroke_off hZ C7 hz3 hz4 hon ⟨by omega, by omega⟩ hw hl (by omega) (by omega) (fun h5 c5 s5 C5 b5 b6 => lw_skip (kk _ _ _ _ _ _ _ hZ C5.1 (by omega) (by omega) (by omega)))
    · refine gx_tabI (tgt := 639) dL_law_381 (by decide) (by decide) rfl (by decide) ?_
      refine lc_stamp_pre C6 hK (fun h7 pp mi C7 hw => ?_)
      exact lc_stamp_off hZ C7 hz3 hz4 hon hw (by omega) (by omega) (fun h5 c5 s5 C5 b5 b6 => lw_skip (kk _ _ _ _ _ _ _ hZ C5.1 (by omega) (by omega) (by omega)))
    · refine gx_tabI (tgt := 746) dL_law_381 (by decide) (by decide) rfl (by decide) ?_
      refine lc_spar_pre C6 (fun h7 ln dn C7 hl => ?_)
      exact lc_spar_off hZ C7 hz3 hz4 hon hl (by omega) (by omega) (fun h5 c5 s5 C5 b5 b6 => lw_skip (kk _ _ _ _ _ _ _ hZ C5.1 (by omega) (by omega) (by omega)))
    · refine gx_tabI (tgt := 821) dL_law_381 (by decide) (by decide) rfl (by decide) ?_
      exact lc_strip_off hZ C6 hz3 hz4 hon (by omega) (by omega) (fun h5 c5 s5 C5 b5 b6 => lw_skip (kk _ _ _ _ _ _ _ hZ C5.1 (by omega) (by omega) (by omega)))
    · refine gx_tabI (tgt := 897) dL_law_381 (by decide) (by decide) rfl (by decide) ?_
      exact lc_wash_off hZ C6 hz3 hz4 hon (by omega) (by omega) (fun h5 c5 s5 C5 b5 b6 => lw_skip (kk _ _ _ _ _ _ _ hZ C5.1 (by omega) (by omega) (by omega)))
    · refine gx_tabO (tgt := 964) dL_law_381 (by decide) (by decide) ?_
      exact lc_pass hZ C6 (by omega) (by omega) (fun u5 h5 K5 c5 s5 Z5 C5 b5 b6 => lw_keep C5 (by omega) (fun h6 V6 => kk _ _ _ _ _ _ _ (by rw [show min (n8 + 1 + 1) 8 = min (min (n8 + 1) 8 + 1) 8 by omega]; exact Z5) V6 (by omega) (by omega) (by omega)))
    · refine gx_tabO (tgt := 964) dL_law_381 (by decide) (by decide) ?_
      exact lc_pass hZ C6 (by omega) (by omega) (fun u5 h5 K5 c5 s5 Z5 C5 b5 b6 => lw_keep C5 (by omega) (fun h6 V6 => kk _ _ _ _ _ _ _ (by rw [show min (n8 + 1 + 1) 8 = min (min (n8 + 1) 8 + 1) 8 by omega]; exact Z5) V6 (by omega) (by omega) (by omega)))
end LS
