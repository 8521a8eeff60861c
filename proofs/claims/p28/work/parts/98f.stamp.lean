/-! THE LAW: stamp, strip, wash -/
section LS
variable {ad : Nat → Nat} {sc : Nat × (Nat → Int32)} {u : hp} {h : hg} {Q : qg} {b r B n8 t k k2 w m p cl c sl : Nat} {ce : Nat → Nat} {K K0 : Nat → Nat} {H : Nat → Nat → Nat}
variable {x y : Nat}
theorem lc_stamp_on (hZ : LZ u K H (min (n8 + 1) 8)) (hC : KC h r B n8 k k2 w m p cl ce K K H) (hx : x < K 0) (hy : y < K 1) (hon : on K (y * K 0 + x) = true) {q pp : Nat} {mi : Bool} (hq5 : pp ≤ K 5) (hc : 1000 ≤ c) (hs : 6100 ≤ sl) (kk1 : ∀ (u1 : hp) (h1 : hg) (K1 : Nat → Nat) (c1 s1 : Nat), LZ u1 K1 (psh K H) (min ((min (n8 + 1) 8) + 1) 8) → KC h1 r B n8 k k2 w m p cl ce K K1 H → c ≤ c1 + 1000 → sl ≤ s1 + 6100 → Gx ad sc M_L_law 1020 [.ref (ad 3000), .int (I 1), .int (I 0), .ref (ad 0), .ref b, .ref r, .ref k, .ref B, .int (I (n8 : Int)), .int (I (t : Int)), .ref k2, .int (I 1), uk, uk, uk, uk, uk, uk, uk, uk, uk, uk, uk, uk, uk, uk, uk, uk] [] c1 s1 u1 h1 Q) (kk0 : ∀ (h1 : hg) (c1 s1 : Nat), KC h1 r B n8 k k2 w m p cl ce K K H → c ≤ c1 + 1000 → sl ≤ s1 + 6100 → Gx ad sc M_L_law 1020 [.ref (ad 3000), .int (I 1), .int (I 0), .ref (ad 0), .ref b, .ref r, .ref k, .ref B, .int (I (n8 : Int)), .int (I (t : Int)), .ref k2, .int (I 0), uk, uk, uk, uk, uk, uk, uk, uk, uk, uk, uk, uk, uk, uk, uk, uk] [] c1 s1 u h1 Q) : Gx ad sc M_L_law 670 [.ref (ad 3000), .int (I 1), .int (I 0), .ref (ad 0), .ref b, .ref r, .ref k, .ref B, .int (I (n8 : Int)), .int (I (t : Int)), .ref k2, .int (I 1), .int (I (x : Int)), .int (I (y : Int)), .ref (ce (y * K 0 + x)), .int (I 1), .int (I (q : Int)), uk, uk, uk, uk, .int (I (pp : Int)), .int (I (if mi = true then 1 else 0)), uk, uk, uk, uk, uk] [] c sl u h Q := by
  obtain ⟨⟨e, rr, T, hLA, hTX, hr0, hr6⟩, hK, hH⟩ := id hZ
  obtain ⟨a1, ⟨KS, a2⟩, a3, a4, a5, a6, a7, a8, a9, ⟨n0, a10⟩, a11, a12, a13⟩ := id hLA
  have k0 := hK.1
  have hn9 := nC_le hK
  have hzo : onZ K (x : Int) (y : Int) = true := by rw [← on_at hx]; exact hon
  have hi9 : y * K 0 + x < nC K := by obtain ⟨q1, q2, e1, e2, -, -, e3, -⟩ := onZ_nat hK hzo; cases e1; cases e2; exact e3
  obtain ⟨pr, hp1, hp2⟩ := hC.1.2.1.2.2
  by_cases hpl : pp < K 5
  · refine bx_iload dL_law_670 rfl ?_
    refine bx_if_eq (tgt := 690) dL_law_672 (by decide) (by decide) (fun c672 => ?_) (fun c672 => ?_)
    · exact absurd c672 (by decide)
    · refine bx_iload dL_law_675 rfl ?_
      refine bx_aload dL_law_677 rfl ?_
      refine bx_getf dL_law_679 ck7 fg_KitePainterLaw_179 (by decide) hC.1.1.1 rfl ?_
      refine bx_alnq dL_law_682 hp1 (by decide) ?_
      refine bx_icmp_ge (tgt := 690) dL_law_683 (by decide) (by omega) (by omega) (fun c683 => ?_) (fun c683 => ?_)
      · exfalso
        omega
      · refine bx_iconst dL_law_686 ?_
        refine bx_goto (tgt := 691) dL_law_687 (by decide) ?_
        refine bx_istore dL_law_691 rfl (by decide) rfl ?_
        refine bx_aload_n dL_law_693 rfl ?_
        refine bx_iload dL_law_694 rfl ?_
        refine bx_iload dL_law_696 rfl ?_
        refine bx_iload dL_law_698 rfl ?_
        refine bx_iload dL_law_700 rfl ?_
        refine gx_cwr (n := 5) (As := [.int (I (pp : Int)), .int (I (x : Int)), .int (I (y : Int)), .int (I (if mi = true then 1 else 0))]) dL_law_702 ln_L_law_243 rfl (Nat.le_of_ble_eq_true rfl) (nrI (xs := [I (pp : Int), I (x : Int), I (y : Int), I (if mi = true then 1 else 0)])) (by omega) (by omega) (fun Γ l St adV hE hX hl9 hLn => wr_stamp hE hX hl9 (by decide) a3 (sp_stamp (Nat.le_refl _) a3 a1 hK a4 a2 (p := pp) hpl (x := (x : Int)) (by omega) (y := (y : Int)) (by omega) (mi := mi) hzo)) (fun r9 u9 hq9 => ?_)
        obtain ⟨e9, q1, q2, q4, q3⟩ := hq9
        cases e9
        obtain ⟨tm9, hK9⟩ := tm.stm (x := (x : Int)) (y := (y : Int)) (mi := mi) hK (p := pp) (by omega)
        have Z9 := hZ.nA (K1 := stmK K pp (x : Int) (y : Int) mi) hK9 q1 q2 q4 q3
        refine bx_iload dL_law_705 rfl ?_
        refine bx_if_eq (tgt := 732) dL_law_707 (by decide) (by decide) (fun c707 => ?_) (fun c707 => ?_)
        · exact absurd c707 (by decide)
        · refine bx_aload dL_law_710 rfl ?_
          refine bx_aload dL_law_712 rfl ?_
          refine bx_getf dL_law_714 ck7 fg_KitePainterLaw_179 (by decide) hC.1.1.1 rfl ?_
          refine bx_iload dL_law_717 rfl ?_
          refine bx_aalq (j := pp) (r := some (pr pp)) dL_law_719 hp1 (by decide) rfl hpl (by omega) rfl ?_
          refine bx_iload dL_law_720 rfl ?_
          refine bx_iload dL_law_722 rfl ?_
          refine bx_iload dL_law_724 rfl ?_
          refine bx_cv4 dL_law_726 ln_L_law_274 (Nat.le_of_ble_eq_true rfl) (by decide) hC.1.1.1 rfl (by omega) (by omega) (kt_stamps hC.1.1 hK hC.1.2.1 (pp := pp) (x := (x : Int)) (y := (y : Int)) (mi := mi) (by omega) (by omega) (by omega) (hp2 pp hpl)) (fun v9 u9 h9 hq9 => ?_)
          obtain ⟨rfl, rfl, hT9, hF9⟩ := hq9
          have C9 := hC.mt hK hF9 hT9 tm9
          refine bx_goto (tgt := 734) dL_law_729 (by decide) ?_
          refine gx_icmp_ne (tgt := 741) dL_law_734 (by decide) (fun q9 => absurd (rfl) q9) (fun _ => ?_)
          refine bx_iconst dL_law_737 ?_
          refine bx_goto (tgt := 742) dL_law_738 (by decide) ?_
          refine bx_istore_n dL_law_742 rfl (by decide) rfl ?_
          refine bx_goto (tgt := 1020) dL_law_743 (by decide) ?_
          refine gx_forg (i := 12) ?_
          refine gx_forg (i := 13) ?_
          refine gx_forg (i := 14) ?_
          refine gx_forg (i := 15) ?_
          refine gx_forg (i := 16) ?_
          refine gx_forg (i := 21) ?_
          refine gx_forg (i := 22) ?_
          exact kk1 _ _ _ _ _ Z9 C9 (by omega) (by omega)
  · refine bx_iload dL_law_670 rfl ?_
    refine bx_if_eq (tgt := 690) dL_law_672 (by decide) (by decide) (fun c672 => ?_) (fun c672 => ?_)
    · exact absurd c672 (by decide)
    · refine bx_iload dL_law_675 rfl ?_
      refine bx_aload dL_law_677 rfl ?_
      refine bx_getf dL_law_679 ck7 fg_KitePainterLaw_179 (by decide) hC.1.1.1 rfl ?_
      refine bx_alnq dL_law_682 hp1 (by decide) ?_
      refine bx_icmp_ge (tgt := 690) dL_law_683 (by decide) (by omega) (by omega) (fun c683 => ?_) (fun c683 => ?_)
      · refine bx_iconst dL_law_690 ?_
        refine bx_istore dL_law_691 rfl (by decide) rfl ?_
        refine bx_aload_n dL_law_693 rfl ?_
        refine bx_iload dL_law_694 rfl ?_
        refine bx_iload dL_law_696 rfl ?_
        refine bx_iload dL_law_698 rfl ?_
        refine bx_iload dL_law_700 rfl ?_
        refine gx_cwr (n := 5) (As := [.int (I (pp : Int)), .int (I (x : Int)), .int (I (y : Int)), .int (I (if mi = true then 1 else 0))]) dL_law_702 ln_L_law_243 rfl (Nat.le_of_ble_eq_true rfl) (nrI (xs := [I (pp : Int), I (x : Int), I (y : Int), I (if mi = true then 1 else 0)])) (by omega) (by omega) (fun Γ l St adV hE hX hl9 hLn => wx_stamp0 hE hX hl9 hLn (by decide) a3 (sx_stamp1 (Nat.le_refl _) a3 a1 hK (a := (pp : Int)) (by omega) (by omega))) (fun r9 u9 hq9 => ?_)
        obtain ⟨rfl, rfl⟩ := hq9
        refine bx_iload dL_law_705 rfl ?_
        refine bx_if_eq (tgt := 732) dL_law_707 (by decide) (by decide) (fun c707 => ?_) (fun c707 => ?_)
        · refine gx_ldcI (cn_L_52 rfl) dL_law_732 ?_
          refine gx_icmp_ne (tgt := 741) dL_law_734 (by decide) (fun q9 => absurd (rfl) q9) (fun _ => ?_)
          refine bx_iconst dL_law_737 ?_
          refine bx_goto (tgt := 742) dL_law_738 (by decide) ?_
          refine bx_istore_n dL_law_742 rfl (by decide) rfl ?_
          refine bx_goto (tgt := 1020) dL_law_743 (by decide) ?_
          refine gx_forg (i := 12) ?_
          refine gx_forg (i := 13) ?_
          refine gx_forg (i := 14) ?_
          refine gx_forg (i := 15) ?_
          refine gx_forg (i := 16) ?_
          refine gx_forg (i := 21) ?_
          refine gx_forg (i := 22) ?_
          exact kk0 _ _ _ hC (by omega) (by omega)
        · exact absurd rfl c707
      · exfalso
        omega
theorem lc_stamp_off (hZ : LZ u K H (min (n8 + 1) 8)) (hC : KC h r B n8 k k2 w m p cl ce K K H) (hx : x < K 0) (hy : y < K 1) (hon : ¬ on K (y * K 0 + x) = true) {q pp : Nat} {mi : Bool} (hq5 : pp ≤ K 5) (hc : 1000 ≤ c) (hs : 6100 ≤ sl) (kk0 : ∀ (h1 : hg) (c1 s1 : Nat), KC h1 r B n8 k k2 w m p cl ce K K H → c ≤ c1 + 1000 → sl ≤ s1 + 6100 → Gx ad sc M_L_law 1020 [.ref (ad 3000), .int (I 1), .int (I 0), .ref (ad 0), .ref b, .ref r, .ref k, .ref B, .int (I (n8 : Int)), .int (I (t : Int)), .ref k2, .int (I 0), uk, uk, uk, uk, uk, uk, uk, uk, uk, uk, uk, uk, uk, uk, uk, uk] [] c1 s1 u h1 Q) : Gx ad sc M_L_law 670 [.ref (ad 3000), .int (I 1), .int (I 0), .ref (ad 0), .ref b, .ref r, .ref k, .ref B, .int (I (n8 : Int)), .int (I (t : Int)), .ref k2, .int (I 1), .int (I (x : Int)), .int (I (y : Int)), .null, .int (I 0), .int (I (q : Int)), uk, uk, uk, uk, .int (I (pp : Int)), .int (I (if mi = true then 1 else 0)), uk, uk, uk, uk, uk] [] c sl u h Q := by
  obtain ⟨⟨e, rr, T, hLA, hTX, hr0, hr6⟩, hK, hH⟩ := id hZ
  obtain ⟨a1, ⟨KS, a2⟩, a3, a4, a5, a6, a7, a8, a9, ⟨n0, a10⟩, a11, a12, a13⟩ := id hLA
  have k0 := hK.1
  have hn9 := nC_le hK
  have hzo : ¬ onZ K (x : Int) (y : Int) = true := by rw [← on_at hx]; exact hon
  by_cases hpl : pp < K 5
  · refine bx_iload dL_law_670 rfl ?_
    refine bx_if_eq (tgt := 690) dL_law_672 (by decide) (by decide) (fun c672 => ?_) (fun c672 => ?_)
    · refine bx_iconst dL_law_690 ?_
      refine bx_istore dL_law_691 rfl (by decide) rfl ?_
      refine bx_aload_n dL_law_693 rfl ?_
      refine bx_iload dL_law_694 rfl ?_
      refine bx_iload dL_law_696 rfl ?_
      refine bx_iload dL_law_698 rfl ?_
      refine bx_iload dL_law_700 rfl ?_
      refine gx_cwr (n := 5) (As := [.int (I (pp : Int)), .int (I (x : Int)), .int (I (y : Int)), .int (I (if mi = true then 1 else 0))]) dL_law_702 ln_L_law_243 rfl (Nat.le_of_ble_eq_true rfl) (nrI (xs := [I (pp : Int), I (x : Int), I (y : Int), I (if mi = true then 1 else 0)])) (by omega) (by omega) (fun Γ l St adV hE hX hl9 hLn => wx_stamp0 hE hX hl9 hLn (by decide) a3 (sx_stamp2 (Nat.le_refl _) a3 a1 hK (a := (pp : Int)) (by omega) (x := (x : Int)) (by omega) (y := (y : Int)) (by omega) (by omega) hzo)) (fun r9 u9 hq9 => ?_)
      obtain ⟨rfl, rfl⟩ := hq9
      refine bx_iload dL_law_705 rfl ?_
      refine bx_if_eq (tgt := 732) dL_law_707 (by decide) (by decide) (fun c707 => ?_) (fun c707 => ?_)
      · refine gx_ldcI (cn_L_52 rfl) dL_law_732 ?_
        refine gx_icmp_ne (tgt := 741) dL_law_734 (by decide) (fun q9 => absurd (rfl) q9) (fun _ => ?_)
        refine bx_iconst dL_law_737 ?_
        refine bx_goto (tgt := 742) dL_law_738 (by decide) ?_
        refine bx_istore_n dL_law_742 rfl (by decide) rfl ?_
        refine bx_goto (tgt := 1020) dL_law_743 (by decide) ?_
        refine gx_forg (i := 12) ?_
        refine gx_forg (i := 13) ?_
        refine gx_forg (i := 14) ?_
        refine gx_forg (i := 15) ?_
        refine gx_forg (i := 16) ?_
        refine gx_forg (i := 21) ?_
        refine gx_forg (i := 22) ?_
        exact kk0 _ _ _ hC (by omega) (by omega)
      · exact absurd rfl c707
    · exact absurd rfl c672
  · refine bx_iload dL_law_670 rfl ?_
    refine bx_if_eq (tgt := 690) dL_law_672 (by decide) (by decide) (fun c672 => ?_) (fun c672 => ?_)
    · refine bx_iconst dL_law_690 ?_
      refine bx_istore dL_law_691 rfl (by decide) rfl ?_
      refine bx_aload_n dL_law_693 rfl ?_
      refine bx_iload dL_law_694 rfl ?_
      refine bx_iload dL_law_696 rfl ?_
      refine bx_iload dL_law_698 rfl ?_
      refine bx_iload dL_law_700 rfl ?_
      refine gx_cwr (n := 5) (As := [.int (I (pp : Int)), .int (I (x : Int)), .int (I (y : Int)), .int (I (if mi = true then 1 else 0))]) dL_law_702 ln_L_law_243 rfl (Nat.le_of_ble_eq_true rfl) (nrI (xs := [I (pp : Int), I (x : Int), I (y : Int), I (if mi = true then 1 else 0)])) (by omega) (by omega) (fun Γ l St adV hE hX hl9 hLn => wx_stamp0 hE hX hl9 hLn (by decide) a3 (sx_stamp1 (Nat.le_refl _) a3 a1 hK (a := (pp : Int)) (by omega) (by omega))) (fun r9 u9 hq9 => ?_)
      obtain ⟨rfl, rfl⟩ := hq9
      refine bx_iload dL_law_705 rfl ?_
      refine bx_if_eq (tgt := 732) dL_law_707 (by decide) (by decide) (fun c707 => ?_) (fun c707 => ?_)
      · refine gx_ldcI (cn_L_52 rfl) dL_law_732 ?_
        refine gx_icmp_ne (tgt := 741) dL_law_734 (by decide) (fun q9 => absurd (rfl) q9) (fun _ => ?_)
        refine bx_iconst dL_law_737 ?_
        refine bx_goto (tgt := 742) dL_law_738 (by decide) ?_
        refine bx_istore_n dL_law_742 rfl (by decide) rfl ?_
        refine bx_goto (tgt := 1020) dL_law_743 (by decide) ?_
        refine gx_forg (i := 12) ?_
        refine gx_forg (i := 13) ?_
        refine gx_forg (i := 14) ?_
        refine gx_forg (i := 15) ?_
        refine gx_forg (i := 16) ?_
        refine gx_forg (i := 21) ?_
        refine gx_forg (i := 22) ?_
        exact kk0 _ _ _ hC (by omega) (by omega)
      · exact absurd rfl c707
    · exact absurd rfl c672
theorem lc_stamp_pre {cv : Value} {ov : Int} {q : Nat} (hC : KC h r B n8 k k2 w m p cl ce K K H) (hK : KI K) (kk : ∀ (h1 : hg) (pp : Nat) (mi : Bool), KC h1 r B n8 k k2 w m p cl ce K K H → pp ≤ K 5 → Gx ad sc M_L_law 670 [.ref (ad 3000), .int (I 1), .int (I 0), .ref (ad 0), .ref b, .ref r, .ref k, .ref B, .int (I (n8 : Int)), .int (I (t : Int)), .ref k2, .int (I 1), .int (I (x : Int)), .int (I (y : Int)), cv, .int (I ov), .int (I (q : Int)), uk, uk, uk, uk, .int (I (pp : Int)), .int (I (if mi = true then 1 else 0)), uk, uk, uk, uk, uk] [] c sl u h1 Q) : Gx ad sc M_L_law 639 [.ref (ad 3000), .int (I 1), .int (I 0), .ref (ad 0), .ref b, .ref r, .ref k, .ref B, .int (I (n8 : Int)), .int (I (t : Int)), .ref k2, .int (I 1), .int (I (x : Int)), .int (I (y : Int)), cv, .int (I ov), .int (I (q : Int)), uk, uk, uk, uk, uk, uk, uk, uk, uk, uk, uk] [] c sl u h Q := by
  have k0 := hK.1
  obtain ⟨pr, hp1, hp2⟩ := hC.1.2.1.2.2
  refine bx_aload dL_law_639 rfl ?_
  refine bx_aload dL_law_641 rfl ?_
  refine bx_getf dL_law_643 ck7 fg_KitePainterLaw_179 (by decide) hC.1.1.1 rfl ?_
  refine bx_alnq dL_law_646 hp1 (by decide) ?_
  refine bx_iconst dL_law_647 ?_
  refine bx_iadd dL_law_648 ?_
  rw [show ((K 5 : Int) + 1) = ((K 5 + 1 : Nat) : Int) by omega]
  obtain ⟨sR2, hsR2⟩ := hC.1.2.2.1
  refine bx_cv1 dL_law_649 ln_L_law_117 (Nat.le_of_ble_eq_true rfl) (by decide) hsR2 rfl (Nat.zero_le _) (Nat.zero_le _) (kr_below hsR2 (b := K 5 + 1) (by omega)) (fun v2 u2 h2 hq2 => ?_)
  obtain ⟨rfl, ⟨z2, hz2, rfl⟩, s12, hh2⟩ := hq2
  have F2 : FRM h h2 (fun x => x = r) := by rw [hh2]; exact FRM.u1 rfl
  have C2 := hC.rd F2 ⟨s12, by rw [hh2]; exact ug_eq⟩
  refine bx_istore dL_law_652 rfl (by decide) rfl ?_
  refine bx_aload dL_law_654 rfl ?_
  refine bx_iconst dL_law_656 ?_
  obtain ⟨sR3, hsR3⟩ := C2.1.2.2.1
  refine bx_cv1 dL_law_657 ln_L_law_117 (Nat.le_of_ble_eq_true rfl) (by decide) hsR3 rfl (Nat.zero_le _) (Nat.zero_le _) (kr_below hsR3 (b := 2) (by decide)) (fun v3 u3 h3 hq3 => ?_)
  obtain ⟨rfl, ⟨z3, hz3, rfl⟩, s13, hh3⟩ := hq3
  have F3 : FRM h2 h3 (fun x => x = r) := by rw [hh3]; exact FRM.u1 rfl
  have C3 := C2.rd F3 ⟨s13, by rw [hh3]; exact ug_eq⟩
  refine bx_if_ne (tgt := 667) dL_law_660 (by decide) (by omega) (fun c660 => ?_) (fun c660 => ?_)
  · refine bx_iconst dL_law_667 ?_
    refine bx_istore dL_law_668 rfl (by decide) rfl ?_
    exact kk h3 _ false C3 (by omega)
  · refine bx_iconst dL_law_663 ?_
    refine bx_goto (tgt := 668) dL_law_664 (by decide) ?_
    refine bx_istore dL_law_668 rfl (by decide) rfl ?_
    exact kk h3 _ true C3 (by omega)
theorem lc_strip_on (hZ : LZ u K H (min (n8 + 1) 8)) (hC : KC h r B n8 k k2 w m p cl ce K K H) (hx : x < K 0) (hy : y < K 1) (hon : on K (y * K 0 + x) = true) {q : Nat} (hc : 1000 ≤ c) (hs : 6100 ≤ sl) (kk1 : ∀ (u1 : hp) (h1 : hg) (K1 : Nat → Nat) (c1 s1 : Nat), LZ u1 K1 (psh K H) (min ((min (n8 + 1) 8) + 1) 8) → KC h1 r B n8 k k2 w m p cl ce K K1 H → c ≤ c1 + 1000 → sl ≤ s1 + 6100 → Gx ad sc M_L_law 1020 [.ref (ad 3000), .int (I 1), .int (I 0), .ref (ad 0), .ref b, .ref r, .ref k, .ref B, .int (I (n8 : Int)), .int (I (t : Int)), .ref k2, .int (I 1), uk, uk, uk, uk, uk, uk, uk, uk, uk, uk, uk, uk, uk, uk, uk, uk] [] c1 s1 u1 h1 Q) (kk0 : ∀ (h1 : hg) (c1 s1 : Nat), KC h1 r B n8 k k2 w m p cl ce K K H → c ≤ c1 + 1000 → sl ≤ s1 + 6100 → Gx ad sc M_L_law 1020 [.ref (ad 3000), .int (I 1), .int (I 0), .ref (ad 0), .ref b, .ref r, .ref k, .ref B, .int (I (n8 : Int)), .int (I (t : Int)), .ref k2, .int (I 0), uk, uk, uk, uk, uk, uk, uk, uk, uk, uk, uk, uk, uk, uk, uk, uk] [] c1 s1 u h1 Q) : Gx ad sc M_L_law 821 [.ref (ad 3000), .int (I 1), .int (I 0), .ref (ad 0), .ref b, .ref r, .ref k, .ref B, .int (I (n8 : Int)), .int (I (t : Int)), .ref k2, .int (I 1), .int (I (x : Int)), .int (I (y : Int)), .ref (ce (y * K 0 + x)), .int (I 1), .int (I (q : Int)), uk, uk, uk, uk, uk, uk, uk, uk, uk, uk, uk] [] c sl u h Q := by
  obtain ⟨⟨e, rr, T, hLA, hTX, hr0, hr6⟩, hK, hH⟩ := id hZ
  obtain ⟨a1, ⟨KS, a2⟩, a3, a4, a5, a6, a7, a8, a9, ⟨n0, a10⟩, a11, a12, a13⟩ := id hLA
  have k0 := hK.1
  have hn9 := nC_le hK
  have hzo : onZ K (x : Int) (y : Int) = true := by rw [← on_at hx]; exact hon
  have hi9 : y * K 0 + x < nC K := by obtain ⟨q1, q2, e1, e2, -, -, e3, -⟩ := onZ_nat hK hzo; cases e1; cases e2; exact e3
  have hc9 : h (ce (y * K 0 + x)) = some (.inr (6, cellF K (y * K 0 + x))) := hC.1.1.2.2 _ hi9 hon
  have r9 : K (434 + (y * K 0 + x)) ≤ 1 := hK.2.2.2.2.2.2.1 _ (by omega)
  by_cases hs9 : K (434 + (y * K 0 + x)) ≠ 0
  · refine bx_iload dL_law_821 rfl ?_
    refine bx_if_eq (tgt := 838) dL_law_823 (by decide) (by decide) (fun c823 => ?_) (fun c823 => ?_)
    · exact absurd c823 (by decide)
    · refine bx_aload dL_law_826 rfl ?_
      refine bx_getf dL_law_828 ck6 fg_KitePainterLaw_171 (by decide) hc9 rfl ?_
      refine bx_if_eq (tgt := 838) dL_law_831 (by decide) (by omega) (fun c831 => ?_) (fun c831 => ?_)
      · exfalso
        omega
      · refine bx_iconst dL_law_834 ?_
        refine bx_goto (tgt := 839) dL_law_835 (by decide) ?_
        refine bx_istore dL_law_839 rfl (by decide) rfl ?_
        refine bx_iload dL_law_841 rfl ?_
        refine bx_if_eq (tgt := 852) dL_law_843 (by decide) (by decide) (fun c843 => ?_) (fun c843 => ?_)
        · exact absurd c843 (by decide)
        · refine bx_aload dL_law_846 rfl ?_
          refine bx_iconst dL_law_848 ?_
          refine bx_putf dL_law_849 ck6 fg_KitePainterLaw_171 (by decide) hc9 rfl ⟨rfl, rfl⟩ (Nat.le_of_ble_eq_true rfl) rfl ?_
          have F9 : FRM h (up h (ce (y * K 0 + x)) (.inr (6, (cellF K (y * K 0 + x)).set 4 (.int (I 0))))) (mutD K k ce) := FRM.u1 (Or.inr ⟨_, hi9, hon, rfl⟩)
          have T9 := hC.1.1.setS hK (v := 0) hi9 hon (fs := (cellF K (y * K 0 + x)).set 4 (.int (I 0))) rfl
          have hK9 : KI (upN K (434 + (y * K 0 + x)) 0) := hK.upS hi9 hon (by omega)
          have C9 := hC.mt hK F9 T9 (tm.up (by omega))
          refine bx_aload_n dL_law_852 rfl ?_
          refine bx_iload dL_law_853 rfl ?_
          refine bx_iload dL_law_855 rfl ?_
          refine gx_cwr (n := 3) (As := [.int (I (x : Int)), .int (I (y : Int))]) dL_law_857 ln_L_law_246 rfl (Nat.le_of_ble_eq_true rfl) (nrI (xs := [I (x : Int), I (y : Int)])) (by omega) (by omega) (fun Γ l St adV hE hX hl9 hLn => wr_strip hE hX hl9 (by decide) a3 (sp_strip (Nat.le_refl _) a3 a1 hK a4 (x := (x : Int)) (by omega) (y := (y : Int)) (by omega) hzo (show K (434 + (y * K 0 + x)) ≠ 0 from hs9))) (fun r9 u9 hq9 => ?_)
          obtain ⟨e9, q1, q2, q3⟩ := hq9
          cases e9
          have Z9 := hZ.nB (K1 := upN K (434 + (y * K 0 + x)) 0) hK9 q1 q2 q3
          refine bx_iload dL_law_860 rfl ?_
          refine bx_if_eq (tgt := 873) dL_law_862 (by decide) (by decide) (fun c862 => ?_) (fun c862 => ?_)
          · exact absurd c862 (by decide)
          · refine bx_aload dL_law_865 rfl ?_
            refine bx_cvP0 dL_law_867 ln_L_law_267 (Nat.le_of_ble_eq_true rfl) (by decide) T9.1 rfl (kt_balance T9 hK9 C9.1.2.1) ?_
            refine bx_goto (tgt := 885) dL_law_870 (by decide) ?_
            refine gx_icmp_ne (tgt := 892) dL_law_885 (by decide) (fun q9 => absurd (rfl) q9) (fun _ => ?_)
            refine bx_iconst dL_law_888 ?_
            refine bx_goto (tgt := 893) dL_law_889 (by decide) ?_
            refine bx_istore_n dL_law_893 rfl (by decide) rfl ?_
            refine bx_goto (tgt := 1020) dL_law_894 (by decide) ?_
            refine gx_forg (i := 12) ?_
            refine gx_forg (i := 13) ?_
            refine gx_forg (i := 14) ?_
            refine gx_forg (i := 15) ?_
            refine gx_forg (i := 16) ?_
            exact kk1 _ _ _ _ _ Z9 C9 (by omega) (by omega)
  · refine bx_iload dL_law_821 rfl ?_
    refine bx_if_eq (tgt := 838) dL_law_823 (by decide) (by decide) (fun c823 => ?_) (fun c823 => ?_)
    · exact absurd c823 (by decide)
    · refine bx_aload dL_law_826 rfl ?_
      refine bx_getf dL_law_828 ck6 fg_KitePainterLaw_171 (by decide) hc9 rfl ?_
      refine bx_if_eq (tgt := 838) dL_law_831 (by decide) (by omega) (fun c831 => ?_) (fun c831 => ?_)
      · refine bx_iconst dL_law_838 ?_
        refine bx_istore dL_law_839 rfl (by decide) rfl ?_
        refine bx_iload dL_law_841 rfl ?_
        refine bx_if_eq (tgt := 852) dL_law_843 (by decide) (by decide) (fun c843 => ?_) (fun c843 => ?_)
        · refine bx_aload_n dL_law_852 rfl ?_
          refine bx_iload dL_law_853 rfl ?_
          refine bx_iload dL_law_855 rfl ?_
          refine gx_cwr (n := 3) (As := [.int (I (x : Int)), .int (I (y : Int))]) dL_law_857 ln_L_law_246 rfl (Nat.le_of_ble_eq_true rfl) (nrI (xs := [I (x : Int), I (y : Int)])) (by omega) (by omega) (fun Γ l St adV hE hX hl9 hLn => wx_strip1 hE hX hl9 hLn (by decide) a3 (sx_strip2 (Nat.le_refl _) a3 a1 hK (x := (x : Int)) (by omega) (y := (y : Int)) (by omega) hzo (show K (434 + (y * K 0 + x)) = 0 from Classical.not_not.mp hs9))) (fun r9 u9 hq9 => ?_)
          obtain ⟨rfl, rfl⟩ := hq9
          refine bx_iload dL_law_860 rfl ?_
          refine bx_if_eq (tgt := 873) dL_law_862 (by decide) (by decide) (fun c862 => ?_) (fun c862 => ?_)
          · refine bx_iload dL_law_873 rfl ?_
            refine bx_if_eq (tgt := 883) dL_law_875 (by decide) (by decide) (fun c875 => ?_) (fun c875 => ?_)
            · exact absurd c875 (by decide)
            · refine gx_ldcI (cn_L_101 rfl) dL_law_878 ?_
              refine bx_goto (tgt := 885) dL_law_880 (by decide) ?_
              refine gx_icmp_ne (tgt := 892) dL_law_885 (by decide) (fun q9 => absurd (rfl) q9) (fun _ => ?_)
              refine bx_iconst dL_law_888 ?_
              refine bx_goto (tgt := 893) dL_law_889 (by decide) ?_
              refine bx_istore_n dL_law_893 rfl (by decide) rfl ?_
              refine bx_goto (tgt := 1020) dL_law_894 (by decide) ?_
              refine gx_forg (i := 12) ?_
              refine gx_forg (i := 13) ?_
              refine gx_forg (i := 14) ?_
              refine gx_forg (i := 15) ?_
              refine gx_forg (i := 16) ?_
              exact kk0 _ _ _ hC (by omega) (by omega)
          · exact absurd rfl c862
        · exact absurd rfl c843
      · exfalso
        omega
theorem lc_strip_off (hZ : LZ u K H (min (n8 + 1) 8)) (hC : KC h r B n8 k k2 w m p cl ce K K H) (hx : x < K 0) (hy : y < K 1) (hon : ¬ on K (y * K 0 + x) = true) {q : Nat} (hc : 1000 ≤ c) (hs : 6100 ≤ sl) (kk0 : ∀ (h1 : hg) (c1 s1 : Nat), KC h1 r B n8 k k2 w m p cl ce K K H → c ≤ c1 + 1000 → sl ≤ s1 + 6100 → Gx ad sc M_L_law 1020 [.ref (ad 3000), .int (I 1), .int (I 0), .ref (ad 0), .ref b, .ref r, .ref k, .ref B, .int (I (n8 : Int)), .int (I (t : Int)), .ref k2, .int (I 0), uk, uk, uk, uk, uk, uk, uk, uk, uk, uk, uk, uk, uk, uk, uk, uk] [] c1 s1 u h1 Q) : Gx ad sc M_L_law 821 [.ref (ad 3000), .int (I 1), .int (I 0), .ref (ad 0), .ref b, .ref r, .ref k, .ref B, .int (I (n8 : Int)), .int (I (t : Int)), .ref k2, .int (I 1), .int (I (x : Int)), .int (I (y : Int)), .null, .int (I 0), .int (I (q : Int)), uk, uk, uk, uk, uk, uk, uk, uk, uk, uk, uk] [] c sl u h Q := by
  obtain ⟨⟨e, rr, T, hLA, hTX, hr0, hr6⟩, hK, hH⟩ := id hZ
  obtain ⟨a1, ⟨KS, a2⟩, a3, a4, a5, a6, a7, a8, a9, ⟨n0, a10⟩, a11, a12, a13⟩ := id hLA
  have k0 := hK.1
  have hn9 := nC_le hK
  have hzo : ¬ onZ K (x : Int) (y : Int) = true := by rw [← on_at hx]; exact hon
  refine bx_iload dL_law_821 rfl ?_
  refine bx_if_eq (tgt := 838) dL_law_823 (by decide) (by decide) (fun c823 => ?_) (fun c823 => ?_)
  · refine bx_iconst dL_law_838 ?_
    refine bx_istore dL_law_839 rfl (by decide) rfl ?_
    refine bx_iload dL_law_841 rfl ?_
    refine bx_if_eq (tgt := 852) dL_law_843 (by decide) (by decide) (fun c843 => ?_) (fun c843 => ?_)
    · refine bx_aload_n dL_law_852 rfl ?_
      refine bx_iload dL_law_853 rfl ?_
      refine bx_iload dL_law_855 rfl ?_
      refine gx_cwr (n := 3) (As := [.int (I (x : Int)), .int (I (y : Int))]) dL_law_857 ln_L_law_246 rfl (Nat.le_of_ble_eq_true rfl) (nrI (xs := [I (x : Int), I (y : Int)])) (by omega) (by omega) (fun Γ l St adV hE hX hl9 hLn => wx_strip0 hE hX hl9 hLn (by decide) a3 (sx_strip1 (Nat.le_refl _) a3 a1 hK (x := (x : Int)) (by omega) (y := (y : Int)) (by omega) hzo)) (fun r9 u9 hq9 => ?_)
      obtain ⟨rfl, rfl⟩ := hq9
      refine bx_iload dL_law_860 rfl ?_
      refine bx_if_eq (tgt := 873) dL_law_862 (by decide) (by decide) (fun c862 => ?_) (fun c862 => ?_)
      · refine bx_iload dL_law_873 rfl ?_
        refine bx_if_eq (tgt := 883) dL_law_875 (by decide) (by decide) (fun c875 => ?_) (fun c875 => ?_)
        · refine gx_ldcI (cn_L_52 rfl) dL_law_883 ?_
          refine gx_icmp_ne (tgt := 892) dL_law_885 (by decide) (fun q9 => absurd (rfl) q9) (fun _ => ?_)
          refine bx_iconst dL_law_888 ?_
          refine bx_goto (tgt := 893) dL_law_889 (by decide) ?_
          refine bx_istore_n dL_law_893 rfl (by decide) rfl ?_
          refine bx_goto (tgt := 1020) dL_law_894 (by decide) ?_
          refine gx_forg (i := 12) ?_
          refine gx_forg (i := 13) ?_
          refine gx_forg (i := 14) ?_
          refine gx_forg (i := 15) ?_
          refine gx_forg (i := 16) ?_
          exact kk0 _ _ _ hC (by omega) (by omega)
        · exact absurd rfl c875
      · exact absurd rfl c862
    · exact absurd rfl c843
  · exact absurd rfl c823
theorem lc_wash_on (hZ : LZ u K H (min (n8 + 1) 8)) (hC : KC h r B n8 k k2 w m p cl ce K K H) (hx : x < K 0) (hy : y < K 1) (hon : on K (y * K 0 + x) = true) {q : Nat} (hc : 1000 ≤ c) (hs : 6100 ≤ sl) (kk1 : ∀ (u1 : hp) (h1 : hg) (K1 : Nat → Nat) (c1 s1 : Nat), LZ u1 K1 (psh K H) (min ((min (n8 + 1) 8) + 1) 8) → KC h1 r B n8 k k2 w m p cl ce K K1 H → c ≤ c1 + 1000 → sl ≤ s1 + 6100 → Gx ad sc M_L_law 1020 [.ref (ad 3000), .int (I 1), .int (I 0), .ref (ad 0), .ref b, .ref r, .ref k, .ref B, .int (I (n8 : Int)), .int (I (t : Int)), .ref k2, .int (I 1), uk, uk, uk, uk, uk, uk, uk, uk, uk, uk, uk, uk, uk, uk, uk, uk] [] c1 s1 u1 h1 Q) (kk0 : ∀ (h1 : hg) (c1 s1 : Nat), KC h1 r B n8 k k2 w m p cl ce K K H → c ≤ c1 + 1000 → sl ≤ s1 + 6100 → Gx ad sc M_L_law 1020 [.ref (ad 3000), .int (I 1), .int (I 0), .ref (ad 0), .ref b, .ref r, .ref k, .ref B, .int (I (n8 : Int)), .int (I (t : Int)), .ref k2, .int (I 0), uk, uk, uk, uk, uk, uk, uk, uk, uk, uk, uk, uk, uk, uk, uk, uk] [] c1 s1 u h1 Q) : Gx ad sc M_L_law 897 [.ref (ad 3000), .int (I 1), .int (I 0), .ref (ad 0), .ref b, .ref r, .ref k, .ref B, .int (I (n8 : Int)), .int (I (t : Int)), .ref k2, .int (I 1), .int (I (x : Int)), .int (I (y : Int)), .ref (ce (y * K 0 + x)), .int (I 1), .int (I (q : Int)), uk, uk, uk, uk, uk, uk, uk, uk, uk, uk, uk] [] c sl u h Q := by
  obtain ⟨⟨e, rr, T, hLA, hTX, hr0, hr6⟩, hK, hH⟩ := id hZ
  obtain ⟨a1, ⟨KS, a2⟩, a3, a4, a5, a6, a7, a8, a9, ⟨n0, a10⟩, a11, a12, a13⟩ := id hLA
  have k0 := hK.1
  have hn9 := nC_le hK
  have hzo : onZ K (x : Int) (y : Int) = true := by rw [← on_at hx]; exact hon
  have hi9 : y * K 0 + x < nC K := by obtain ⟨q1, q2, e1, e2, -, -, e3, -⟩ := onZ_nat hK hzo; cases e1; cases e2; exact e3
  have hc9 : h (ce (y * K 0 + x)) = some (.inr (6, cellF K (y * K 0 + x))) := hC.1.1.2.2 _ hi9 hon
  have r9 : K (74 + (y * K 0 + x)) ≤ 6 := hK.2.2.2.2.1 _ (by omega)
  by_cases hs9 : K (74 + (y * K 0 + x)) ≠ 0
  · refine bx_iload dL_law_897 rfl ?_
    refine bx_if_eq (tgt := 914) dL_law_899 (by decide) (by decide) (fun c899 => ?_) (fun c899 => ?_)
    · exact absurd c899 (by decide)
    · refine bx_aload dL_law_902 rfl ?_
      refine bx_getf dL_law_904 ck6 fg_KitePainterLaw_282 (by decide) hc9 rfl ?_
      refine bx_if_le (tgt := 914) dL_law_907 (by decide) (by omega) (fun c907 => ?_) (fun c907 => ?_)
      · exfalso
        omega
      · refine bx_iconst dL_law_910 ?_
        refine bx_goto (tgt := 915) dL_law_911 (by decide) ?_
        refine bx_istore dL_law_915 rfl (by decide) rfl ?_
        refine bx_aload_n dL_law_917 rfl ?_
        refine bx_iload dL_law_918 rfl ?_
        refine bx_iload dL_law_920 rfl ?_
        refine gx_cwr (n := 3) (As := [.int (I (x : Int)), .int (I (y : Int))]) dL_law_922 ln_L_law_248 rfl (Nat.le_of_ble_eq_true rfl) (nrI (xs := [I (x : Int), I (y : Int)])) (by omega) (by omega) (fun Γ l St adV hE hX hl9 hLn => wr_wash hE hX hl9 (by decide) a3 (sp_wash (Nat.le_refl _) a3 a1 hK a4 a10 a11 a12 a13 (x := (x : Int)) (by omega) (y := (y : Int)) (by omega) hzo (show K (74 + (y * K 0 + x)) ≠ 0 from hs9))) (fun r9 u9 hq9 => ?_)
        obtain ⟨nn, N9, e9, en, me, q1, q2, q5, q6, q7, q8, q3⟩ := hq9
        cases e9
        have Z9 := hZ.nW (K1 := wshK K N9) hK.wsh q1 q2 q5 q6 q7 q8 q3
        refine bx_iload dL_law_925 rfl ?_
        refine bx_if_eq (tgt := 940) dL_law_927 (by decide) (by decide) (fun c927 => ?_) (fun c927 => ?_)
        · exact absurd c927 (by decide)
        · refine bx_aload dL_law_930 rfl ?_
          refine bx_aload dL_law_932 rfl ?_
          refine bx_cv1 dL_law_934 ln_L_law_284 (Nat.le_of_ble_eq_true rfl) (by decide) hC.1.1.1 rfl (by omega) (by omega) (kt_washes hC.1.1 hK hi9 hon) (fun v9 u9 h9 hq9 => ?_)
          obtain ⟨N8, rfl, rfl, me8, hT9, hF9⟩ := hq9
          have eN := mk_uniq (fun _ _ => rfl) me8 me
          rw [wsh_eq eN] at hT9
          have C9 := hC.mt hK hF9 hT9 tm.wsh
          have eS : si N8 180 = (nn : Int) := by rw [en, si_cong eN, show si (fun _ => 0) 180 = 0 from by decide +kernel]; omega
          rw [eS]
          refine bx_goto (tgt := 952) dL_law_937 (by decide) ?_
          refine gx_icmp_ne (tgt := 959) dL_law_952 (by decide) (fun q9 => absurd (rfl) q9) (fun _ => ?_)
          refine bx_iconst dL_law_955 ?_
          refine bx_goto (tgt := 960) dL_law_956 (by decide) ?_
          refine bx_istore_n dL_law_960 rfl (by decide) rfl ?_
          refine bx_goto (tgt := 1020) dL_law_961 (by decide) ?_
          refine gx_forg (i := 12) ?_
          refine gx_forg (i := 13) ?_
          refine gx_forg (i := 14) ?_
          refine gx_forg (i := 15) ?_
          refine gx_forg (i := 16) ?_
          exact kk1 _ _ _ _ _ Z9 C9 (by omega) (by omega)
  · refine bx_iload dL_law_897 rfl ?_
    refine bx_if_eq (tgt := 914) dL_law_899 (by decide) (by decide) (fun c899 => ?_) (fun c899 => ?_)
    · exact absurd c899 (by decide)
    · refine bx_aload dL_law_902 rfl ?_
      refine bx_getf dL_law_904 ck6 fg_KitePainterLaw_282 (by decide) hc9 rfl ?_
      refine bx_if_le (tgt := 914) dL_law_907 (by decide) (by omega) (fun c907 => ?_) (fun c907 => ?_)
      · refine bx_iconst dL_law_914 ?_
        refine bx_istore dL_law_915 rfl (by decide) rfl ?_
        refine bx_aload_n dL_law_917 rfl ?_
        refine bx_iload dL_law_918 rfl ?_
        refine bx_iload dL_law_920 rfl ?_
        refine gx_cwr (n := 3) (As := [.int (I (x : Int)), .int (I (y : Int))]) dL_law_922 ln_L_law_248 rfl (Nat.le_of_ble_eq_true rfl) (nrI (xs := [I (x : Int), I (y : Int)])) (by omega) (by omega) (fun Γ l St adV hE hX hl9 hLn => wx_wash1 hE hX hl9 hLn (by decide) a3 (sx_wash2 (Nat.le_refl _) a3 a1 hK (x := (x : Int)) (by omega) (y := (y : Int)) (by omega) hzo (show K (74 + (y * K 0 + x)) = 0 from Classical.not_not.mp hs9))) (fun r9 u9 hq9 => ?_)
        obtain ⟨rfl, rfl⟩ := hq9
        refine bx_iload dL_law_925 rfl ?_
        refine bx_if_eq (tgt := 940) dL_law_927 (by decide) (by decide) (fun c927 => ?_) (fun c927 => ?_)
        · refine bx_iload dL_law_940 rfl ?_
          refine bx_if_eq (tgt := 950) dL_law_942 (by decide) (by decide) (fun c942 => ?_) (fun c942 => ?_)
          · exact absurd c942 (by decide)
          · refine gx_ldcI (cn_L_101 rfl) dL_law_945 ?_
            refine bx_goto (tgt := 952) dL_law_947 (by decide) ?_
            refine gx_icmp_ne (tgt := 959) dL_law_952 (by decide) (fun q9 => absurd (rfl) q9) (fun _ => ?_)
            refine bx_iconst dL_law_955 ?_
            refine bx_goto (tgt := 960) dL_law_956 (by decide) ?_
            refine bx_istore_n dL_law_960 rfl (by decide) rfl ?_
            refine bx_goto (tgt := 1020) dL_law_961 (by decide) ?_
            refine gx_forg (i := 12) ?_
            refine gx_forg (i := 13) ?_
            refine gx_forg (i := 14) ?_
            refine gx_forg (i := 15) ?_
            refine gx_forg (i := 16) ?_
            exact kk0 _ _ _ hC (by omega) (by omega)
        · exact absurd rfl c927
      · exfalso
        omega
theorem lc_wash_off (hZ : LZ u K H (min (n8 + 1) 8)) (hC : KC h r B n8 k k2 w m p cl ce K K H) (hx : x < K 0) (hy : y < K 1) (hon : ¬ on K (y * K 0 + x) = true) {q : Nat} (hc : 1000 ≤ c) (hs : 6100 ≤ sl) (kk0 : ∀ (h1 : hg) (c1 s1 : Nat), KC h1 r B n8 k k2 w m p cl ce K K H → c ≤ c1 + 1000 → sl ≤ s1 + 6100 → Gx ad sc M_L_law 1020 [.ref (ad 3000), .int (I 1), .int (I 0), .ref (ad 0), .ref b, .ref r, .ref k, .ref B, .int (I (n8 : Int)), .int (I (t : Int)), .ref k2, .int (I 0), uk, uk, uk, uk, uk, uk, uk, uk, uk, uk, uk, uk, uk, uk, uk, uk] [] c1 s1 u h1 Q) : Gx ad sc M_L_law 897 [.ref (ad 3000), .int (I 1), .int (I 0), .ref (ad 0), .ref b, .ref r, .ref k, .ref B, .int (I (n8 : Int)), .int (I (t : Int)), .ref k2, .int (I 1), .int (I (x : Int)), .int (I (y : Int)), .null, .int (I 0), .int (I (q : Int)), uk, uk, uk, uk, uk, uk, uk, uk, uk, uk, uk] [] c sl u h Q := by
  obtain ⟨⟨e, rr, T, hLA, hTX, hr0, hr6⟩, hK, hH⟩ := id hZ
  obtain ⟨a1, ⟨KS, a2⟩, a3, a4, a5, a6, a7, a8, a9, ⟨n0, a10⟩, a11, a12, a13⟩ := id hLA
  have k0 := hK.1
  have hn9 := nC_le hK
  have hzo : ¬ onZ K (x : Int) (y : Int) = true := by rw [← on_at hx]; exact hon
  refine bx_iload dL_law_897 rfl ?_
  refine bx_if_eq (tgt := 914) dL_law_899 (by decide) (by decide) (fun c899 => ?_) (fun c899 => ?_)
  · refine bx_iconst dL_law_914 ?_
    refine bx_istore dL_law_915 rfl (by decide) rfl ?_
    refine bx_aload_n dL_law_917 rfl ?_
    refine bx_iload dL_law_918 rfl ?_
    refine bx_iload dL_law_920 rfl ?_
    refine gx_cwr (n := 3) (As := [.int (I (x : Int)), .int (I (y : Int))]) dL_law_922 ln_L_law_248 rfl (Nat.le_of_ble_eq_true rfl) (nrI (xs := [I (x : Int), I (y : Int)])) (by omega) (by omega) (fun Γ l St adV hE hX hl9 hLn => wx_wash0 hE hX hl9 hLn (by decide) a3 (sx_wash1 (Nat.le_refl _) a3 a1 hK (x := (x : Int)) (by omega) (y := (y : Int)) (by omega) hzo)) (fun r9 u9 hq9 => ?_)
    obtain ⟨rfl, rfl⟩ := hq9
    refine bx_iload dL_law_925 rfl ?_
    refine bx_if_eq (tgt := 940) dL_law_927 (by decide) (by decide) (fun c927 => ?_) (fun c927 => ?_)
    · refine bx_iload dL_law_940 rfl ?_
      refine bx_if_eq (tgt := 950) dL_law_942 (by decide) (by decide) (fun c942 => ?_) (fun c942 => ?_)
      · refine gx_ldcI (cn_L_52 rfl) dL_law_950 ?_
        refine gx_icmp_ne (tgt := 959) dL_law_952 (by decide) (fun q9 => absurd (rfl) q9) (fun _ => ?_)
        refine bx_iconst dL_law_955 ?_
        refine bx_goto (tgt := 960) dL_law_956 (by decide) ?_
        refine bx_istore_n dL_law_960 rfl (by decide) rfl ?_
        refine bx_goto (tgt := 1020) dL_law_961 (by decide) ?_
        refine gx_forg (i := 12) ?_
        refine gx_forg (i := 13) ?_
        refine gx_forg (i := 14) ?_
        refine gx_forg (i := 15) ?_
        refine gx_forg (i := 16) ?_
        exact kk0 _ _ _ hC (by omega) (by omega)
      · exact absurd rfl c942
    · exact absurd rfl c927
  · exact absurd rfl c899
end LS
