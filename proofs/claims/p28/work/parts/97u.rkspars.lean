/-! THE RANDOM KITE: spars -/
section BN3
variable {la : Bool} {u : hp} {h h1 : hg} {b r k w m p cl : Nat} {ce K K0 : Nat → Nat} {H : Nat → Nat → Nat} {d : Nat} {e : Int} {xs ys : List Int}
theorem Bn.kp {p2 : Nat} {fs : List Value} (hB : Bn la u h b r k w m p cl ce K K0 H d e xs) (hK : KI K) (hfs : fs = kiteF K w m p2 cl) : Bn la u (up h k (.inr (7, fs))) b r k w m p2 cl ce K K0 H d e xs := by
  subst hfs
  obtain ⟨s, hs⟩ := hB.rnd
  have hF : FRM h (up h k (.inr (7, kiteF K w m p2 cl))) (fun x => x = k) := FRM.u1 rfl
  refine ⟨⟨ug_eq, hB.wr.fr hF (hB.wr.no hB.kf), hB.mr.fr hF (hB.mr.no hB.kf), fun a ha => (hB.mx ha).fr hF ((hB.mx ha).no hB.kf)⟩, fun q => ?_, hB.wb.fr hF (hB.bf.no hB.kf), ⟨s, hF _ _ hs (fun z => ?_)⟩, hB.2.2.2.2⟩
  · have hC := hB.2.1 q
    refine hC.fr hF (hC.1.no hB.kf) (fun i hi oi z => ?_)
    have h9 := hC.2 i hi oi
    rw [z, hB.kf] at h9
    simp at h9
  · have h9 := hB.kf
    rw [← z, hs] at h9
    simp at h9
/-- a spar -/
theorem Bn.cs {i : Nat} {fs : List Value} (hB : Bn true u h b r k w m p cl ce K K0 H d e xs) (hK : KI K) (hi : i < nC K) (hon : on K i = true) (hfs : fs = [.int (I ((i % K 0 : Nat) : Int)), .int (I ((i / K 0 : Nat) : Int)), .int (I (K (74 + i) : Int)), .int (I (K (254 + i) : Int)), .int (I 1)]) : Bn true u (up h (ce i) (.inr (6, fs))) b r k w m p cl ce (upN K (434 + i) 1) K0 H d e xs := by
  have hT := hB.kt.setS (v := 1) hK hi hon hfs
  obtain ⟨s, hs⟩ := hB.rnd
  have hc := hB.cls.2 i hi hon
  have hF : FRM h (up h (ce i) (.inr (6, fs))) (fun x => x = ce i) := FRM.u1 rfl
  have hn := nC_le hK
  refine ⟨⟨hT.1, (hB.wr.fr hF (hB.wr.no hc)).cong (fun j hj => by rw [up_ne (by omega)]), hB.mr.fr hF (hB.mr.no hc), fun a ha => ((hB.mx ha).fr hF ((hB.mx ha).no hc)).cong (fun j hj => by rw [up_ne (by omega)])⟩, fun _ => ⟨hT.2.1, hT.2.2⟩, hB.wb.fr hF (hB.bf.no hc), ⟨s, hF _ _ hs (fun z => ?_)⟩, hB.2.2.2.2⟩
  rw [← z, hs] at hc
  simp at hc
end BN3
section RU
variable {ad : Nat → Nat} {sc : Nat × (Nat → Int32)} {u : hp} {h : hg} {Q : qg} {k w m p cl : Nat} {ce : Nat → Nat} {K : Nat → Nat} {c sl : Nat}
variable {H : Nat → Nat → Nat} {d : Nat} {e : Int} {b r : Nat} {K0 : Nat → Nat}
theorem rk_599 {xs : List Int} {f1 f2 f3 f4 : Int} {x6 : Int32} (hB : Bn true u h b r k w m p cl ce K K0 H d e xs) (hR : RDs xs K f1 f2 f3 f4) (h5 : K 5 = 0) (hsz : K 0 ≤ 7 ∧ K 1 ≤ 6) (hn : xs.length ≤ 380) (hc : 130 ≤ c) (hs : 1300 ≤ sl) : Gx ad sc M_L_randomKite 599 [.ref (ad 0), .ref b, .ref r, .ref k, uk, uk, .int x6, uk, uk, uk, uk, uk, uk] [] c sl u h (RKQ b r K0 H d) := by
  refine bx_aload_n dL_randomKite_599 rfl ?_
  refine bx_iconst dL_randomKite_600 ?_
  obtain ⟨sR2, hsR2⟩ := hB.rnd
  refine bx_cv1 dL_randomKite_601 ln_L_randomKite_117 (Nat.le_of_ble_eq_true rfl) (by decide) hsR2 rfl (Nat.zero_le _) (Nat.zero_le _) (kr_below hsR2 (b := 3) (by decide)) (fun v2 u2 h2 hq2 => ?_)
  obtain ⟨rfl, ⟨z2, hz2, rfl⟩, s12, hh2⟩ := hq2
  have F2 : FRM h h2 (fun x => x = r) := by rw [hh2]; exact FRM.u1 rfl
  have B2 := hB.rf F2 ⟨s12, by rw [hh2]; exact ug_eq⟩
  refine bx_istore dL_randomKite_604 rfl (by decide) rfl ?_
  refine bx_aload_n dL_randomKite_606 rfl ?_
  refine bx_iload dL_randomKite_607 rfl ?_
  refine bx_anewA (N := z2) dL_randomKite_609 cg_KitePainterLaw_177 rfl (by omega) (by omega) (by omega) (fun p2 ep2 hp2 hep2 => ?_)
  refine gx_gen (fun g3 q3 => ?_)
  have F3 : FRM h2 g3 (fun _ => False) := by rw [q3]; exact FRM.new hp2
  have B3 := B2.n F3
  have P3 := hep2.mv (show g3 p2 = some ep2 by rw [q3]; exact ug_eq)
  refine bx_putf dL_randomKite_612 ck7 fg_KitePainterLaw_179 (by decide) B3.kf rfl ⟨rfl, rfl⟩ (Nat.le_of_ble_eq_true rfl) rfl ?_
  refine gx_gen (fun g4 q4 => ?_)
  have B4 : Bn true u2 g4 b r k w m p2 cl ce K K0 H d e xs := by rw [q4]; exact B3.kp hR.ki rfl
  have P4 : PT g4 p2 z2 (fun _ => 0) K := ⟨(P3.mv (show g4 p2 = g3 p2 by rw [q4, ug_ne (P3.no B3.kf)])).cong (fun i hi => by rw [if_neg (by omega)]), fun i hi => absurd hi (by omega)⟩
  refine bx_iconst dL_randomKite_615 ?_
  refine bx_istore dL_randomKite_616 rfl (by decide) rfl ?_
  have z9 := rk_pats (ad := ad) (sc := sc) (d := d) (H := H) (PN := z2) (by omega) z2 u2 g4 K (fun _ => 0) xs f1 f2 f3 f4 (c - 0 - 1) (sl - 0 - z2) (by omega) (by omega) (by omega) (by omega) B4 P4 hR hsz
  rw [h5] at z9
  exact z9
theorem rk_cells_true {x y len : Nat} {x6 : Int32} {xs : List Int} (hK : KI K) (hx : x < 15) (hy : y < 6) (hlen : len ≤ 5) (kk : ∀ (h1 : hg), Bn true u h1 b r k w m p cl ce (spL K true x y len) K0 H d e xs → Gx ad sc M_L_randomKite 593 [.ref (ad 0), .ref b, .ref r, .ref k, uk, uk, .int x6, .int (I 1), .int (I (x : Int)), .int (I (y : Int)), .int (I (len : Int)), .int (I (len : Int)), uk] [] c sl u h1 Q) : ∀ (n i : Nat) (h1 : hg), i + n = len → Bn true u h1 b r k w m p cl ce (spL K true x y i) K0 H d e xs → Gx ad sc M_L_randomKite 533 [.ref (ad 0), .ref b, .ref r, .ref k, uk, uk, .int x6, .int (I 1), .int (I (x : Int)), .int (I (y : Int)), .int (I (len : Int)), .int (I (i : Int)), uk] [] c sl u h1 Q := by
  have hn9 := nC_le hK
  have k0 := hK.1
  intro n
  induction n with
  | zero =>
    intro i h1 hi hB
    refine bx_iload dL_randomKite_533 rfl ?_
    refine bx_iload dL_randomKite_535 rfl ?_
    refine bx_icmp_ge (tgt := 593) dL_randomKite_537 (by decide) (by omega) (by omega) (fun c537 => ?_) (fun c537 => ?_)
    · obtain rfl : i = len := by omega
      exact kk h1 hB
    · exfalso
      omega
  | succ n ih =>
    intro i h1 hi hB
    have hKL : KI (spL K true x y i) := hK.spL i
    have hg : geo K (spL K true x y i) := geo.of (fun j hj => spL_lo (by omega) i)
    have e1 : ((spX true x i : Nat) : Int) = (x : Int) := by unfold spX; simp
    have e2 : ((spY true y i : Nat) : Int) = ((y : Int) + (i : Int)) := by unfold spY; simp
    have hyb : ((spY true y i : Nat) : Int) < 12 := by rw [e2]; omega
    have hst : spL K true x y (i + 1) = stS K (spL K true x y i) (spX true x i) (spY true y i) := rfl
    by_cases hz : onZ (spL K true x y i) (x : Int) ((y : Int) + (i : Int)) = true
    · obtain ⟨i9, hi9, hic, hio, hxi, hyi⟩ := at_ix hKL hz
      have e9 : atR (spL K true x y i) ce (x : Int) ((y : Int) + (i : Int)) = some (ce i9) := by unfold atR; rw [if_pos hz, ← hi9]
      have hc := hB.cls.2 i9 hic hio
      have e10 : spL K true x y (i + 1) = upN (spL K true x y i) (434 + i9) 1 := by
        rw [hst, stS_unf, e1, e2, ← hg.gz (by omega), if_pos hz]
        rw [hi9, hg.1, ← e1, ← e2, Int.toNat_natCast, Int.toNat_natCast]
      refine bx_iload dL_randomKite_533 rfl ?_
      refine bx_iload dL_randomKite_535 rfl ?_
      refine bx_icmp_ge (tgt := 593) dL_randomKite_537 (by decide) (by omega) (by omega) (fun c537 => ?_) (fun c537 => ?_)
      · exfalso
        omega
      · refine bx_aload_n dL_randomKite_540 rfl ?_
        refine bx_iload dL_randomKite_541 rfl ?_
        refine bx_if_eq (tgt := 551) dL_randomKite_543 (by decide) (by decide) (fun c543 => ?_) (fun c543 => ?_)
        · exact absurd c543 (by decide)
        · refine bx_iload dL_randomKite_546 rfl ?_
          refine bx_goto (tgt := 556) dL_randomKite_548 (by decide) ?_
          refine bx_iload dL_randomKite_556 rfl ?_
          refine bx_if_eq (tgt := 569) dL_randomKite_558 (by decide) (by decide) (fun c558 => ?_) (fun c558 => ?_)
          · exact absurd c558 (by decide)
          · refine bx_iload dL_randomKite_561 rfl ?_
            refine bx_iload dL_randomKite_563 rfl ?_
            refine bx_iadd dL_randomKite_565 ?_
            refine bx_goto (tgt := 571) dL_randomKite_566 (by decide) ?_
            refine bx_cvP2 dL_randomKite_571 ln_L_randomKite_167 (Nat.le_of_ble_eq_true rfl) (by decide) hB.kf rfl (by have := kt_at hB.kt hKL (ad := ad) (sc := sc) (u := u) (c := 0) (sl := 0) (x := (x : Int)) (y := ((y : Int) + (i : Int))) (by omega) (by omega); rw [e9] at this; exact this) ?_
            refine bx_astore dL_randomKite_574 rfl (by decide) rfl ?_
            refine bx_aload dL_randomKite_576 rfl ?_
            refine gx_ifnull dL_randomKite_578 ?_
            refine bx_aload dL_randomKite_581 rfl ?_
            refine bx_iconst dL_randomKite_583 ?_
            refine bx_putf dL_randomKite_584 ck6 fg_KitePainterLaw_171 (by decide) hc rfl ⟨rfl, rfl⟩ (Nat.le_of_ble_eq_true rfl) rfl ?_
            refine bx_iinc dL_randomKite_587 rfl rfl (by decide) rfl ?_
            refine bx_goto (tgt := 533) dL_randomKite_590 (by decide) ?_
            refine gx_forg (i := 12) ?_
            exact ih (i + 1) _ (by omega) (by rw [e10]; exact hB.cs hKL hic hio rfl)
    · have e9 : atR (spL K true x y i) ce (x : Int) ((y : Int) + (i : Int)) = none := if_neg hz
      have e10 : spL K true x y (i + 1) = (spL K true x y i) := by
        rw [hst, stS_unf, e1, e2, ← hg.gz (by omega), if_neg hz]
      refine bx_iload dL_randomKite_533 rfl ?_
      refine bx_iload dL_randomKite_535 rfl ?_
      refine bx_icmp_ge (tgt := 593) dL_randomKite_537 (by decide) (by omega) (by omega) (fun c537 => ?_) (fun c537 => ?_)
      · exfalso
        omega
      · refine bx_aload_n dL_randomKite_540 rfl ?_
        refine bx_iload dL_randomKite_541 rfl ?_
        refine bx_if_eq (tgt := 551) dL_randomKite_543 (by decide) (by decide) (fun c543 => ?_) (fun c543 => ?_)
        · exact absurd c543 (by decide)
        · refine bx_iload dL_randomKite_546 rfl ?_
          refine bx_goto (tgt := 556) dL_randomKite_548 (by decide) ?_
          refine bx_iload dL_randomKite_556 rfl ?_
          refine bx_if_eq (tgt := 569) dL_randomKite_558 (by decide) (by decide) (fun c558 => ?_) (fun c558 => ?_)
          · exact absurd c558 (by decide)
          · refine bx_iload dL_randomKite_561 rfl ?_
            refine bx_iload dL_randomKite_563 rfl ?_
            refine bx_iadd dL_randomKite_565 ?_
            refine bx_goto (tgt := 571) dL_randomKite_566 (by decide) ?_
            refine bx_cvP2 dL_randomKite_571 ln_L_randomKite_167 (Nat.le_of_ble_eq_true rfl) (by decide) hB.kf rfl (by have := kt_at hB.kt hKL (ad := ad) (sc := sc) (u := u) (c := 0) (sl := 0) (x := (x : Int)) (y := ((y : Int) + (i : Int))) (by omega) (by omega); rw [e9] at this; exact this) ?_
            refine bx_astoreN dL_randomKite_574 rfl (by decide) rfl ?_
            refine gx_aloadN rfl dL_randomKite_576 ?_
            refine gx_ifnullN (tgt := 587) dL_randomKite_578 (by decide) ?_
            refine bx_iinc dL_randomKite_587 rfl rfl (by decide) rfl ?_
            refine bx_goto (tgt := 533) dL_randomKite_590 (by decide) ?_
            refine gx_forg (i := 12) ?_
            exact ih (i + 1) _ (by omega) (by rw [e10]; exact hB)
theorem rk_cells_false {x y len : Nat} {x6 : Int32} {xs : List Int} (hK : KI K) (hx : x < 15) (hy : y < 6) (hlen : len ≤ 5) (kk : ∀ (h1 : hg), Bn true u h1 b r k w m p cl ce (spL K false x y len) K0 H d e xs → Gx ad sc M_L_randomKite 593 [.ref (ad 0), .ref b, .ref r, .ref k, uk, uk, .int x6, .int (I 0), .int (I (x : Int)), .int (I (y : Int)), .int (I (len : Int)), .int (I (len : Int)), uk] [] c sl u h1 Q) : ∀ (n i : Nat) (h1 : hg), i + n = len → Bn true u h1 b r k w m p cl ce (spL K false x y i) K0 H d e xs → Gx ad sc M_L_randomKite 533 [.ref (ad 0), .ref b, .ref r, .ref k, uk, uk, .int x6, .int (I 0), .int (I (x : Int)), .int (I (y : Int)), .int (I (len : Int)), .int (I (i : Int)), uk] [] c sl u h1 Q := by
  have hn9 := nC_le hK
  have k0 := hK.1
  intro n
  induction n with
  | zero =>
    intro i h1 hi hB
    refine bx_iload dL_randomKite_533 rfl ?_
    refine bx_iload dL_randomKite_535 rfl ?_
    refine bx_icmp_ge (tgt := 593) dL_randomKite_537 (by decide) (by omega) (by omega) (fun c537 => ?_) (fun c537 => ?_)
    · obtain rfl : i = len := by omega
      exact kk h1 hB
    · exfalso
      omega
  | succ n ih =>
    intro i h1 hi hB
    have hKL : KI (spL K false x y i) := hK.spL i
    have hg : geo K (spL K false x y i) := geo.of (fun j hj => spL_lo (by omega) i)
    have e1 : ((spX false x i : Nat) : Int) = ((x : Int) + (i : Int)) := by unfold spX; simp
    have e2 : ((spY false y i : Nat) : Int) = (y : Int) := by unfold spY; simp
    have hyb : ((spY false y i : Nat) : Int) < 12 := by rw [e2]; omega
    have hst : spL K false x y (i + 1) = stS K (spL K false x y i) (spX false x i) (spY false y i) := rfl
    by_cases hz : onZ (spL K false x y i) ((x : Int) + (i : Int)) (y : Int) = true
    · obtain ⟨i9, hi9, hic, hio, hxi, hyi⟩ := at_ix hKL hz
      have e9 : atR (spL K false x y i) ce ((x : Int) + (i : Int)) (y : Int) = some (ce i9) := by unfold atR; rw [if_pos hz, ← hi9]
      have hc := hB.cls.2 i9 hic hio
      have e10 : spL K false x y (i + 1) = upN (spL K false x y i) (434 + i9) 1 := by
        rw [hst, stS_unf, e1, e2, ← hg.gz (by omega), if_pos hz]
        rw [hi9, hg.1, ← e1, ← e2, Int.toNat_natCast, Int.toNat_natCast]
      refine bx_iload dL_randomKite_533 rfl ?_
      refine bx_iload dL_randomKite_535 rfl ?_
      refine bx_icmp_ge (tgt := 593) dL_randomKite_537 (by decide) (by omega) (by omega) (fun c537 => ?_) (fun c537 => ?_)
      · exfalso
        omega
      · refine bx_aload_n dL_randomKite_540 rfl ?_
        refine bx_iload dL_randomKite_541 rfl ?_
        refine bx_if_eq (tgt := 551) dL_randomKite_543 (by decide) (by decide) (fun c543 => ?_) (fun c543 => ?_)
        · refine bx_iload dL_randomKite_551 rfl ?_
          refine bx_iload dL_randomKite_553 rfl ?_
          refine bx_iadd dL_randomKite_555 ?_
          refine bx_iload dL_randomKite_556 rfl ?_
          refine bx_if_eq (tgt := 569) dL_randomKite_558 (by decide) (by decide) (fun c558 => ?_) (fun c558 => ?_)
          · refine bx_iload dL_randomKite_569 rfl ?_
            refine bx_cvP2 dL_randomKite_571 ln_L_randomKite_167 (Nat.le_of_ble_eq_true rfl) (by decide) hB.kf rfl (by have := kt_at hB.kt hKL (ad := ad) (sc := sc) (u := u) (c := 0) (sl := 0) (x := ((x : Int) + (i : Int))) (y := (y : Int)) (by omega) (by omega); rw [e9] at this; exact this) ?_
            refine bx_astore dL_randomKite_574 rfl (by decide) rfl ?_
            refine bx_aload dL_randomKite_576 rfl ?_
            refine gx_ifnull dL_randomKite_578 ?_
            refine bx_aload dL_randomKite_581 rfl ?_
            refine bx_iconst dL_randomKite_583 ?_
            refine bx_putf dL_randomKite_584 ck6 fg_KitePainterLaw_171 (by decide) hc rfl ⟨rfl, rfl⟩ (Nat.le_of_ble_eq_true rfl) rfl ?_
            refine bx_iinc dL_randomKite_587 rfl rfl (by decide) rfl ?_
            refine bx_goto (tgt := 533) dL_randomKite_590 (by decide) ?_
            refine gx_forg (i := 12) ?_
            exact ih (i + 1) _ (by omega) (by rw [e10]; exact hB.cs hKL hic hio rfl)
          · exact absurd c558 (by decide)
        · exact absurd c543 (by decide)
    · have e9 : atR (spL K false x y i) ce ((x : Int) + (i : Int)) (y : Int) = none := if_neg hz
      have e10 : spL K false x y (i + 1) = (spL K false x y i) := by
        rw [hst, stS_unf, e1, e2, ← hg.gz (by omega), if_neg hz]
      refine bx_iload dL_randomKite_533 rfl ?_
      refine bx_iload dL_randomKite_535 rfl ?_
      refine bx_icmp_ge (tgt := 593) dL_randomKite_537 (by decide) (by omega) (by omega) (fun c537 => ?_) (fun c537 => ?_)
      · exfalso
        omega
      · refine bx_aload_n dL_randomKite_540 rfl ?_
        refine bx_iload dL_randomKite_541 rfl ?_
        refine bx_if_eq (tgt := 551) dL_randomKite_543 (by decide) (by decide) (fun c543 => ?_) (fun c543 => ?_)
        · refine bx_iload dL_randomKite_551 rfl ?_
          refine bx_iload dL_randomKite_553 rfl ?_
          refine bx_iadd dL_randomKite_555 ?_
          refine bx_iload dL_randomKite_556 rfl ?_
          refine bx_if_eq (tgt := 569) dL_randomKite_558 (by decide) (by decide) (fun c558 => ?_) (fun c558 => ?_)
          · refine bx_iload dL_randomKite_569 rfl ?_
            refine bx_cvP2 dL_randomKite_571 ln_L_randomKite_167 (Nat.le_of_ble_eq_true rfl) (by decide) hB.kf rfl (by have := kt_at hB.kt hKL (ad := ad) (sc := sc) (u := u) (c := 0) (sl := 0) (x := ((x : Int) + (i : Int))) (y := (y : Int)) (by omega) (by omega); rw [e9] at this; exact this) ?_
            refine bx_astoreN dL_randomKite_574 rfl (by decide) rfl ?_
            refine gx_aloadN rfl dL_randomKite_576 ?_
            refine gx_ifnullN (tgt := 587) dL_randomKite_578 (by decide) ?_
            refine bx_iinc dL_randomKite_587 rfl rfl (by decide) rfl ?_
            refine bx_goto (tgt := 533) dL_randomKite_590 (by decide) ?_
            refine gx_forg (i := 12) ?_
            exact ih (i + 1) _ (by omega) (by rw [e10]; exact hB)
          · exact absurd c558 (by decide)
        · exact absurd c543 (by decide)
theorem rk_spars {f1 f2 f3 : Int} : ∀ (n : Nat) (u : hp) (h : hg) (K : Nat → Nat) (xs : List Int) (f4 : Int) (c sl : Nat), Bn true u h b r k w m p cl ce K K0 H d e xs → RDs xs K f1 f2 f3 f4 → K 5 = 0 → K 0 ≤ 7 ∧ K 1 ≤ 6 → xs.length + 30 * n ≤ 380 → 130 + 2 * n ≤ c → 1300 + 6 * n ≤ sl → Gx ad sc M_L_randomKite 439 [.ref (ad 0), .ref b, .ref r, .ref k, uk, uk, .int (I (n : Int)), uk, uk, uk, uk, uk, uk] [] c sl u h (RKQ b r K0 H d) := by
  have l19 : (litL 19).length = 1 := by decide +kernel
  intro n
  induction n with
  | zero =>
    intro u h K xs f4 c sl hB hR hk5 hsz hn hc hs
    refine bx_iload dL_randomKite_439 rfl ?_
    refine bx_if_le (tgt := 599) dL_randomKite_441 (by decide) (by omega) (fun c441 => ?_) (fun c441 => ?_)
    · exact rk_599 hB hR hk5 hsz (by omega) (by omega) (by omega)
    · exfalso
      omega
  | succ n ih =>
    intro u h K xs f4 c sl hB hR hk5 hsz hn hc hs
    have hK := hR.ki
    have k0 := hK.1
    refine bx_iload dL_randomKite_439 rfl ?_
    refine bx_if_le (tgt := 599) dL_randomKite_441 (by decide) (by omega) (fun c441 => ?_) (fun c441 => ?_)
    · exfalso
      omega
    · refine bx_aload_n dL_randomKite_444 rfl ?_
      refine bx_iconst dL_randomKite_445 ?_
      obtain ⟨sR2, hsR2⟩ := hB.rnd
      refine bx_cv1 dL_randomKite_446 ln_L_randomKite_117 (Nat.le_of_ble_eq_true rfl) (by decide) hsR2 rfl (Nat.zero_le _) (Nat.zero_le _) (kr_below hsR2 (b := 2) (by decide)) (fun v2 u2 h2 hq2 => ?_)
      obtain ⟨rfl, ⟨z2, hz2, rfl⟩, s12, hh2⟩ := hq2
      have F2 : FRM h h2 (fun x => x = r) := by rw [hh2]; exact FRM.u1 rfl
      have B2 := hB.rf F2 ⟨s12, by rw [hh2]; exact ug_eq⟩
      refine bx_if_ne (tgt := 456) dL_randomKite_449 (by decide) (by omega) (fun q449 => ?_) (fun q449 => ?_)
      · refine bx_iconst dL_randomKite_456 ?_
        refine bx_istore dL_randomKite_457 rfl (by decide) rfl ?_
        refine bx_aload_n dL_randomKite_459 rfl ?_
        refine bx_aload_n dL_randomKite_460 rfl ?_
        refine bx_getf dL_randomKite_461 ck7 fg_KitePainterLaw_122 (by decide) B2.kf rfl ?_
        obtain ⟨sR3, hsR3⟩ := B2.rnd
        refine bx_cv1 dL_randomKite_464 ln_L_randomKite_117 (Nat.le_of_ble_eq_true rfl) (by decide) hsR3 rfl (Nat.zero_le _) (Nat.zero_le _) (kr_below hsR3 (b := K 0) (by omega)) (fun v3 u3 h3 hq3 => ?_)
        obtain ⟨rfl, ⟨z3, hz3, rfl⟩, s13, hh3⟩ := hq3
        have F3 : FRM h2 h3 (fun x => x = r) := by rw [hh3]; exact FRM.u1 rfl
        have B3 := B2.rf F3 ⟨s13, by rw [hh3]; exact ug_eq⟩
        refine bx_istore dL_randomKite_467 rfl (by decide) rfl ?_
        refine bx_aload_n dL_randomKite_469 rfl ?_
        refine bx_aload_n dL_randomKite_470 rfl ?_
        refine bx_getf dL_randomKite_471 ck7 fg_KitePainterLaw_126 (by decide) B3.kf rfl ?_
        obtain ⟨sR4, hsR4⟩ := B3.rnd
        refine bx_cv1 dL_randomKite_474 ln_L_randomKite_117 (Nat.le_of_ble_eq_true rfl) (by decide) hsR4 rfl (Nat.zero_le _) (Nat.zero_le _) (kr_below hsR4 (b := K 1) (by omega)) (fun v4 u4 h4 hq4 => ?_)
        obtain ⟨rfl, ⟨z4, hz4, rfl⟩, s14, hh4⟩ := hq4
        have F4 : FRM h3 h4 (fun x => x = r) := by rw [hh4]; exact FRM.u1 rfl
        have B4 := B3.rf F4 ⟨s14, by rw [hh4]; exact ug_eq⟩
        refine bx_istore dL_randomKite_477 rfl (by decide) rfl ?_
        refine bx_iconst dL_randomKite_479 ?_
        refine bx_aload_n dL_randomKite_480 rfl ?_
        refine bx_iconst dL_randomKite_481 ?_
        obtain ⟨sR5, hsR5⟩ := B4.rnd
        refine bx_cv1 dL_randomKite_482 ln_L_randomKite_117 (Nat.le_of_ble_eq_true rfl) (by decide) hsR5 rfl (Nat.zero_le _) (Nat.zero_le _) (kr_below hsR5 (b := 5) (by decide)) (fun v5 u5 h5 hq5 => ?_)
        obtain ⟨rfl, ⟨z5, hz5, rfl⟩, s15, hh5⟩ := hq5
        have F5 : FRM h4 h5 (fun x => x = r) := by rw [hh5]; exact FRM.u1 rfl
        have B5 := B4.rf F5 ⟨s15, by rw [hh5]; exact ug_eq⟩
        refine bx_iadd dL_randomKite_485 ?_
        rw [show (1 + (z5 : Int)) = ((1 + z5 : Nat) : Int) by omega]
        refine bx_istore dL_randomKite_486 rfl (by decide) rfl ?_
        refine bx_aload_n dL_randomKite_488 rfl ?_
        refine bx_aload_n dL_randomKite_489 rfl ?_
        refine bx_iload dL_randomKite_490 rfl ?_
        refine bx_if_eq (tgt := 500) dL_randomKite_492 (by decide) (by decide) (fun c492 => ?_) (fun c492 => ?_)
        · refine gx_ldcS (j := 22) (tx := "spar across") (by decide) dL_randomKite_500 ?_
          refine bx_iconst dL_randomKite_502 ?_
          refine bx_newa (N := 3) dL_randomKite_503 (Or.inl ⟨rfl, rfl⟩) rfl (by omega) (by omega) (by omega) (fun a6 ea6 ha6 hea6 => ?_)
          refine bx_dup dL_randomKite_505 rfl ?_
          refine bx_iconst dL_randomKite_506 ?_
          refine bx_iload dL_randomKite_507 rfl ?_
          refine bx_iasr (j := 0) dL_randomKite_509 (hea6.mv ug_eq) rfl (by decide) (by omega) (fun e509 he509 => ?_)
          rw [up_up]
          refine bx_dup dL_randomKite_510 rfl ?_
          refine bx_iconst dL_randomKite_511 ?_
          refine bx_iload dL_randomKite_512 rfl ?_
          refine bx_iasr (j := 1) dL_randomKite_514 (he509.mv ug_eq) rfl (by decide) (by omega) (fun e514 he514 => ?_)
          rw [up_up]
          refine bx_dup dL_randomKite_515 rfl ?_
          refine bx_iconst dL_randomKite_516 ?_
          refine bx_iload dL_randomKite_517 rfl ?_
          refine bx_iasr (j := 2) dL_randomKite_519 (he514.mv ug_eq) rfl (by decide) (by omega) (fun e519 he519 => ?_)
          rw [up_up]
          refine gx_gen (fun g6 q6 => ?_)
          have F6 : FRM h5 g6 (fun _ => False) := by rw [q6]; exact FRM.new ha6
          have A6 := a3x (he519.mv (show g6 a6 = some e519 by rw [q6]; exact ug_eq))
          have B6 := B5.n F6
          have nb6 : a6 ≠ b := (B5.bf.kn.ne ha6).symm
          have ll : (litL 22).length = 11 := by decide +kernel
          have hf9 : ∀ i, i < 3 → f3x z3 z4 (1 + z5) i < 100 := fun i hi => by unfold f3x; split <;> (try split) <;> omega
          refine bx_csv4 dL_randomKite_520 ln_L_randomKite_131 (Nat.le_of_ble_eq_true rfl) rfl (Nat.zero_le _) (Nat.zero_le _) (kw_all (j := 22) (by decide) A6 (by decide) nb6 hf9 B6.wb (by rw [ll]; omega)) (fun u7 h7 hq7 => ?_)
          obtain ⟨-, hW7, hF7⟩ := hq7
          have B7 := B6.wt hW7 hF7
          refine bx_aload_n dL_randomKite_523 rfl ?_
          refine bx_aload_n dL_randomKite_524 rfl ?_
          refine gx_ldcS (j := 19) (tx := ";") (by decide) dL_randomKite_525 ?_
          refine bx_csv3 dL_randomKite_527 ln_L_randomKite_105 (Nat.le_of_ble_eq_true rfl) rfl (Nat.zero_le _) (Nat.zero_le _) (kw_lit (j := 19) (by decide) B7.wb (by have := num_len (f := f3x z3 z4 (1 + z5)) (n := 3); rw [List.length_append, List.length_append, ll, l19]; omega)) (fun u8 h8 hq8 => ?_)
          obtain ⟨-, hW8, hF8⟩ := hq8
          have B8 := B7.wt hW8 hF8
          have et : (xs ++ (litL 22 ++ numL (f3x z3 z4 (1 + z5)) 3)) ++ litL 19 = xs ++ spT false (f3x z3 z4 (1 + z5)) := by rw [lit19]; unfold spT; simp only [List.append_assoc]; rfl
          rw [et] at B8
          have R8 := rd_spar hR (dn := false) (f := f3x z3 z4 (1 + z5)) (show z3 < K 0 by omega) (show z4 < K 1 by omega) (show 1 ≤ 1 + z5 ∧ 1 + z5 ≤ 15 by omega) (by omega) (by omega)
          have el : (xs ++ spT false (f3x z3 z4 (1 + z5))).length ≤ xs.length + 21 := by
            have := num_len (f := f3x z3 z4 (1 + z5)) (n := 3)
            rw [← et, List.length_append, List.length_append, List.length_append, ll, l19]; omega
          refine bx_iconst dL_randomKite_530 ?_
          refine bx_istore dL_randomKite_531 rfl (by decide) rfl ?_
          refine rk_cells_false (x := z3) (y := z4) (len := 1 + z5) hK (by omega) (by omega) (by omega) (fun h9 B9 => ?_) (1 + z5) 0 h8 (by omega) B8
          refine bx_iinc dL_randomKite_593 rfl rfl (by decide) rfl ?_
          refine bx_goto (tgt := 439) dL_randomKite_596 (by decide) ?_
          refine gx_forg (i := 7) ?_
          refine gx_forg (i := 8) ?_
          refine gx_forg (i := 9) ?_
          refine gx_forg (i := 10) ?_
          refine gx_forg (i := 11) ?_
          rw [show (((n + 1 : Nat) : Int) + -1) = (n : Int) by omega]
          exact ih u8 h9 _ _ 1 _ _ B9 R8 (by rw [spL_lo (by omega)]; exact hk5) (by rw [spL_lo (by omega), spL_lo (by omega)]; exact hsz) (by omega) (by omega) (by omega)
        · exact absurd c492 (by decide)
      · refine bx_iconst dL_randomKite_452 ?_
        refine bx_goto (tgt := 457) dL_randomKite_453 (by decide) ?_
        refine bx_istore dL_randomKite_457 rfl (by decide) rfl ?_
        refine bx_aload_n dL_randomKite_459 rfl ?_
        refine bx_aload_n dL_randomKite_460 rfl ?_
        refine bx_getf dL_randomKite_461 ck7 fg_KitePainterLaw_122 (by decide) B2.kf rfl ?_
        obtain ⟨sR3, hsR3⟩ := B2.rnd
        refine bx_cv1 dL_randomKite_464 ln_L_randomKite_117 (Nat.le_of_ble_eq_true rfl) (by decide) hsR3 rfl (Nat.zero_le _) (Nat.zero_le _) (kr_below hsR3 (b := K 0) (by omega)) (fun v3 u3 h3 hq3 => ?_)
        obtain ⟨rfl, ⟨z3, hz3, rfl⟩, s13, hh3⟩ := hq3
        have F3 : FRM h2 h3 (fun x => x = r) := by rw [hh3]; exact FRM.u1 rfl
        have B3 := B2.rf F3 ⟨s13, by rw [hh3]; exact ug_eq⟩
        refine bx_istore dL_randomKite_467 rfl (by decide) rfl ?_
        refine bx_aload_n dL_randomKite_469 rfl ?_
        refine bx_aload_n dL_randomKite_470 rfl ?_
        refine bx_getf dL_randomKite_471 ck7 fg_KitePainterLaw_126 (by decide) B3.kf rfl ?_
        obtain ⟨sR4, hsR4⟩ := B3.rnd
        refine bx_cv1 dL_randomKite_474 ln_L_randomKite_117 (Nat.le_of_ble_eq_true rfl) (by decide) hsR4 rfl (Nat.zero_le _) (Nat.zero_le _) (kr_below hsR4 (b := K 1) (by omega)) (fun v4 u4 h4 hq4 => ?_)
        obtain ⟨rfl, ⟨z4, hz4, rfl⟩, s14, hh4⟩ := hq4
        have F4 : FRM h3 h4 (fun x => x = r) := by rw [hh4]; exact FRM.u1 rfl
        have B4 := B3.rf F4 ⟨s14, by rw [hh4]; exact ug_eq⟩
        refine bx_istore dL_randomKite_477 rfl (by decide) rfl ?_
        refine bx_iconst dL_randomKite_479 ?_
        refine bx_aload_n dL_randomKite_480 rfl ?_
        refine bx_iconst dL_randomKite_481 ?_
        obtain ⟨sR5, hsR5⟩ := B4.rnd
        refine bx_cv1 dL_randomKite_482 ln_L_randomKite_117 (Nat.le_of_ble_eq_true rfl) (by decide) hsR5 rfl (Nat.zero_le _) (Nat.zero_le _) (kr_below hsR5 (b := 5) (by decide)) (fun v5 u5 h5 hq5 => ?_)
        obtain ⟨rfl, ⟨z5, hz5, rfl⟩, s15, hh5⟩ := hq5
        have F5 : FRM h4 h5 (fun x => x = r) := by rw [hh5]; exact FRM.u1 rfl
        have B5 := B4.rf F5 ⟨s15, by rw [hh5]; exact ug_eq⟩
        refine bx_iadd dL_randomKite_485 ?_
        rw [show (1 + (z5 : Int)) = ((1 + z5 : Nat) : Int) by omega]
        refine bx_istore dL_randomKite_486 rfl (by decide) rfl ?_
        refine bx_aload_n dL_randomKite_488 rfl ?_
        refine bx_aload_n dL_randomKite_489 rfl ?_
        refine bx_iload dL_randomKite_490 rfl ?_
        refine bx_if_eq (tgt := 500) dL_randomKite_492 (by decide) (by decide) (fun c492 => ?_) (fun c492 => ?_)
        · exact absurd c492 (by decide)
        · refine gx_ldcS (j := 21) (tx := "spar down") (by decide) dL_randomKite_495 ?_
          refine bx_goto (tgt := 502) dL_randomKite_497 (by decide) ?_
          refine bx_iconst dL_randomKite_502 ?_
          refine bx_newa (N := 3) dL_randomKite_503 (Or.inl ⟨rfl, rfl⟩) rfl (by omega) (by omega) (by omega) (fun a6 ea6 ha6 hea6 => ?_)
          refine bx_dup dL_randomKite_505 rfl ?_
          refine bx_iconst dL_randomKite_506 ?_
          refine bx_iload dL_randomKite_507 rfl ?_
          refine bx_iasr (j := 0) dL_randomKite_509 (hea6.mv ug_eq) rfl (by decide) (by omega) (fun e509 he509 => ?_)
          rw [up_up]
          refine bx_dup dL_randomKite_510 rfl ?_
          refine bx_iconst dL_randomKite_511 ?_
          refine bx_iload dL_randomKite_512 rfl ?_
          refine bx_iasr (j := 1) dL_randomKite_514 (he509.mv ug_eq) rfl (by decide) (by omega) (fun e514 he514 => ?_)
          rw [up_up]
          refine bx_dup dL_randomKite_515 rfl ?_
          refine bx_iconst dL_randomKite_516 ?_
          refine bx_iload dL_randomKite_517 rfl ?_
          refine bx_iasr (j := 2) dL_randomKite_519 (he514.mv ug_eq) rfl (by decide) (by omega) (fun e519 he519 => ?_)
          rw [up_up]
          refine gx_gen (fun g6 q6 => ?_)
          have F6 : FRM h5 g6 (fun _ => False) := by rw [q6]; exact FRM.new ha6
          have A6 := a3x (he519.mv (show g6 a6 = some e519 by rw [q6]; exact ug_eq))
          have B6 := B5.n F6
          have nb6 : a6 ≠ b := (B5.bf.kn.ne ha6).symm
          have ll : (litL 21).length = 9 := by decide +kernel
          have hf9 : ∀ i, i < 3 → f3x z3 z4 (1 + z5) i < 100 := fun i hi => by unfold f3x; split <;> (try split) <;> omega
          refine bx_csv4 dL_randomKite_520 ln_L_randomKite_131 (Nat.le_of_ble_eq_true rfl) rfl (Nat.zero_le _) (Nat.zero_le _) (kw_all (j := 21) (by decide) A6 (by decide) nb6 hf9 B6.wb (by rw [ll]; omega)) (fun u7 h7 hq7 => ?_)
          obtain ⟨-, hW7, hF7⟩ := hq7
          have B7 := B6.wt hW7 hF7
          refine bx_aload_n dL_randomKite_523 rfl ?_
          refine bx_aload_n dL_randomKite_524 rfl ?_
          refine gx_ldcS (j := 19) (tx := ";") (by decide) dL_randomKite_525 ?_
          refine bx_csv3 dL_randomKite_527 ln_L_randomKite_105 (Nat.le_of_ble_eq_true rfl) rfl (Nat.zero_le _) (Nat.zero_le _) (kw_lit (j := 19) (by decide) B7.wb (by have := num_len (f := f3x z3 z4 (1 + z5)) (n := 3); rw [List.length_append, List.length_append, ll, l19]; omega)) (fun u8 h8 hq8 => ?_)
          obtain ⟨-, hW8, hF8⟩ := hq8
          have B8 := B7.wt hW8 hF8
          have et : (xs ++ (litL 21 ++ numL (f3x z3 z4 (1 + z5)) 3)) ++ litL 19 = xs ++ spT true (f3x z3 z4 (1 + z5)) := by rw [lit19]; unfold spT; simp only [List.append_assoc]; rfl
          rw [et] at B8
          have R8 := rd_spar hR (dn := true) (f := f3x z3 z4 (1 + z5)) (show z3 < K 0 by omega) (show z4 < K 1 by omega) (show 1 ≤ 1 + z5 ∧ 1 + z5 ≤ 15 by omega) (by omega) (by omega)
          have el : (xs ++ spT true (f3x z3 z4 (1 + z5))).length ≤ xs.length + 21 := by
            have := num_len (f := f3x z3 z4 (1 + z5)) (n := 3)
            rw [← et, List.length_append, List.length_append, List.length_append, ll, l19]; omega
          refine bx_iconst dL_randomKite_530 ?_
          refine bx_istore dL_randomKite_531 rfl (by decide) rfl ?_
          refine rk_cells_true (x := z3) (y := z4) (len := 1 + z5) hK (by omega) (by omega) (by omega) (fun h9 B9 => ?_) (1 + z5) 0 h8 (by omega) B8
          refine bx_iinc dL_randomKite_593 rfl rfl (by decide) rfl ?_
          refine bx_goto (tgt := 439) dL_randomKite_596 (by decide) ?_
          refine gx_forg (i := 7) ?_
          refine gx_forg (i := 8) ?_
          refine gx_forg (i := 9) ?_
          refine gx_forg (i := 10) ?_
          refine gx_forg (i := 11) ?_
          rw [show (((n + 1 : Nat) : Int) + -1) = (n : Int) by omega]
          exact ih u8 h9 _ _ 1 _ _ B9 R8 (by rw [spL_lo (by omega)]; exact hk5) (by rw [spL_lo (by omega), spL_lo (by omega)]; exact hsz) (by omega) (by omega) (by omega)
end RU
