/-! the reference reads: mixes, spars -/
theorem KI.S {K : Nat → Nat} (hK : KI K) : KS K := ⟨⟨hK.1.1, hK.1.2.1, hK.1.2.2.1, hK.1.2.2.2.1⟩, hK.2.1⟩
theorem ix434 (a b c : Nat) : (434 : Int) + (a : Int) * (c : Int) + (b : Int) = ((434 + (a * c + b) : Nat) : Int) := by
  rw [Int.natCast_add, Int.natCast_add, Int.natCast_mul]; omega
section RM
variable {NC : Nat} {h : hp} {s T : Nat → Int} {n p t : Nat} {K : Nat → Nat} {Q : qt}
theorem m6_c (hN : 132 ≤ NC) (hT : TX T) (hO : XO h s) (hB : BT h T) (hP : PX T s n p t) (h5 : -1000 ≤ s 5 ∧ s 5 ≤ 1000) (hD : DR h K) {u1 u2 : Nat} (hu1 : u1 < 7) (hu2 : u2 < 7) (kk : ∀ g s5 p5 t5 m K5, XO g s5 → PX T s5 n p5 t5 → agN s s5 → DR g K5 → Y3 h g → (s5 5 = 0 → K5 = telM K u1 u2 m) → ST (numP T n 1 6 t) (s 5) (s 6) (s5 5) (s5 6) (fun y => ((m : Nat) : Int) = y.1 ∧ t5 = y.2 ∧ s5 13 = (t : Int)) → Q .null g) : Ex NC none M_X6_readMix 72 [.ref 112, .int (I (u1 : Int)), .int (I (u2 : Int)), .null] [] h Q := by
  refine ax_aload_n dX6_readMix_72 rfl ?_
  refine ax_iconst dX6_readMix_73 ?_
  refine ax_bipush dX6_readMix_74 (by decide) ?_
  refine ax_cvi2 dX6_readMix_76 ln_X6_readMix_125 (Nat.le_of_ble_eq_true rfl) (Or.inl rfl) (by omega) hO rfl (s6_number hN hO hT hB hP h5 (by omega)) (fun ret g5 hq => ?_)
  obtain ⟨z5, s5, p5, t5, hv, hz5, hO5, hA5, hP5, y5, bz5, st5⟩ := hq
  cases hv
  obtain ⟨v5, rfl⟩ : ∃ m : Nat, z5 = (m : Int) := ⟨z5.toNat, by omega⟩
  have hB5 : BT g5 T := hB.mv (y5 113 (by decide))
  have h55 := st5.rg h5
  have hD5 : DR g5 K := hD.mv (y5 115 (by decide))
  refine ax_istore_n dX6_readMix_79 rfl (by decide) ?_
  refine ax_aload_n dX6_readMix_80 rfl ?_
  refine ax_cviP0 dX6_readMix_81 ln_X6_readMix_82 (Nat.le_of_ble_eq_true rfl) (Or.inr rfl) (by omega) hO5 rfl (s6_isGood hN hO5 h55) ?_
  refine ax_if_ne (tgt := 88) dX6_readMix_84 (by decide) (by split <;> omega) (fun c84 => ?_) (fun c84 => ?_)
  · have c : s5 5 = 0 := by (by_cases q : s5 5 = 0; exact q; rw [if_neg q] at c84; exact absurd rfl c84)
    refine ax_aload_n dX6_readMix_88 rfl ?_
    refine ax_getf dX6_readMix_89 ck6 fl_X6_20 (by decide) (by omega) hO5 rfl ?_
    refine ax_bipush dX6_readMix_92 (by decide) ?_
    refine ax_bipush dX6_readMix_94 (by decide) ?_
    refine ax_iload_n dX6_readMix_96 rfl ?_
    refine ax_imul dX6_readMix_97 ?_
    refine ax_iadd dX6_readMix_98 ?_
    refine ax_iload_n dX6_readMix_99 rfl ?_
    refine ax_iadd dX6_readMix_100 ?_
    refine ax_iload_n dX6_readMix_101 rfl ?_
    refine ax_iasr (j := (25 + (u1 * 7 + u2))) dX6_readMix_102 (by omega) hD5 (by omega) (by omega) (by decide) (fun e102 he102 => ?_)
    have hD6 : DR (va_up g5 115 e102) (upN K (25 + (u1 * 7 + u2)) v5) := (he102.mv vu_eq).cong (fun i hi => by unfold upZ upN; split <;> rfl)
    have hO6 : XO (va_up g5 115 e102) s5 := (vu_ne (by decide)).trans hO5
    have hY6 : Y3 h (va_up g5 115 e102) := y5.w.up
    generalize va_up g5 115 e102 = g6 at *
    refine ax_aload_n dX6_readMix_103 rfl ?_
    refine ax_getf dX6_readMix_104 ck6 fl_X6_20 (by decide) (by omega) hO6 rfl ?_
    refine ax_bipush dX6_readMix_107 (by decide) ?_
    refine ax_bipush dX6_readMix_109 (by decide) ?_
    refine ax_iload_n dX6_readMix_111 rfl ?_
    refine ax_imul dX6_readMix_112 ?_
    refine ax_iadd dX6_readMix_113 ?_
    refine ax_iload_n dX6_readMix_114 rfl ?_
    refine ax_iadd dX6_readMix_115 ?_
    refine ax_iload_n dX6_readMix_116 rfl ?_
    refine ax_iasr (j := (25 + (u2 * 7 + u1))) dX6_readMix_117 (by omega) hD6 (by omega) (by omega) (by decide) (fun e117 he117 => ?_)
    exact ax_vret dX6_readMix_118 rfl (kk _ s5 p5 t5 v5 (telM K u1 u2 v5) ((vu_ne (by decide)).trans hO6) hP5 hA5 ((he117.mv vu_eq).cong (fun i hi => by unfold upZ telM upN; split <;> rfl)) hY6.up (fun _ => rfl) st5)
  · have c : s5 5 ≠ 0 := fun q => by (rw [if_pos q] at c84; omega)
    exact ax_vret dX6_readMix_87 rfl (kk g5 s5 p5 t5 v5 K hO5 hP5 hA5 hD5 y5.w (fun q => absurd q c) st5)
theorem m6_b (hN : 132 ≤ NC) (hT : TX T) (hO : XO h s) (hB : BT h T) (hP : PX T s n p t) (h5 : -1000 ≤ s 5 ∧ s 5 ≤ 1000) (hD : DR h K) {u1 u2 : Nat} (hu1 : u1 < 7) (hu2 : u2 < 7) (h7 : K (25 + (u1 * 7 + u2)) ≤ 6) (kk : ∀ g s5 p5 t5 m K5, XO g s5 → PX T s5 n p5 t5 → agN s s5 → DR g K5 → Y3 h g → (s5 5 = 0 → K5 = telM K u1 u2 m) → (∃ e4 a4, ST (chk (decide (K (25 + (u1 * 7 + u2)) ≠ 0)) (-4) (s 13)) (s 5) (s 6) e4 a4 (fun _ => decide (K (25 + (u1 * 7 + u2)) ≠ 0) = false) ∧ ST (numP T n 1 6 t) e4 a4 (s5 5) (s5 6) (fun y => ((m : Nat) : Int) = y.1 ∧ t5 = y.2 ∧ s5 13 = (t : Int))) → Q .null g) : Ex NC none M_X6_readMix 38 [.ref 112, .int (I (u1 : Int)), .int (I (u2 : Int)), .null] [] h Q := by
  refine ax_aload_n dX6_readMix_38 rfl ?_
  refine ax_cviP0 dX6_readMix_39 ln_X6_readMix_82 (Nat.le_of_ble_eq_true rfl) (Or.inr rfl) (by omega) hO rfl (s6_isGood hN hO h5) ?_
  refine ax_if_eq (tgt := 72) dX6_readMix_42 (by decide) (by split <;> omega) (fun c42 => ?_) (fun c42 => ?_)
  · have c : s 5 ≠ 0 := fun q => by (rw [if_pos q] at c42; omega)
    have st4 : ST (chk (decide (K (25 + (u1 * 7 + u2)) ≠ 0)) (-4) (s 13)) (s 5) (s 6) (s 5) (s 6) (fun _ => decide (K (25 + (u1 * 7 + u2)) ≠ 0) = false) := st_rp (by decide) (by rw [if_neg (fun w => c w.2)]) (by rw [if_neg (fun w => c w.2)])
    refine m6_c hN hT hO hB hP h5 hD hu1 hu2 (fun g5 s5 p5 t5 m K5 hO5 hP5 hA5 hD5 hY5 hK5 st5 => kk g5 s5 p5 t5 m K5 hO5 hP5 (agN.tr (fun _ _ _ _ _ => rfl) hA5) hD5 (hY5) hK5 ⟨_, _, st4, st5⟩)
  · have c : s 5 = 0 := by (by_cases q : s 5 = 0; exact q; rw [if_neg q] at c42; exact absurd rfl c42)
    refine ax_aload_n dX6_readMix_45 rfl ?_
    refine ax_getf dX6_readMix_46 ck6 fl_X6_20 (by decide) (by omega) hO rfl ?_
    refine ax_bipush dX6_readMix_49 (by decide) ?_
    refine ax_bipush dX6_readMix_51 (by decide) ?_
    refine ax_iload_n dX6_readMix_53 rfl ?_
    refine ax_imul dX6_readMix_54 ?_
    refine ax_iadd dX6_readMix_55 ?_
    refine ax_iload_n dX6_readMix_56 rfl ?_
    refine ax_iadd dX6_readMix_57 ?_
    refine ax_ialr (j := (25 + (u1 * 7 + u2))) (w := (K (25 + (u1 * 7 + u2)) : Int)) dX6_readMix_58 (by omega) hD (by omega) (by omega) (by decide) rfl ?_
    refine ax_if_eq (tgt := 72) dX6_readMix_59 (by decide) (by omega) (fun c59 => ?_) (fun c59 => ?_)
    · have st4 : ST (chk (decide (K (25 + (u1 * 7 + u2)) ≠ 0)) (-4) (s 13)) (s 5) (s 6) (s 5) (s 6) (fun _ => decide (K (25 + (u1 * 7 + u2)) ≠ 0) = false) := st_rp (by decide) (by rw [if_neg (fun w => by have := of_decide_eq_true w.1; omega)]) (by rw [if_neg (fun w => by have := of_decide_eq_true w.1; omega)])
      refine m6_c hN hT hO hB hP h5 hD hu1 hu2 (fun g5 s5 p5 t5 m K5 hO5 hP5 hA5 hD5 hY5 hK5 st5 => kk g5 s5 p5 t5 m K5 hO5 hP5 (agN.tr (fun _ _ _ _ _ => rfl) hA5) hD5 (hY5) hK5 ⟨_, _, st4, st5⟩)
    · refine ax_aload_n dX6_readMix_62 rfl ?_
      refine ax_bipush dX6_readMix_63 (by decide) ?_
      refine ax_aload_n dX6_readMix_65 rfl ?_
      refine ax_getf dX6_readMix_66 ck6 fl_X6_107 (by decide) (by omega) hO rfl ?_
      refine ax_cvv2 dX6_readMix_69 ln_X6_readMix_99 (Nat.le_of_ble_eq_true rfl) rfl (by omega) hO rfl (s6_report hN hO h5) (fun g1 hq => ?_)
      obtain ⟨hO1, y1⟩ := hq
      have st4 : ST (chk (decide (K (25 + (u1 * 7 + u2)) ≠ 0)) (-4) (s 13)) (s 5) (s 6) (rep s (-4) (s 13) 5) (rep s (-4) (s 13) 6) (fun _ => decide (K (25 + (u1 * 7 + u2)) ≠ 0) = false) := st_rp (by decide) (by rw [rep5, if_pos c, if_pos ⟨decide_eq_true (by omega), c⟩]) (by rw [rep6, if_pos c, if_pos ⟨decide_eq_true (by omega), c⟩])
      refine m6_c hN hT hO1 (hB.mv (y1 113 (by decide))) hP.rep (by rw [rep5]; split <;> omega) (hD.mv (y1 115 (by decide))) hu1 hu2 (fun g5 s5 p5 t5 m K5 hO5 hP5 hA5 hD5 hY5 hK5 st5 => kk g5 s5 p5 t5 m K5 hO5 hP5 (agN.tr repN hA5) hD5 (y1.w.tr hY5) hK5 ⟨_, _, st4, st5⟩)
theorem s6_readMix (hN : 132 ≤ NC) (hT : TX T) (hO : XO h s) (hB : BT h T) (hP : PX T s n p t) (h5 : -1000 ≤ s 5 ∧ s 5 ≤ 1000) (hD : DR h K) (hK : KI K) : Cl NC M_X6_readMix [.ref 112] h (fun _ h1 => ∃ s1 p1 t1 K1, XO h1 s1 ∧ PX T s1 n p1 t1 ∧ DR h1 K1 ∧ Y3 h h1 ∧ agN s s1 ∧ ST (mixP T n t K) (s 5) (s 6) (s1 5) (s1 6) (fun v => t1 = v.1 ∧ K1 = v.2)) := by
  have k0 := hK.1
  refine ax_aload_n dX6_readMix_0 rfl ?_
  refine ax_iconst dX6_readMix_1 ?_
  refine ax_bipush dX6_readMix_2 (by decide) ?_
  refine ax_cvi2 dX6_readMix_4 ln_X6_readMix_125 (Nat.le_of_ble_eq_true rfl) (Or.inl rfl) (by omega) hO rfl (s6_number hN hO hT hB hP h5 (by omega)) (fun ret g1 hq => ?_)
  obtain ⟨z1, s1, p1, t1, hv, hz1, hO1, hA1, hP1, y1, bz1, st1⟩ := hq
  cases hv
  obtain ⟨v1, rfl⟩ : ∃ m : Nat, z1 = (m : Int) := ⟨z1.toNat, by omega⟩
  have hB1 : BT g1 T := hB.mv (y1 113 (by decide))
  have h51 := st1.rg h5
  refine ax_istore_n dX6_readMix_7 rfl (by decide) ?_
  refine ax_aload_n dX6_readMix_8 rfl ?_
  refine ax_iconst dX6_readMix_9 ?_
  refine ax_bipush dX6_readMix_10 (by decide) ?_
  refine ax_cvi2 dX6_readMix_12 ln_X6_readMix_125 (Nat.le_of_ble_eq_true rfl) (Or.inl rfl) (by omega) hO1 rfl (s6_number hN hO1 hT hB1 hP1 h51 (by omega)) (fun ret g2 hq => ?_)
  obtain ⟨z2, s2, p2, t2, hv, hz2, hO2, hA2, hP2, y2, bz2, st2⟩ := hq
  cases hv
  obtain ⟨v2, rfl⟩ : ∃ m : Nat, z2 = (m : Int) := ⟨z2.toNat, by omega⟩
  have hB2 : BT g2 T := hB1.mv (y2 113 (by decide))
  have h52 := st2.rg h51
  have hD2 : DR g2 K := hD.mv ((y2 115 (by decide)).trans (y1 115 (by decide)))
  refine ax_istore_n dX6_readMix_15 rfl (by decide) ?_
  refine ax_aload_n dX6_readMix_16 rfl ?_
  refine ax_cviP0 dX6_readMix_17 ln_X6_readMix_82 (Nat.le_of_ble_eq_true rfl) (Or.inr rfl) (by omega) hO2 rfl (s6_isGood hN hO2 h52) ?_
  refine ax_if_eq (tgt := 38) dX6_readMix_20 (by decide) (by split <;> omega) (fun c20 => ?_) (fun c20 => ?_)
  · have c : s2 5 ≠ 0 := fun q => by (rw [if_pos q] at c20; omega)
    have st3 : ST (chk (decide ((v1 : Int) = (v2 : Int))) (-3) (s2 13)) (s2 5) (s2 6) (s2 5) (s2 6) (fun _ => decide ((v1 : Int) = (v2 : Int)) = false) := st_rp (by decide) (by rw [if_neg (fun w => c w.2)]) (by rw [if_neg (fun w => c w.2)])
    refine m6_b hN hT hO2 hB2 hP2 h52 hD2 (u1 := v1) (u2 := v2) (by omega) (by omega) (hK.2.2.2.1 (v1 * 7 + v2) (by omega)) (fun g5 s5 p5 t5 m K5 hO5 hP5 hA5 hD5 hY5 hK5 hst => ?_)
    obtain ⟨e4, a4, st4, st5⟩ := hst
    have fin := mix_fin (K := K) st1 st2 st3 (st4) st5
    exact ⟨s5, p5, t5, K5, hO5, hP5, hD5, ((y1.tr y2).w.tr (hY5)), ((hA1.tr hA2).tr (agN.tr (fun _ _ _ _ _ => rfl) hA5)), fin.wk (fun y e hy => ⟨hy.1, (hK5 e).trans hy.2⟩)⟩
  · have c : s2 5 = 0 := by (by_cases q : s2 5 = 0; exact q; rw [if_neg q] at c20; exact absurd rfl c20)
    refine ax_iload_n dX6_readMix_23 rfl ?_
    refine ax_iload_n dX6_readMix_24 rfl ?_
    refine ax_icmp_ne (tgt := 38) dX6_readMix_25 (by decide) (by omega) (by omega) (fun c25 => ?_) (fun c25 => ?_)
    · have st3 : ST (chk (decide ((v1 : Int) = (v2 : Int))) (-3) (s2 13)) (s2 5) (s2 6) (s2 5) (s2 6) (fun _ => decide ((v1 : Int) = (v2 : Int)) = false) := st_rp (by decide) (by rw [if_neg (fun w => c25 (of_decide_eq_true w.1))]) (by rw [if_neg (fun w => c25 (of_decide_eq_true w.1))])
      refine m6_b hN hT hO2 hB2 hP2 h52 hD2 (u1 := v1) (u2 := v2) (by omega) (by omega) (hK.2.2.2.1 (v1 * 7 + v2) (by omega)) (fun g5 s5 p5 t5 m K5 hO5 hP5 hA5 hD5 hY5 hK5 hst => ?_)
      obtain ⟨e4, a4, st4, st5⟩ := hst
      have fin := mix_fin (K := K) st1 st2 st3 (st4) st5
      exact ⟨s5, p5, t5, K5, hO5, hP5, hD5, ((y1.tr y2).w.tr (hY5)), ((hA1.tr hA2).tr (agN.tr (fun _ _ _ _ _ => rfl) hA5)), fin.wk (fun y e hy => ⟨hy.1, (hK5 e).trans hy.2⟩)⟩
    · refine ax_aload_n dX6_readMix_28 rfl ?_
      refine ax_bipush dX6_readMix_29 (by decide) ?_
      refine ax_aload_n dX6_readMix_31 rfl ?_
      refine ax_getf dX6_readMix_32 ck6 fl_X6_107 (by decide) (by omega) hO2 rfl ?_
      refine ax_cvv2 dX6_readMix_35 ln_X6_readMix_99 (Nat.le_of_ble_eq_true rfl) rfl (by omega) hO2 rfl (s6_report hN hO2 h52) (fun g3 hq => ?_)
      obtain ⟨hO3, y3⟩ := hq
      have q3 : rep s2 (-3) (s2 13) 5 ≠ 0 := by rw [rep5, if_pos c]; decide
      have st3 : ST (chk (decide ((v1 : Int) = (v2 : Int))) (-3) (s2 13)) (s2 5) (s2 6) (rep s2 (-3) (s2 13) 5) (rep s2 (-3) (s2 13) 6) (fun _ => decide ((v1 : Int) = (v2 : Int)) = false) := st_rp (by decide) (by rw [rep5, if_pos c, if_pos ⟨decide_eq_true c25, c⟩]) (by rw [rep6, if_pos c, if_pos ⟨decide_eq_true c25, c⟩])
      refine m6_b hN hT hO3 (hB2.mv (y3 113 (by decide))) hP2.rep (by rw [rep5]; split <;> omega) (hD2.mv (y3 115 (by decide))) (u1 := v1) (u2 := v2) (by omega) (by omega) (hK.2.2.2.1 (v1 * 7 + v2) (by omega)) (fun g5 s5 p5 t5 m K5 hO5 hP5 hA5 hD5 hY5 hK5 hst => ?_)
      obtain ⟨e4, a4, st4, st5⟩ := hst
      have fin := mix_fin (K := K) st1 st2 st3 (Or.inl ⟨q3, (st4.keep q3).1, (st4.keep q3).2⟩) st5
      exact ⟨s5, p5, t5, K5, hO5, hP5, hD5, ((y1.tr y2).w.tr (y3.w.tr hY5)), ((hA1.tr hA2).tr (agN.tr repN hA5)), fin.wk (fun y e hy => ⟨hy.1, (hK5 e).trans hy.2⟩)⟩
theorem l6_sprt (hN : 132 ≤ NC) (hT : TX T) (hK : KI K) {x y l : Nat} (hx : x < 15) (hy : y < 12) (hl : l ≤ 15) (g0 : s 5 = 0) (kk : ∀ g, DR g (spL K true x y l) → XO g s → Y3 h g → Q .null g) : ∀ (f : Nat) (i : Nat) (g : hp) (w7 w8 : Value), i + f = l → DR g (spL K true x y i) → XO g s → Y3 h g → Ex NC none M_X6_readSpar 83 [.ref 112, .int (I 1), .int (I (x : Int)), .int (I (y : Int)), .int (I (l : Int)), .int (I (i : Int)), w7, w8] [] g Q := by
  have n0 := nC_le hK
  have h5 : -1000 ≤ s 5 ∧ s 5 ≤ 1000 := by omega
  intro f
  induction f with
  | zero =>
    intro i g w7 w8 hi hD hO hY
    have hKi := hK.spL (d := true) (x := x) (y := y) i
    refine ax_iload dX6_readSpar_83 rfl ?_
    refine ax_iload dX6_readSpar_85 rfl ?_
    refine ax_icmp_ge (tgt := 167) dX6_readSpar_87 (by decide) (by omega) (by omega) (fun c87 => ?_) (fun c87 => ?_)
    · have e : i = l := by omega
      subst e
      exact ax_vret dX6_readSpar_167 rfl (kk g hD hO hY)
    · exfalso
      omega
  | succ f ih =>
    intro i g w7 w8 hi hD hO hY
    have hKi := hK.spL (d := true) (x := x) (y := y) i
    refine ax_iload dX6_readSpar_83 rfl ?_
    refine ax_iload dX6_readSpar_85 rfl ?_
    refine ax_icmp_ge (tgt := 167) dX6_readSpar_87 (by decide) (by omega) (by omega) (fun c87 => ?_) (fun c87 => ?_)
    · exfalso
      omega
    · refine ax_aload_n dX6_readSpar_90 rfl ?_
      refine ax_cviP0 dX6_readSpar_91 ln_X6_readSpar_82 (Nat.le_of_ble_eq_true rfl) (Or.inr rfl) (by omega) hO rfl (s6_isGood hN hO h5) ?_
      refine ax_if_eq (tgt := 167) dX6_readSpar_94 (by decide) (by split <;> omega) (fun c94 => ?_) (fun c94 => ?_)
      · exfalso
        rw [if_pos g0] at c94
        omega
      · refine ax_iload_n dX6_readSpar_97 rfl ?_
        refine ax_if_eq (tgt := 105) dX6_readSpar_98 (by decide) (by omega) (fun c98 => ?_) (fun c98 => ?_)
        · exfalso
          omega
        · refine ax_iload_n dX6_readSpar_101 rfl ?_
          refine ax_goto (tgt := 109) dX6_readSpar_102 (by decide) ?_
          refine ax_istore dX6_readSpar_109 rfl (by decide) ?_
          refine ax_iload_n dX6_readSpar_111 rfl ?_
          refine ax_if_eq (tgt := 122) dX6_readSpar_112 (by decide) (by omega) (fun c112 => ?_) (fun c112 => ?_)
          · exfalso
            omega
          · refine ax_iload_n dX6_readSpar_115 rfl ?_
            refine ax_iload dX6_readSpar_116 rfl ?_
            refine ax_iadd dX6_readSpar_118 ?_
            rw [show (y : Int) + (i : Int) = ((y + i : Nat) : Int) by push_cast; rfl]
            refine ax_goto (tgt := 123) dX6_readSpar_119 (by decide) ?_
            refine ax_istore dX6_readSpar_123 rfl (by decide) ?_
            refine ax_aload_n dX6_readSpar_125 rfl ?_
            refine ax_getf dX6_readSpar_126 ck6 fl_X6_20 (by decide) (by omega) hO rfl ?_
            refine ax_iload dX6_readSpar_129 rfl ?_
            refine ax_iload dX6_readSpar_131 rfl ?_
            refine ax_csiP3 dX6_readSpar_133 ln_X6_readSpar_136 (Nat.le_of_ble_eq_true rfl) (Or.inr rfl) (s6_isSail (by omega) hD hKi.S (by omega) (by omega)) ?_
            rw [onZ_lo2 (fun j hj => spL_lo hj i) _ _ (by omega)]
            refine ax_if_eq (tgt := 161) dX6_readSpar_136 (by decide) (by split <;> omega) (fun c136 => ?_) (fun c136 => ?_)
            · have z : ¬ onZ K ((x : Nat) : Int) ((y + i : Nat) : Int) = true := fun w => by (rw [if_pos w] at c136; omega)
              refine ax_iinc dX6_readSpar_161 rfl rfl (by decide) ?_
              refine ax_goto (tgt := 83) dX6_readSpar_164 (by decide) ?_
              exact ih (i + 1) g _ _ (by omega) (by rw [show spL K true x y (i + 1) = stS K (spL K true x y i) (x) (y + i) from rfl]; unfold stS; rw [if_neg z]; exact hD) hO hY
            · have z : onZ K ((x : Nat) : Int) ((y + i : Nat) : Int) = true := by (by_cases w : onZ K ((x : Nat) : Int) ((y + i : Nat) : Int) = true; exact w; rw [if_neg w] at c136; exact absurd rfl c136)
              obtain ⟨u2, v2, e1, e2, h1, h2, h3, h4, -⟩ := onZ_nat hK z
              have eu : u2 = x := by omega
              have ev : v2 = y + i := by omega
              rw [eu, ev] at h3
              refine ax_aload_n dX6_readSpar_139 rfl ?_
              refine ax_getf dX6_readSpar_140 ck6 fl_X6_20 (by decide) (by omega) hO rfl ?_
              refine ax_sipush dX6_readSpar_143 (by decide) ?_
              refine ax_iload dX6_readSpar_146 rfl ?_
              refine ax_aload_n dX6_readSpar_148 rfl ?_
              refine ax_getf dX6_readSpar_149 ck6 fl_X6_20 (by decide) (by omega) hO rfl ?_
              refine ax_iconst dX6_readSpar_152 ?_
              refine ax_ialr (j := 0) (w := (K 0 : Int)) dX6_readSpar_153 (by omega) hD (by omega) (by omega) (by decide) (by rw [spL_lo (by decide) i]) ?_
              refine ax_imul dX6_readSpar_154 ?_
              refine ax_iadd dX6_readSpar_155 ?_
              refine ax_iload dX6_readSpar_156 rfl ?_
              refine ax_iadd dX6_readSpar_158 ?_
              refine ax_iconst dX6_readSpar_159 ?_
              rw [ix434 (y + i) (x) (K 0)]
              refine ax_iasr (j := (434 + ((y + i) * K 0 + (x)))) dX6_readSpar_160 (by omega) hD (by omega) (by omega) (by decide) (fun e160 he160 => ?_)
              have hD1 : DR (va_up g 115 e160) (upN (spL K true x y i) (434 + ((y + i) * K 0 + (x))) 1) := (he160.mv vu_eq).cong (fun i hi => by unfold upZ upN; split <;> rfl)
              refine ax_iinc dX6_readSpar_161 rfl rfl (by decide) ?_
              refine ax_goto (tgt := 83) dX6_readSpar_164 (by decide) ?_
              exact ih (i + 1) _ _ _ (by omega) (by rw [show spL K true x y (i + 1) = stS K (spL K true x y i) (x) (y + i) from rfl]; unfold stS; rw [if_pos z]; exact hD1) ((vu_ne (by decide)).trans hO) hY.up
theorem l6_sprf (hN : 132 ≤ NC) (hT : TX T) (hK : KI K) {x y l : Nat} (hx : x < 15) (hy : y < 12) (hl : l ≤ 15) (g0 : s 5 = 0) (kk : ∀ g, DR g (spL K false x y l) → XO g s → Y3 h g → Q .null g) : ∀ (f : Nat) (i : Nat) (g : hp) (w7 w8 : Value), i + f = l → DR g (spL K false x y i) → XO g s → Y3 h g → Ex NC none M_X6_readSpar 83 [.ref 112, .int (I 0), .int (I (x : Int)), .int (I (y : Int)), .int (I (l : Int)), .int (I (i : Int)), w7, w8] [] g Q := by
  have n0 := nC_le hK
  have h5 : -1000 ≤ s 5 ∧ s 5 ≤ 1000 := by omega
  intro f
  induction f with
  | zero =>
    intro i g w7 w8 hi hD hO hY
    have hKi := hK.spL (d := false) (x := x) (y := y) i
    refine ax_iload dX6_readSpar_83 rfl ?_
    refine ax_iload dX6_readSpar_85 rfl ?_
    refine ax_icmp_ge (tgt := 167) dX6_readSpar_87 (by decide) (by omega) (by omega) (fun c87 => ?_) (fun c87 => ?_)
    · have e : i = l := by omega
      subst e
      exact ax_vret dX6_readSpar_167 rfl (kk g hD hO hY)
    · exfalso
      omega
  | succ f ih =>
    intro i g w7 w8 hi hD hO hY
    have hKi := hK.spL (d := false) (x := x) (y := y) i
    refine ax_iload dX6_readSpar_83 rfl ?_
    refine ax_iload dX6_readSpar_85 rfl ?_
    refine ax_icmp_ge (tgt := 167) dX6_readSpar_87 (by decide) (by omega) (by omega) (fun c87 => ?_) (fun c87 => ?_)
    · exfalso
      omega
    · refine ax_aload_n dX6_readSpar_90 rfl ?_
      refine ax_cviP0 dX6_readSpar_91 ln_X6_readSpar_82 (Nat.le_of_ble_eq_true rfl) (Or.inr rfl) (by omega) hO rfl (s6_isGood hN hO h5) ?_
      refine ax_if_eq (tgt := 167) dX6_readSpar_94 (by decide) (by split <;> omega) (fun c94 => ?_) (fun c94 => ?_)
      · exfalso
        rw [if_pos g0] at c94
        omega
      · refine ax_iload_n dX6_readSpar_97 rfl ?_
        refine ax_if_eq (tgt := 105) dX6_readSpar_98 (by decide) (by omega) (fun c98 => ?_) (fun c98 => ?_)
        · refine ax_iload_n dX6_readSpar_105 rfl ?_
          refine ax_iload dX6_readSpar_106 rfl ?_
          refine ax_iadd dX6_readSpar_108 ?_
          rw [show (x : Int) + (i : Int) = ((x + i : Nat) : Int) by push_cast; rfl]
          refine ax_istore dX6_readSpar_109 rfl (by decide) ?_
          refine ax_iload_n dX6_readSpar_111 rfl ?_
          refine ax_if_eq (tgt := 122) dX6_readSpar_112 (by decide) (by omega) (fun c112 => ?_) (fun c112 => ?_)
          · refine ax_iload_n dX6_readSpar_122 rfl ?_
            refine ax_istore dX6_readSpar_123 rfl (by decide) ?_
            refine ax_aload_n dX6_readSpar_125 rfl ?_
            refine ax_getf dX6_readSpar_126 ck6 fl_X6_20 (by decide) (by omega) hO rfl ?_
            refine ax_iload dX6_readSpar_129 rfl ?_
            refine ax_iload dX6_readSpar_131 rfl ?_
            refine ax_csiP3 dX6_readSpar_133 ln_X6_readSpar_136 (Nat.le_of_ble_eq_true rfl) (Or.inr rfl) (s6_isSail (by omega) hD hKi.S (by omega) (by omega)) ?_
            rw [onZ_lo2 (fun j hj => spL_lo hj i) _ _ (by omega)]
            refine ax_if_eq (tgt := 161) dX6_readSpar_136 (by decide) (by split <;> omega) (fun c136 => ?_) (fun c136 => ?_)
            · have z : ¬ onZ K ((x + i : Nat) : Int) ((y : Nat) : Int) = true := fun w => by (rw [if_pos w] at c136; omega)
              refine ax_iinc dX6_readSpar_161 rfl rfl (by decide) ?_
              refine ax_goto (tgt := 83) dX6_readSpar_164 (by decide) ?_
              exact ih (i + 1) g _ _ (by omega) (by rw [show spL K false x y (i + 1) = stS K (spL K false x y i) (x + i) (y) from rfl]; unfold stS; rw [if_neg z]; exact hD) hO hY
            · have z : onZ K ((x + i : Nat) : Int) ((y : Nat) : Int) = true := by (by_cases w : onZ K ((x + i : Nat) : Int) ((y : Nat) : Int) = true; exact w; rw [if_neg w] at c136; exact absurd rfl c136)
              obtain ⟨u2, v2, e1, e2, h1, h2, h3, h4, -⟩ := onZ_nat hK z
              have eu : u2 = x + i := by omega
              have ev : v2 = y := by omega
              rw [eu, ev] at h3
              refine ax_aload_n dX6_readSpar_139 rfl ?_
              refine ax_getf dX6_readSpar_140 ck6 fl_X6_20 (by decide) (by omega) hO rfl ?_
              refine ax_sipush dX6_readSpar_143 (by decide) ?_
              refine ax_iload dX6_readSpar_146 rfl ?_
              refine ax_aload_n dX6_readSpar_148 rfl ?_
              refine ax_getf dX6_readSpar_149 ck6 fl_X6_20 (by decide) (by omega) hO rfl ?_
              refine ax_iconst dX6_readSpar_152 ?_
              refine ax_ialr (j := 0) (w := (K 0 : Int)) dX6_readSpar_153 (by omega) hD (by omega) (by omega) (by decide) (by rw [spL_lo (by decide) i]) ?_
              refine ax_imul dX6_readSpar_154 ?_
              refine ax_iadd dX6_readSpar_155 ?_
              refine ax_iload dX6_readSpar_156 rfl ?_
              refine ax_iadd dX6_readSpar_158 ?_
              refine ax_iconst dX6_readSpar_159 ?_
              rw [ix434 (y) (x + i) (K 0)]
              refine ax_iasr (j := (434 + ((y) * K 0 + (x + i)))) dX6_readSpar_160 (by omega) hD (by omega) (by omega) (by decide) (fun e160 he160 => ?_)
              have hD1 : DR (va_up g 115 e160) (upN (spL K false x y i) (434 + ((y) * K 0 + (x + i))) 1) := (he160.mv vu_eq).cong (fun i hi => by unfold upZ upN; split <;> rfl)
              refine ax_iinc dX6_readSpar_161 rfl rfl (by decide) ?_
              refine ax_goto (tgt := 83) dX6_readSpar_164 (by decide) ?_
              exact ih (i + 1) _ _ _ (by omega) (by rw [show spL K false x y (i + 1) = stS K (spL K false x y i) (x + i) (y) from rfl]; unfold stS; rw [if_pos z]; exact hD1) ((vu_ne (by decide)).trans hO) hY.up
          · exfalso
            omega
        · exfalso
          omega
def sprN (T : Nat → Int) (n : Nat) (K : Nat → Nat) (d : Bool) (s1 : Nat) : (Int × Int) ⊕ (Nat × (Nat → Nat)) := bnd (numP T n 0 ((K 0 : Int) - 1) s1) (fun x => bnd (numP T n 0 ((K 1 : Int) - 1) x.2) (fun y => bnd (numP T n 1 15 y.2) (fun l => .inr (l.2, spL K d x.1.toNat y.1.toNat l.1.toNat))))
theorem m6_numt (hN : 132 ≤ NC) (hT : TX T) (hO : XO h s) (hB : BT h T) (hP : PX T s n p t) (h5 : -1000 ≤ s 5 ∧ s 5 ≤ 1000) (hD : DR h K) (hK : KI K) {w2 w3 w4 w5 w6 w7 : Value} (kk : ∀ g s4 p4 t4 K4, XO g s4 → PX T s4 n p4 t4 → DR g K4 → Y3 h g → agN s s4 → ST (sprN T n K true t) (s 5) (s 6) (s4 5) (s4 6) (fun v => t4 = v.1 ∧ K4 = v.2) → Q .null g) : Ex NC none M_X6_readSpar 43 [.ref 112, .int (I 1), w2, w3, w4, w5, w6, w7] [] h Q := by
  have k0 := hK.1
  refine ax_aload_n dX6_readSpar_43 rfl ?_
  refine ax_iconst dX6_readSpar_44 ?_
  refine ax_aload_n dX6_readSpar_45 rfl ?_
  refine ax_getf dX6_readSpar_46 ck6 fl_X6_20 (by decide) (by omega) hO rfl ?_
  refine ax_iconst dX6_readSpar_49 ?_
  refine ax_ialr (j := 0) (w := (K 0 : Int)) dX6_readSpar_50 (by omega) hD (by omega) (by omega) (by decide) rfl ?_
  refine ax_iconst dX6_readSpar_51 ?_
  refine ax_isub dX6_readSpar_52 ?_
  refine ax_cvi2 dX6_readSpar_53 ln_X6_readSpar_125 (Nat.le_of_ble_eq_true rfl) (Or.inl rfl) (by omega) hO rfl (s6_number hN hO hT hB hP h5 (by omega)) (fun ret g2 hq => ?_)
  obtain ⟨z2, s2, p2, t2, hv, hz2, hO2, hA2, hP2, y2, bz2, st2⟩ := hq
  cases hv
  obtain ⟨v2, rfl⟩ : ∃ m : Nat, z2 = (m : Int) := ⟨z2.toNat, by omega⟩
  have hB2 : BT g2 T := hB.mv (y2 113 (by decide))
  have h52 := st2.rg h5
  have hD2 : DR g2 K := hD.mv (y2 115 (by decide))
  refine ax_istore_n dX6_readSpar_56 rfl (by decide) ?_
  refine ax_aload_n dX6_readSpar_57 rfl ?_
  refine ax_iconst dX6_readSpar_58 ?_
  refine ax_aload_n dX6_readSpar_59 rfl ?_
  refine ax_getf dX6_readSpar_60 ck6 fl_X6_20 (by decide) (by omega) hO2 rfl ?_
  refine ax_iconst dX6_readSpar_63 ?_
  refine ax_ialr (j := 1) (w := (K 1 : Int)) dX6_readSpar_64 (by omega) hD2 (by omega) (by omega) (by decide) rfl ?_
  refine ax_iconst dX6_readSpar_65 ?_
  refine ax_isub dX6_readSpar_66 ?_
  refine ax_cvi2 dX6_readSpar_67 ln_X6_readSpar_125 (Nat.le_of_ble_eq_true rfl) (Or.inl rfl) (by omega) hO2 rfl (s6_number hN hO2 hT hB2 hP2 h52 (by omega)) (fun ret g3 hq => ?_)
  obtain ⟨z3, s3, p3, t3, hv, hz3, hO3, hA3, hP3, y3, bz3, st3⟩ := hq
  cases hv
  obtain ⟨v3, rfl⟩ : ∃ m : Nat, z3 = (m : Int) := ⟨z3.toNat, by omega⟩
  have hB3 : BT g3 T := hB2.mv (y3 113 (by decide))
  have h53 := st3.rg h52
  have hD3 : DR g3 K := hD2.mv (y3 115 (by decide))
  refine ax_istore_n dX6_readSpar_70 rfl (by decide) ?_
  refine ax_aload_n dX6_readSpar_71 rfl ?_
  refine ax_iconst dX6_readSpar_72 ?_
  refine ax_bipush dX6_readSpar_73 (by decide) ?_
  refine ax_cvi2 dX6_readSpar_75 ln_X6_readSpar_125 (Nat.le_of_ble_eq_true rfl) (Or.inl rfl) (by omega) hO3 rfl (s6_number hN hO3 hT hB3 hP3 h53 (by omega)) (fun ret g4 hq => ?_)
  obtain ⟨z4, s4, p4, t4, hv, hz4, hO4, hA4, hP4, y4, bz4, st4⟩ := hq
  cases hv
  obtain ⟨v4, rfl⟩ : ∃ m : Nat, z4 = (m : Int) := ⟨z4.toNat, by omega⟩
  have hB4 : BT g4 T := hB3.mv (y4 113 (by decide))
  have h54 := st4.rg h53
  have hD4 : DR g4 K := hD3.mv (y4 115 (by decide))
  refine ax_istore dX6_readSpar_78 rfl (by decide) ?_
  refine ax_iconst dX6_readSpar_80 ?_
  refine ax_istore dX6_readSpar_81 rfl (by decide) ?_
  have fin := spr_fin (K := K) (D := spL K true) (ST.ok (e := s 5) (a := s 6) (G := fun y => t = y) rfl) st2 st3 st4
  have hF := (hA2.tr hA3).tr hA4
  by_cases g0 : s4 5 = 0
  · refine l6_sprt (h := g4) (s := s4) hN hT hK (x := v2) (y := v3) (l := v4) (by omega) (by omega) (by omega) g0 (fun g7 hD7 hO7 hY7 => ?_) v4 0 g4 _ _ (by omega) hD4 hO4 Y3.rf
    exact kk g7 s4 p4 t4 _ hO7 hP4 hD7 (((y2.w.tr y3.w).tr y4.w).tr hY7) hF fin
  · have lx : v4 = 0 := by have := bz4 g0; omega
    subst lx
    refine ax_iload dX6_readSpar_83 rfl ?_
    refine ax_iload dX6_readSpar_85 rfl ?_
    refine ax_icmp_ge (tgt := 167) dX6_readSpar_87 (by decide) (by omega) (by omega) (fun c87 => ?_) (fun c87 => ?_)
    · exact ax_vret dX6_readSpar_167 rfl (kk g4 s4 p4 t4 K hO4 hP4 hD4 ((y2.w.tr y3.w).tr y4.w) hF (fin.wk (fun y e _ => absurd e g0)))
    · exfalso
      omega
theorem m6_numf (hN : 132 ≤ NC) (hT : TX T) (hO : XO h s) (hB : BT h T) (hP : PX T s n p t) (h5 : -1000 ≤ s 5 ∧ s 5 ≤ 1000) (hD : DR h K) (hK : KI K) {w2 w3 w4 w5 w6 w7 : Value} (kk : ∀ g s4 p4 t4 K4, XO g s4 → PX T s4 n p4 t4 → DR g K4 → Y3 h g → agN s s4 → ST (sprN T n K false t) (s 5) (s 6) (s4 5) (s4 6) (fun v => t4 = v.1 ∧ K4 = v.2) → Q .null g) : Ex NC none M_X6_readSpar 43 [.ref 112, .int (I 0), w2, w3, w4, w5, w6, w7] [] h Q := by
  have k0 := hK.1
  refine ax_aload_n dX6_readSpar_43 rfl ?_
  refine ax_iconst dX6_readSpar_44 ?_
  refine ax_aload_n dX6_readSpar_45 rfl ?_
  refine ax_getf dX6_readSpar_46 ck6 fl_X6_20 (by decide) (by omega) hO rfl ?_
  refine ax_iconst dX6_readSpar_49 ?_
  refine ax_ialr (j := 0) (w := (K 0 : Int)) dX6_readSpar_50 (by omega) hD (by omega) (by omega) (by decide) rfl ?_
  refine ax_iconst dX6_readSpar_51 ?_
  refine ax_isub dX6_readSpar_52 ?_
  refine ax_cvi2 dX6_readSpar_53 ln_X6_readSpar_125 (Nat.le_of_ble_eq_true rfl) (Or.inl rfl) (by omega) hO rfl (s6_number hN hO hT hB hP h5 (by omega)) (fun ret g2 hq => ?_)
  obtain ⟨z2, s2, p2, t2, hv, hz2, hO2, hA2, hP2, y2, bz2, st2⟩ := hq
  cases hv
  obtain ⟨v2, rfl⟩ : ∃ m : Nat, z2 = (m : Int) := ⟨z2.toNat, by omega⟩
  have hB2 : BT g2 T := hB.mv (y2 113 (by decide))
  have h52 := st2.rg h5
  have hD2 : DR g2 K := hD.mv (y2 115 (by decide))
  refine ax_istore_n dX6_readSpar_56 rfl (by decide) ?_
  refine ax_aload_n dX6_readSpar_57 rfl ?_
  refine ax_iconst dX6_readSpar_58 ?_
  refine ax_aload_n dX6_readSpar_59 rfl ?_
  refine ax_getf dX6_readSpar_60 ck6 fl_X6_20 (by decide) (by omega) hO2 rfl ?_
  refine ax_iconst dX6_readSpar_63 ?_
  refine ax_ialr (j := 1) (w := (K 1 : Int)) dX6_readSpar_64 (by omega) hD2 (by omega) (by omega) (by decide) rfl ?_
  refine ax_iconst dX6_readSpar_65 ?_
  refine ax_isub dX6_readSpar_66 ?_
  refine ax_cvi2 dX6_readSpar_67 ln_X6_readSpar_125 (Nat.le_of_ble_eq_true rfl) (Or.inl rfl) (by omega) hO2 rfl (s6_number hN hO2 hT hB2 hP2 h52 (by omega)) (fun ret g3 hq => ?_)
  obtain ⟨z3, s3, p3, t3, hv, hz3, hO3, hA3, hP3, y3, bz3, st3⟩ := hq
  cases hv
  obtain ⟨v3, rfl⟩ : ∃ m : Nat, z3 = (m : Int) := ⟨z3.toNat, by omega⟩
  have hB3 : BT g3 T := hB2.mv (y3 113 (by decide))
  have h53 := st3.rg h52
  have hD3 : DR g3 K := hD2.mv (y3 115 (by decide))
  refine ax_istore_n dX6_readSpar_70 rfl (by decide) ?_
  refine ax_aload_n dX6_readSpar_71 rfl ?_
  refine ax_iconst dX6_readSpar_72 ?_
  refine ax_bipush dX6_readSpar_73 (by decide) ?_
  refine ax_cvi2 dX6_readSpar_75 ln_X6_readSpar_125 (Nat.le_of_ble_eq_true rfl) (Or.inl rfl) (by omega) hO3 rfl (s6_number hN hO3 hT hB3 hP3 h53 (by omega)) (fun ret g4 hq => ?_)
  obtain ⟨z4, s4, p4, t4, hv, hz4, hO4, hA4, hP4, y4, bz4, st4⟩ := hq
  cases hv
  obtain ⟨v4, rfl⟩ : ∃ m : Nat, z4 = (m : Int) := ⟨z4.toNat, by omega⟩
  have hB4 : BT g4 T := hB3.mv (y4 113 (by decide))
  have h54 := st4.rg h53
  have hD4 : DR g4 K := hD3.mv (y4 115 (by decide))
  refine ax_istore dX6_readSpar_78 rfl (by decide) ?_
  refine ax_iconst dX6_readSpar_80 ?_
  refine ax_istore dX6_readSpar_81 rfl (by decide) ?_
  have fin := spr_fin (K := K) (D := spL K false) (ST.ok (e := s 5) (a := s 6) (G := fun y => t = y) rfl) st2 st3 st4
  have hF := (hA2.tr hA3).tr hA4
  by_cases g0 : s4 5 = 0
  · refine l6_sprf (h := g4) (s := s4) hN hT hK (x := v2) (y := v3) (l := v4) (by omega) (by omega) (by omega) g0 (fun g7 hD7 hO7 hY7 => ?_) v4 0 g4 _ _ (by omega) hD4 hO4 Y3.rf
    exact kk g7 s4 p4 t4 _ hO7 hP4 hD7 (((y2.w.tr y3.w).tr y4.w).tr hY7) hF fin
  · have lx : v4 = 0 := by have := bz4 g0; omega
    subst lx
    refine ax_iload dX6_readSpar_83 rfl ?_
    refine ax_iload dX6_readSpar_85 rfl ?_
    refine ax_icmp_ge (tgt := 167) dX6_readSpar_87 (by decide) (by omega) (by omega) (fun c87 => ?_) (fun c87 => ?_)
    · exact ax_vret dX6_readSpar_167 rfl (kk g4 s4 p4 t4 K hO4 hP4 hD4 ((y2.w.tr y3.w).tr y4.w) hF (fin.wk (fun y e _ => absurd e g0)))
    · exfalso
      omega
theorem s6_readSpar (hN : 132 ≤ NC) (hT : TX T) (hO : XO h s) (hB : BT h T) (hP : PX T s n p t) (h5 : -1000 ≤ s 5 ∧ s 5 ≤ 1000) (hD : DR h K) (gg : s 5 = 0) (hK : KI K) : Cl NC M_X6_readSpar [.ref 112] h (fun _ h1 => ∃ s1 p1 t1 K1, XO h1 s1 ∧ PX T s1 n p1 t1 ∧ DR h1 K1 ∧ Y3 h h1 ∧ agS s s1 ∧ (s1 14 = s 14 ∧ s1 15 = 1) ∧ ST (sprP T n t K) (s 5) (s 6) (s1 5) (s1 6) (fun v => t1 = v.1 ∧ K1 = v.2)) := by
  have k0 := hK.1
  refine ax_aload_n dX6_readSpar_0 rfl ?_
  refine ax_cviP0 dX6_readSpar_1 ln_X6_readSpar_82 (Nat.le_of_ble_eq_true rfl) (Or.inr rfl) (by omega) hO rfl (s6_isGood hN hO h5) ?_
  refine ax_if_ne (tgt := 8) dX6_readSpar_4 (by decide) (by split <;> omega) (fun c4 => ?_) (fun c4 => ?_)
  · refine ax_aload_n dX6_readSpar_8 rfl ?_
    refine ax_iconst dX6_readSpar_9 ?_
    refine ax_putf dX6_readSpar_10 ck6 fl_X6_118 (by decide) (by omega) hO rfl (Or.inr ⟨rfl, Or.inr rfl⟩) (Nat.le_of_ble_eq_true rfl) rfl ?_
    generalize hgga : va_up h 112 _ = ga
    obtain ⟨sa, hOa, esa⟩ : ∃ rr, XO ga rr ∧ rr = upZ s 15 1 := ⟨_, by rw [← hgga]; exact hO.s15, rfl⟩
    have ya : Y2 h ga := fun a ha => by rw [← hgga]; exact (vu_ne ha)
    have hb0 : BT ga T := hB.mv (ya 113 (by decide))
    have hPa : PX T sa n p t := ⟨hP.1, by rw [esa]; exact hP.2.1, by rw [esa]; exact hP.2.2.1, hP.2.2.2.1, hP.2.2.2.2⟩
    have q5 : sa 5 = 0 := by rw [esa]; exact gg
    have hDa : DR ga K := hD.mv (ya 115 (by decide))
    refine ax_aload_n dX6_readSpar_13 rfl ?_
    refine ex_ldcS (j := 7) (tx := "down") (by decide) dX6_readSpar_14 ?_
    refine ax_cvi1 dX6_readSpar_16 ln_X6_readSpar_130 (Nat.le_of_ble_eq_true rfl) (Or.inr rfl) (by omega) hOa rfl (s6_takeWord hN hOa hT hb0 hPa (by omega) (j := 7) (by decide)) (fun ret g1 hq => ?_)
    obtain ⟨z, s1, p1, t1, hv, hz, hO1, hA1, hP1, y1, -, w1, w0⟩ := hq
    cases hv
    have q15 : s1 5 = 0 := (hA1 5 (by decide)).trans q5
    have q16 : s1 6 = s 6 := (hA1 6 (by decide)).trans (by rw [esa]; rfl)
    have hB1 : BT g1 T := hb0.mv (y1 113 (by decide))
    have hD1 : DR g1 K := hDa.mv (y1 115 (by decide))
    have ya1 := ya.tr y1
    rcases hz with hz | hz
    · subst hz
      obtain ⟨wf, e1, e2⟩ := w0 q5 rfl
      rw [e1] at hP1
      have hzf : wd T n 7 t = false := wf
      refine ax_istore_n dX6_readSpar_19 rfl (by decide) ?_
      refine ax_iload_n dX6_readSpar_20 rfl ?_
      refine ax_if_ne (tgt := 43) dX6_readSpar_21 (by decide) (by omega) (fun c21 => ?_) (fun c21 => ?_)
      · exfalso
        omega
      · refine ax_aload_n dX6_readSpar_24 rfl ?_
        refine ex_ldcS (j := 8) (tx := "across") (by decide) dX6_readSpar_25 ?_
        refine ax_cvi1 dX6_readSpar_27 ln_X6_readSpar_130 (Nat.le_of_ble_eq_true rfl) (Or.inr rfl) (by omega) hO1 rfl (s6_takeWord hN hO1 hT hB1 hP1 (by omega) (j := 8) (by decide)) (fun ret g2 hq => ?_)
        obtain ⟨z, s2, p2, t2, hv, hz, hO2, hA2, hP2, y2, -, w1, w0⟩ := hq
        cases hv
        have q25 : s2 5 = 0 := (hA2 5 (by decide)).trans q15
        have q26 : s2 6 = s 6 := (hA2 6 (by decide)).trans q16
        rcases hz with hz | hz
        · subst hz
          obtain ⟨wf2, e1, e2⟩ := w0 q15 rfl
          rw [e1, e2] at hP2
          refine ax_if_ne (tgt := 43) dX6_readSpar_30 (by decide) (by omega) (fun c30 => ?_) (fun c30 => ?_)
          · exfalso
            omega
          · refine ax_aload_n dX6_readSpar_33 rfl ?_
            refine ax_bipush dX6_readSpar_34 (by decide) ?_
            refine ax_aload_n dX6_readSpar_36 rfl ?_
            refine ax_getf dX6_readSpar_37 ck6 fl_X6_70 (by decide) (by omega) hO2 rfl ?_
            rw [hP2.2.2.1]
            refine ax_cvv2 dX6_readSpar_40 ln_X6_readSpar_99 (Nat.le_of_ble_eq_true rfl) rfl (by omega) hO2 rfl (s6_report hN hO2 (by omega)) (fun g3 hq => ?_)
            obtain ⟨hO3, y3⟩ := hq
            refine m6_numf (h := g3) (s := _) hN hT hO3 (hB1.mv ((y3 113 (by decide)).trans (y2 113 (by decide)))) (hP2.rep (c := -2) (b := (t : Int))) (by rw [rep5]; split <;> omega) (hD1.mv ((y3 115 (by decide)).trans (y2 115 (by decide)))) hK (fun g9 s9 p9 t9 K9 hO9 hP9 hD9 hY9 hA9 st9 => ?_)
            refine ⟨s9, p9, t9, K9, hO9, hP9, hD9, ((ya1.tr y2).tr y3).w.tr hY9, ⟨(hA9 0 (by decide) (by decide) (by decide) (by decide)).trans ((repk (by decide) (by decide)).trans (((hA2 0 (by decide)).trans (hA1 0 (by decide))).trans (by rw [esa]; rfl))), (hA9 2 (by decide) (by decide) (by decide) (by decide)).trans ((repk (by decide) (by decide)).trans (((hA2 2 (by decide)).trans (hA1 2 (by decide))).trans (by rw [esa]; rfl))), (hA9 7 (by decide) (by decide) (by decide) (by decide)).trans ((repk (by decide) (by decide)).trans (((hA2 7 (by decide)).trans (hA1 7 (by decide))).trans (by rw [esa]; rfl))), (hA9 12 (by decide) (by decide) (by decide) (by decide)).trans ((repk (by decide) (by decide)).trans (((hA2 12 (by decide)).trans (hA1 12 (by decide))).trans (by rw [esa]; rfl)))⟩, ⟨(hA9 14 (by decide) (by decide) (by decide) (by decide)).trans ((repk (by decide) (by decide)).trans (((hA2 14 (by decide)).trans (hA1 14 (by decide))).trans (by rw [esa]; rfl))), (hA9 15 (by decide) (by decide) (by decide) (by decide)).trans ((repk (by decide) (by decide)).trans (((hA2 15 (by decide)).trans (hA1 15 (by decide))).trans (by rw [esa]; rfl)))⟩, ?_⟩
            unfold sprP
            rw [hzf]
            have st1 : ST (if false = true then .inr (sN T n t) else wrdP T n 8 t) (s 5) (s 6) (rep s2 (-2) (t : Int) 5) (rep s2 (-2) (t : Int) 6) (fun y => t = y) := by
              rw [rep5, rep6, q25, q26, gg, if_neg (by decide)]; unfold wrdP; rw [if_neg (by rw [wf2]; decide)]; exact ST.no (by decide)
            exact ST.bnd st1 (fun e => st9.keep e) (fun y _ hy => by rw [← hy]; exact st9)
        · subst hz
          obtain ⟨wt2, e1⟩ := w1 q15 rfl
          refine ax_if_ne (tgt := 43) dX6_readSpar_30 (by decide) (by omega) (fun c30 => ?_) (fun c30 => ?_)
          · refine m6_numf (h := g2) (s := _) hN hT hO2 (hB1.mv (y2 113 (by decide))) hP2 (by omega) (hD1.mv (y2 115 (by decide))) hK (fun g9 s9 p9 t9 K9 hO9 hP9 hD9 hY9 hA9 st9 => ?_)
            refine ⟨s9, p9, t9, K9, hO9, hP9, hD9, (ya1.tr y2).w.tr hY9, ⟨(hA9 0 (by decide) (by decide) (by decide) (by decide)).trans (((hA2 0 (by decide)).trans (hA1 0 (by decide))).trans (by rw [esa]; rfl)), (hA9 2 (by decide) (by decide) (by decide) (by decide)).trans (((hA2 2 (by decide)).trans (hA1 2 (by decide))).trans (by rw [esa]; rfl)), (hA9 7 (by decide) (by decide) (by decide) (by decide)).trans (((hA2 7 (by decide)).trans (hA1 7 (by decide))).trans (by rw [esa]; rfl)), (hA9 12 (by decide) (by decide) (by decide) (by decide)).trans (((hA2 12 (by decide)).trans (hA1 12 (by decide))).trans (by rw [esa]; rfl))⟩, ⟨(hA9 14 (by decide) (by decide) (by decide) (by decide)).trans (((hA2 14 (by decide)).trans (hA1 14 (by decide))).trans (by rw [esa]; rfl)), (hA9 15 (by decide) (by decide) (by decide) (by decide)).trans (((hA2 15 (by decide)).trans (hA1 15 (by decide))).trans (by rw [esa]; rfl))⟩, ?_⟩
            unfold sprP
            rw [hzf]
            have st1 : ST (if false = true then .inr (sN T n t) else wrdP T n 8 t) (s 5) (s 6) (s2 5) (s2 6) (fun y => t2 = y) := by
              rw [q25, q26, gg, if_neg (by decide)]; unfold wrdP; rw [if_pos wt2]; exact ST.ok e1
            exact ST.bnd st1 (fun e => st9.keep e) (fun y _ hy => by rw [← hy]; exact st9)
          · exfalso
            omega
    · subst hz
      obtain ⟨wt, e1⟩ := w1 q5 rfl
      have hzt : wd T n 7 t = true := wt
      refine ax_istore_n dX6_readSpar_19 rfl (by decide) ?_
      refine ax_iload_n dX6_readSpar_20 rfl ?_
      refine ax_if_ne (tgt := 43) dX6_readSpar_21 (by decide) (by omega) (fun c21 => ?_) (fun c21 => ?_)
      · refine m6_numt (h := g1) (s := _) hN hT hO1 hB1 hP1 (by omega) hD1 hK (fun g9 s9 p9 t9 K9 hO9 hP9 hD9 hY9 hA9 st9 => ?_)
        refine ⟨s9, p9, t9, K9, hO9, hP9, hD9, ya1.w.tr hY9, ⟨(hA9 0 (by decide) (by decide) (by decide) (by decide)).trans ((hA1 0 (by decide)).trans (by rw [esa]; rfl)), (hA9 2 (by decide) (by decide) (by decide) (by decide)).trans ((hA1 2 (by decide)).trans (by rw [esa]; rfl)), (hA9 7 (by decide) (by decide) (by decide) (by decide)).trans ((hA1 7 (by decide)).trans (by rw [esa]; rfl)), (hA9 12 (by decide) (by decide) (by decide) (by decide)).trans ((hA1 12 (by decide)).trans (by rw [esa]; rfl))⟩, ⟨(hA9 14 (by decide) (by decide) (by decide) (by decide)).trans ((hA1 14 (by decide)).trans (by rw [esa]; rfl)), (hA9 15 (by decide) (by decide) (by decide) (by decide)).trans ((hA1 15 (by decide)).trans (by rw [esa]; rfl))⟩, ?_⟩
        unfold sprP
        rw [hzt]
        have st1 : ST (if true = true then .inr (sN T n t) else wrdP T n 8 t) (s 5) (s 6) (s1 5) (s1 6) (fun y => t1 = y) := by rw [q15, q16, gg, if_pos rfl]; exact ST.ok e1
        exact ST.bnd st1 (fun e => st9.keep e) (fun y _ hy => by rw [← hy]; exact st9)
      · exfalso
        omega
  · exfalso
    rw [if_pos gg] at c4
    omega
end RM
