/-! the class's reader: mixes, spars -/
theorem mix_fin {T : Nat → Int} {n s0 s1 s2 s5 v1 v2 m : Nat} {K : Nat → Nat} {e a e1 a1 e2 a2 e3 a3 e4 a4 e5 a5 q1 q2 q5 : Int} (h1 : ST (numP T n 1 6 s0) e a e1 a1 (fun y => (v1 : Int) = y.1 ∧ s1 = y.2 ∧ q1 = (s0 : Int))) (h2 : ST (numP T n 1 6 s1) e1 a1 e2 a2 (fun y => (v2 : Int) = y.1 ∧ s2 = y.2 ∧ q2 = (s1 : Int)))
    (h3 : ST (chk (decide ((v1 : Int) = (v2 : Int))) (-3) q2) e2 a2 e3 a3 (fun _ => decide ((v1 : Int) = (v2 : Int)) = false)) (h4 : ST (chk (decide (K (25 + (v1 * 7 + v2)) ≠ 0)) (-4) q2) e3 a3 e4 a4 (fun _ => decide (K (25 + (v1 * 7 + v2)) ≠ 0) = false)) (h5 : ST (numP T n 1 6 s2) e4 a4 e5 a5 (fun y => (m : Int) = y.1 ∧ s5 = y.2 ∧ q5 = (s2 : Int))) : ST (mixP T n s0 K) e a e5 a5 (fun v => s5 = v.1 ∧ telM K v1 v2 m = v.2) := by
  unfold mixP
  refine ST.bnd h1 (fun e => by have k2 := h2.keep e; have k3 := h3.keep (by omega); have k4 := h4.keep (by omega); have k5 := h5.keep (by omega); omega) (fun y _ hy => ?_)
  obtain ⟨w1, w2, -⟩ := hy
  rw [← w1, ← w2]
  refine ST.bnd h2 (fun e => by have k3 := h3.keep e; have k4 := h4.keep (by omega); have k5 := h5.keep (by omega); omega) (fun y _ hy => ?_)
  obtain ⟨w1, w2, w3⟩ := hy
  rw [← w1, ← w2, ← w3, Int.toNat_natCast, Int.toNat_natCast]
  refine ST.bnd h3 (fun e => by have k4 := h4.keep e; have k5 := h5.keep (by omega); omega) (fun y _ _ => ?_)
  refine ST.bnd h4 (fun e => by have k5 := h5.keep e; omega) (fun y _ _ => ?_)
  refine ST.bnd h5 (fun e => ⟨rfl, rfl⟩) (fun y _ hy => ?_)
  obtain ⟨w1, w2, -⟩ := hy
  rw [← w1, ← w2, Int.toNat_natCast]
  exact ST.ok ⟨rfl, rfl⟩
theorem spr_fin {T : Nat → Int} {n s1 s2 s3 s4 v1 v2 m : Nat} {K : Nat → Nat} {e a e1 a1 e2 a2 e3 a3 e4 a4 q2 q3 q4 : Int} {D : Nat → Nat → Nat → (Nat → Nat)} {x0 : (Int × Int) ⊕ Nat} (h1 : ST x0 e a e1 a1 (fun y => s1 = y)) (h2 : ST (numP T n 0 ((K 0 : Int) - 1) s1) e1 a1 e2 a2 (fun y => (v1 : Int) = y.1 ∧ s2 = y.2 ∧ q2 = (s1 : Int)))
    (h3 : ST (numP T n 0 ((K 1 : Int) - 1) s2) e2 a2 e3 a3 (fun y => (v2 : Int) = y.1 ∧ s3 = y.2 ∧ q3 = (s2 : Int))) (h4 : ST (numP T n 1 15 s3) e3 a3 e4 a4 (fun y => (m : Int) = y.1 ∧ s4 = y.2 ∧ q4 = (s3 : Int))) :
    ST (bnd x0 (fun s1 => bnd (numP T n 0 ((K 0 : Int) - 1) s1) (fun x => bnd (numP T n 0 ((K 1 : Int) - 1) x.2) (fun y => bnd (numP T n 1 15 y.2) (fun l => (.inr (l.2, D x.1.toNat y.1.toNat l.1.toNat) : (Int × Int) ⊕ (Nat × (Nat → Nat)))))))) e a e4 a4 (fun v => s4 = v.1 ∧ D v1 v2 m = v.2) := by
  refine ST.bnd h1 (fun e => by have k2 := h2.keep e; have k3 := h3.keep (by omega); have k4 := h4.keep (by omega); omega) (fun y _ hy => ?_)
  subst hy
  refine ST.bnd h2 (fun e => by have k3 := h3.keep e; have k4 := h4.keep (by omega); omega) (fun y _ hy => ?_)
  obtain ⟨w1, w2, -⟩ := hy
  rw [← w1, ← w2]
  refine ST.bnd h3 (fun e => by have k4 := h4.keep e; omega) (fun y _ hy => ?_)
  obtain ⟨w1, w2, -⟩ := hy
  rw [← w1, ← w2]
  refine ST.bnd h4 (fun e => ⟨rfl, rfl⟩) (fun y _ hy => ?_)
  obtain ⟨w1, w2, -⟩ := hy
  rw [← w1, ← w2, Int.toNat_natCast, Int.toNat_natCast, Int.toNat_natCast]
  exact ST.ok ⟨rfl, rfl⟩
theorem onZ_lo2 {K K' : Nat → Nat} (h : ∀ j, j < 434 → K' j = K j) (x y : Int) (hy : y < 100) : onZ K' x y = onZ K x y := by
  unfold onZ
  by_cases h0 : 0 ≤ y
  · rw [h 0 (by omega), h 1 (by omega), h (6 + y.toNat) (by omega)]
  · simp [h0]
theorem numP_in {T : Nat → Int} {n s : Nat} {lo hi : Int} {v : Int × Nat} (h : numP T n lo hi s = .inr v) : lo ≤ v.1 ∧ v.1 ≤ hi ∧ v.2 = sN T n s := by
  unfold numP at h
  by_cases q : isD T n s = true
  · rw [if_pos q] at h
    by_cases z : lo ≤ vN T n s ∧ vN T n s ≤ hi
    · rw [if_pos z] at h; cases h; exact ⟨z.1, z.2, rfl⟩
    · rw [if_neg z] at h; cases h
  · rw [if_neg q] at h; cases h
section RD
variable {NC b : Nat} {h : hp} {r T : Nat → Int} {n s : Nat} {K : Nat → Nat} {Q : qt}
theorem mix_tail (hN : 112 ≤ NC) (hb : b + 10 ≤ 103) (hT : TX T) (hO : RO h r) (hTr : TR h T) (hk : TK T n r s) (h6 : -1000 ≤ r 6 ∧ r 6 ≤ 1000) (hS : SA NC h b K) (hK : KI K) {u1 u2 : Nat} (hu1 : u1 < 7) (hu2 : u2 < 7) (kk : ∀ g r5 s5 m q5, RO g r5 → TK T n r5 s5 → agF r r5 → SA NC g b (telM K u1 u2 m) → YB b h g → ST (numP T n 1 6 s) (r 6) (r 7) (r5 6) (r5 7) (fun y => ((m : Nat) : Int) = y.1 ∧ s5 = y.2 ∧ q5 = (s : Int)) → Q .null g) : Ex NC none M_X4_readMix 57 [.ref 110, .ref b, .int (I (u1 : Int)), .int (I (u2 : Int))] [] h Q := by
  refine ax_aload_n dX4_readMix_57 rfl ?_
  refine ax_iload_n dX4_readMix_58 rfl ?_
  refine ax_iload_n dX4_readMix_59 rfl ?_
  refine ax_aload_n dX4_readMix_60 rfl ?_
  refine ax_iconst dX4_readMix_61 ?_
  refine ax_bipush dX4_readMix_62 (by decide) ?_
  refine ax_cvi2 dX4_readMix_64 ln_X4_readMix_109 (Nat.le_of_ble_eq_true rfl) (Or.inl rfl) (by omega) hO rfl (sp_readNumber hN hO hT hTr hk h6 (by omega)) (fun ret g5 hq => ?_)
  obtain ⟨z5, r5, s5, hv, hz5, hO5, hk5, ha5, y5, st5⟩ := hq
  cases hv
  obtain ⟨v5, rfl⟩ : ∃ m : Nat, z5 = (m : Int) := ⟨z5.toNat, by omega⟩
  have hS5 : SA NC g5 b K := hS.eq (fun a a1 a2 => y5 a (by omega))
  have hTr5 : TR g5 T := hTr.mv (y5 111 (by decide))
  have h65 := st5.rg h6
  refine ax_cvv3 dX4_readMix_67 ln_X4_readMix_167 (Nat.le_of_ble_eq_true rfl) rfl hS5.n0 hS5.o rfl (sp_tellMix hS5 (m := v5) hu1 hu2) (fun g6 hq => ?_)
  obtain ⟨hS6, hF6⟩ := hq
  exact ax_vret dX4_readMix_70 rfl (kk g6 r5 s5 v5 (r5 8) ((hF6 110 (by omega)).trans hO5) hk5 ha5 hS6 ((YB.rf.y y5).f hF6) st5)
theorem sp_readMix (hN : 112 ≤ NC) (hb : b + 10 ≤ 103) (hT : TX T) (hO : RO h r) (hTr : TR h T) (hk : TK T n r s) (h6 : -1000 ≤ r 6 ∧ r 6 ≤ 1000) (hS : SA NC h b K) (hK : KI K) : Cl NC M_X4_readMix [.ref 110, .ref b] h (fun _ h1 => ∃ r1 s1 K1, RO h1 r1 ∧ TK T n r1 s1 ∧ SA NC h1 b K1 ∧ YB b h h1 ∧ agF r r1 ∧ ST (mixP T n (sN T n s) K) (r 6) (r 7) (r1 6) (r1 7) (fun v => s1 = v.1 ∧ K1 = v.2)) := by
  refine ax_aload_n dX4_readMix_0 rfl ?_
  refine ax_cvv0 dX4_readMix_1 ln_X4_readMix_50 (Nat.le_of_ble_eq_true rfl) rfl (by omega) hO rfl (sp_next hN hO hT hTr hk) (fun g0 hq => ?_)
  obtain ⟨r0, hO0, ha0, hk0, y0⟩ := hq
  have e06 : r0 6 = r 6 := ha0 6 (by decide) (by decide) (by decide)
  have e07 : r0 7 = r 7 := ha0 7 (by decide) (by decide) (by decide)
  have h60 : -1000 ≤ r0 6 ∧ r0 6 ≤ 1000 := by omega
  have hTr0 : TR g0 T := hTr.mv (y0 111 (by decide))
  have hS0 : SA NC g0 b K := hS.eq (fun a a1 a2 => y0 a (by omega))
  refine ax_aload_n dX4_readMix_4 rfl ?_
  refine ax_iconst dX4_readMix_5 ?_
  refine ax_bipush dX4_readMix_6 (by decide) ?_
  refine ax_cvi2 dX4_readMix_8 ln_X4_readMix_109 (Nat.le_of_ble_eq_true rfl) (Or.inl rfl) (by omega) hO0 rfl (sp_readNumber hN hO0 hT hTr0 hk0 h60 (by omega)) (fun ret g1 hq => ?_)
  obtain ⟨z1, r1, s1, hv, hz1, hO1, hk1, ha1, y1, st1⟩ := hq
  cases hv
  obtain ⟨v1, rfl⟩ : ∃ m : Nat, z1 = (m : Int) := ⟨z1.toNat, by omega⟩
  have hS1 : SA NC g1 b K := hS0.eq (fun a a1 a2 => y1 a (by omega))
  have hTr1 : TR g1 T := hTr0.mv (y1 111 (by decide))
  have h61 := st1.rg h60
  refine ax_istore_n dX4_readMix_11 rfl (by decide) ?_
  refine ax_aload_n dX4_readMix_12 rfl ?_
  refine ax_iconst dX4_readMix_13 ?_
  refine ax_bipush dX4_readMix_14 (by decide) ?_
  refine ax_cvi2 dX4_readMix_16 ln_X4_readMix_109 (Nat.le_of_ble_eq_true rfl) (Or.inl rfl) (by omega) hO1 rfl (sp_readNumber hN hO1 hT hTr1 hk1 h61 (by omega)) (fun ret g2 hq => ?_)
  obtain ⟨z2, r2, s2, hv, hz2, hO2, hk2, ha2, y2, st2⟩ := hq
  cases hv
  obtain ⟨v2, rfl⟩ : ∃ m : Nat, z2 = (m : Int) := ⟨z2.toNat, by omega⟩
  have hS2 : SA NC g2 b K := hS1.eq (fun a a1 a2 => y2 a (by omega))
  have hTr2 : TR g2 T := hTr1.mv (y2 111 (by decide))
  have h62 := st2.rg h61
  have yb2 : YB b h g2 := ((YB.rf.y y0).y y1).y y2
  refine ax_istore_n dX4_readMix_19 rfl (by decide) ?_
  refine ax_iload_n dX4_readMix_20 rfl ?_
  refine ax_iload_n dX4_readMix_21 rfl ?_
  refine ax_icmp_ne (tgt := 38) dX4_readMix_22 (by decide) (by omega) (by omega) (fun c22 => ?_) (fun c22 => ?_)
  · refine ax_aload_n dX4_readMix_38 rfl ?_
    refine ax_iload_n dX4_readMix_39 rfl ?_
    refine ax_iload_n dX4_readMix_40 rfl ?_
    refine ax_cviP2 dX4_readMix_41 ln_X4_readMix_164 (Nat.le_of_ble_eq_true rfl) (Or.inl rfl) hS2.n0 hS2.o rfl (sp_toldMix hS2 hK (a := v1) (c := v2) (by omega) (by omega)) ?_
    refine ax_if_eq (tgt := 57) dX4_readMix_44 (by decide) (by have := hK.2.2.2.1 (v1 * 7 + v2) (by omega); omega) (fun c44 => ?_) (fun c44 => ?_)
    · have st3 : ST (chk (decide ((v1 : Int) = (v2 : Int))) (-3) (r2 8)) (r2 6) (r2 7) (r2 6) (r2 7) (fun _ => decide ((v1 : Int) = (v2 : Int)) = false) := ST.chk (by decide) (if_neg (by rw [decide_eq_true_iff]; exact c22)).symm
      have st4 : ST (chk (decide (K (25 + (v1 * 7 + v2)) ≠ 0)) (-4) (r2 8)) (r2 6) (r2 7) (r2 6) (r2 7) (fun _ => decide (K (25 + (v1 * 7 + v2)) ≠ 0) = false) := ST.chk (by decide) (if_neg (by rw [decide_eq_true_iff]; omega)).symm
      refine mix_tail hN hb hT hO2 hTr2 hk2 h62 hS2 hK (u1 := v1) (u2 := v2) (by omega) (by omega) (fun g7 r7 s7 m q7 hO7 hk7 ha7 hS7 hY7 st7 => ?_)
      have hF := ((ha0.F.tr ha1).tr ha2).tr (agF.tr (⟨rfl, rfl, rfl, rfl, rfl⟩ : agF r2 r2) ha7)
      have fin := mix_fin st1 st2 st3 st4 st7
      rw [e06, e07] at fin
      exact ⟨r7, s7, _, hO7, hk7, hS7, yb2.tr hY7, hF, fin⟩
    · refine ax_aload_n dX4_readMix_47 rfl ?_
      refine ax_bipush dX4_readMix_48 (by decide) ?_
      refine ax_aload_n dX4_readMix_50 rfl ?_
      refine ax_getf dX4_readMix_51 ck4 fl_X4_93 (by decide) (by omega) hO2 rfl ?_
      refine ax_cvv2 dX4_readMix_54 ln_X4_readMix_89 (Nat.le_of_ble_eq_true rfl) rfl (by omega) hO2 rfl (sp_fail hN hO2 h62) (fun g3 hq => ?_)
      obtain ⟨hO3, y3⟩ := hq
      have st3 : ST (chk (decide ((v1 : Int) = (v2 : Int))) (-3) (r2 8)) (r2 6) (r2 7) (r2 6) (r2 7) (fun _ => decide ((v1 : Int) = (v2 : Int)) = false) := ST.chk (by decide) (if_neg (by rw [decide_eq_true_iff]; exact c22)).symm
      have st4 : ST (chk (decide (K (25 + (v1 * 7 + v2)) ≠ 0)) (-4) (r2 8)) (r2 6) (r2 7) (flr r2 (-4) (r2 8) 6) (flr r2 (-4) (r2 8) 7) (fun _ => decide (K (25 + (v1 * 7 + v2)) ≠ 0) = false) := ST.chk (by decide) (if_pos (decide_eq_true (by omega))).symm
      have h63 := st4.rg h62
      refine mix_tail hN hb hT hO3 (hTr2.mv (y3 111 (by decide))) hk2.fl h63 (hS2.eq (fun a a1 a2 => y3 a (by omega))) hK (u1 := v1) (u2 := v2) (by omega) (by omega) (fun g7 r7 s7 m q7 hO7 hk7 ha7 hS7 hY7 st7 => ?_)
      have hF := ((ha0.F.tr ha1).tr ha2).tr (agF.tr flrF ha7)
      have fin := mix_fin st1 st2 st3 st4 st7
      rw [e06, e07] at fin
      exact ⟨r7, s7, _, hO7, hk7, hS7, (yb2.y y3).tr hY7, hF, fin⟩
  · refine ax_aload_n dX4_readMix_25 rfl ?_
    refine ax_bipush dX4_readMix_26 (by decide) ?_
    refine ax_aload_n dX4_readMix_28 rfl ?_
    refine ax_getf dX4_readMix_29 ck4 fl_X4_93 (by decide) (by omega) hO2 rfl ?_
    refine ax_cvv2 dX4_readMix_32 ln_X4_readMix_89 (Nat.le_of_ble_eq_true rfl) rfl (by omega) hO2 rfl (sp_fail hN hO2 h62) (fun g3 hq => ?_)
    obtain ⟨hO3, y3⟩ := hq
    refine ax_goto (tgt := 57) dX4_readMix_35 (by decide) ?_
    have st3 : ST (chk (decide ((v1 : Int) = (v2 : Int))) (-3) (r2 8)) (r2 6) (r2 7) (flr r2 (-3) (r2 8) 6) (flr r2 (-3) (r2 8) 7) (fun _ => decide ((v1 : Int) = (v2 : Int)) = false) := ST.chk (by decide) (if_pos (decide_eq_true c22)).symm
    have h63 := st3.rg h62
    have st4 : ST (chk (decide (K (25 + (v1 * 7 + v2)) ≠ 0)) (-4) (r2 8)) (flr r2 (-3) (r2 8) 6) (flr r2 (-3) (r2 8) 7) (flr r2 (-3) (r2 8) 6) (flr r2 (-3) (r2 8) 7) (fun _ => decide (K (25 + (v1 * 7 + v2)) ≠ 0) = false) := Or.inl ⟨by rw [flr6]; split <;> omega, rfl, rfl⟩
    refine mix_tail hN hb hT hO3 (hTr2.mv (y3 111 (by decide))) hk2.fl h63 (hS2.eq (fun a a1 a2 => y3 a (by omega))) hK (u1 := v1) (u2 := v2) (by omega) (by omega) (fun g7 r7 s7 m q7 hO7 hk7 ha7 hS7 hY7 st7 => ?_)
    have hF := ((ha0.F.tr ha1).tr ha2).tr (agF.tr flrF ha7)
    have fin := mix_fin st1 st2 st3 st4 st7
    rw [e06, e07] at fin
    exact ⟨r7, s7, _, hO7, hk7, hS7, (yb2.y y3).tr hY7, hF, fin⟩
theorem l_sprt (hN : 112 ≤ NC) (hb : b + 10 ≤ 103) (hT : TX T) (hK : KI K) {x y l : Nat} (hx : x < 15) (hy : y < 12) (hl : l ≤ 15) (kk : ∀ g w7 w8, SA NC g b (spL K true x y l) → Fr h g b → Ex NC none M_X4_readSpar 138 [.ref 110, .ref b, .int (I 1), .int (I (x : Int)), .int (I (y : Int)), .int (I (l : Int)), .int (I (l : Int)), w7, w8] [] g Q) : ∀ (f : Nat) (i : Nat) (g : hp) (w7 w8 : Value), i + f = l → SA NC g b (spL K true x y i) → Fr h g b → Ex NC none M_X4_readSpar 70 [.ref 110, .ref b, .int (I 1), .int (I (x : Int)), .int (I (y : Int)), .int (I (l : Int)), .int (I (i : Int)), w7, w8] [] g Q := by
  have n0 := nC_le hK
  intro f
  induction f with
  | zero =>
    intro i g w7 w8 hi hS hF
    have hKi := hK.spL (d := true) (x := x) (y := y) i
    refine ax_iload dX4_readSpar_70 rfl ?_
    refine ax_iload dX4_readSpar_72 rfl ?_
    refine ax_icmp_ge (tgt := 138) dX4_readSpar_74 (by decide) (by omega) (by omega) (fun c74 => ?_) (fun c74 => ?_)
    · have e : i = l := by omega
      subst e
      exact kk g _ _ hS hF
    · exfalso
      omega
  | succ f ih =>
    intro i g w7 w8 hi hS hF
    have hKi := hK.spL (d := true) (x := x) (y := y) i
    refine ax_iload dX4_readSpar_70 rfl ?_
    refine ax_iload dX4_readSpar_72 rfl ?_
    refine ax_icmp_ge (tgt := 138) dX4_readSpar_74 (by decide) (by omega) (by omega) (fun c74 => ?_) (fun c74 => ?_)
    · exfalso
      omega
    · refine ax_iload_n dX4_readSpar_77 rfl ?_
      refine ax_if_eq (tgt := 85) dX4_readSpar_78 (by decide) (by omega) (fun c78 => ?_) (fun c78 => ?_)
      · exfalso
        omega
      · refine ax_iload_n dX4_readSpar_81 rfl ?_
        refine ax_goto (tgt := 89) dX4_readSpar_82 (by decide) ?_
        refine ax_istore dX4_readSpar_89 rfl (by decide) ?_
        refine ax_iload_n dX4_readSpar_91 rfl ?_
        refine ax_if_eq (tgt := 103) dX4_readSpar_92 (by decide) (by omega) (fun c92 => ?_) (fun c92 => ?_)
        · exfalso
          omega
        · refine ax_iload dX4_readSpar_95 rfl ?_
          refine ax_iload dX4_readSpar_97 rfl ?_
          refine ax_iadd dX4_readSpar_99 ?_
          refine ax_goto (tgt := 105) dX4_readSpar_100 (by decide) ?_
          rw [show (y : Int) + (i : Int) = ((y + i : Nat) : Int) by push_cast; rfl]
          refine ax_istore dX4_readSpar_105 rfl (by decide) ?_
          refine ax_aload_n dX4_readSpar_107 rfl ?_
          refine ax_iload dX4_readSpar_108 rfl ?_
          refine ax_iload dX4_readSpar_110 rfl ?_
          refine ax_cviP2 dX4_readSpar_112 ln_X4_readSpar_178 (Nat.le_of_ble_eq_true rfl) (Or.inr rfl) hS.n0 hS.o rfl (sp_holds hS hKi (by omega) (by omega)) ?_
          rw [onZ_lo2 (fun j hj => spL_lo hj i) _ _ (by omega)]
          refine ax_if_eq (tgt := 132) dX4_readSpar_115 (by decide) (by split <;> omega) (fun c115 => ?_) (fun c115 => ?_)
          · have z : ¬ onZ K ((x : Nat) : Int) ((y + i : Nat) : Int) = true := fun w => by (rw [if_pos w] at c115; omega)
            refine ax_iinc dX4_readSpar_132 rfl rfl (by decide) ?_
            refine ax_goto (tgt := 70) dX4_readSpar_135 (by decide) ?_
            exact ih (i + 1) g _ _ (by omega) (by rw [show spL K true x y (i + 1) = stS K (spL K true x y i) (x) (y + i) from rfl]; unfold stS; rw [if_neg z]; exact hS) hF
          · have z : onZ K ((x : Nat) : Int) ((y + i : Nat) : Int) = true := by (by_cases w : onZ K ((x : Nat) : Int) ((y + i : Nat) : Int) = true; exact w; rw [if_neg w] at c115; exact absurd rfl c115)
            obtain ⟨u2, v2, e1, e2, h1, h2, h3, h4, -⟩ := onZ_nat hK z
            have eu : u2 = x := by omega
            have ev : v2 = y + i := by omega
            rw [eu, ev] at h3
            refine ax_aload_n dX4_readSpar_118 rfl ?_
            refine ax_getf dX4_readSpar_119 ck3 fl_X4_182 (by decide) hS.n0 hS.o rfl ?_
            refine ax_aload_n dX4_readSpar_122 rfl ?_
            refine ax_iload dX4_readSpar_123 rfl ?_
            refine ax_iload dX4_readSpar_125 rfl ?_
            refine ax_cviP2 dX4_readSpar_127 ln_X4_readSpar_185 (Nat.le_of_ble_eq_true rfl) (Or.inl rfl) hS.n0 hS.o rfl (sp_numberOf hS) ?_
            rw [spL_lo (by decide) i, show (((y + i : Nat) : Int) * (K 0 : Int) + ((x : Nat) : Int)) = (((y + i) * K 0 + (x) : Nat) : Int) from rfl]
            refine ax_iconst dX4_readSpar_130 ?_
            refine ax_iasr (j := ((y + i) * K 0 + (x))) dX4_readSpar_131 (hS.n 9 (by omega)) hS.sp (by omega) (by omega) (by decide) (fun e131 he131 => ?_)
            have hS1 := hS.w9 (c := 1) (by omega) he131
            refine ax_iinc dX4_readSpar_132 rfl rfl (by decide) ?_
            refine ax_goto (tgt := 70) dX4_readSpar_135 (by decide) ?_
            exact ih (i + 1) _ _ _ (by omega) (by rw [show spL K true x y (i + 1) = stS K (spL K true x y i) (x) (y + i) from rfl]; unfold stS; rw [if_pos z]; exact hS1) (hF.up (by omega))
theorem l_sprf (hN : 112 ≤ NC) (hb : b + 10 ≤ 103) (hT : TX T) (hK : KI K) {x y l : Nat} (hx : x < 15) (hy : y < 12) (hl : l ≤ 15) (kk : ∀ g w7 w8, SA NC g b (spL K false x y l) → Fr h g b → Ex NC none M_X4_readSpar 138 [.ref 110, .ref b, .int (I 0), .int (I (x : Int)), .int (I (y : Int)), .int (I (l : Int)), .int (I (l : Int)), w7, w8] [] g Q) : ∀ (f : Nat) (i : Nat) (g : hp) (w7 w8 : Value), i + f = l → SA NC g b (spL K false x y i) → Fr h g b → Ex NC none M_X4_readSpar 70 [.ref 110, .ref b, .int (I 0), .int (I (x : Int)), .int (I (y : Int)), .int (I (l : Int)), .int (I (i : Int)), w7, w8] [] g Q := by
  have n0 := nC_le hK
  intro f
  induction f with
  | zero =>
    intro i g w7 w8 hi hS hF
    have hKi := hK.spL (d := false) (x := x) (y := y) i
    refine ax_iload dX4_readSpar_70 rfl ?_
    refine ax_iload dX4_readSpar_72 rfl ?_
    refine ax_icmp_ge (tgt := 138) dX4_readSpar_74 (by decide) (by omega) (by omega) (fun c74 => ?_) (fun c74 => ?_)
    · have e : i = l := by omega
      subst e
      exact kk g _ _ hS hF
    · exfalso
      omega
  | succ f ih =>
    intro i g w7 w8 hi hS hF
    have hKi := hK.spL (d := false) (x := x) (y := y) i
    refine ax_iload dX4_readSpar_70 rfl ?_
    refine ax_iload dX4_readSpar_72 rfl ?_
    refine ax_icmp_ge (tgt := 138) dX4_readSpar_74 (by decide) (by omega) (by omega) (fun c74 => ?_) (fun c74 => ?_)
    · exfalso
      omega
    · refine ax_iload_n dX4_readSpar_77 rfl ?_
      refine ax_if_eq (tgt := 85) dX4_readSpar_78 (by decide) (by omega) (fun c78 => ?_) (fun c78 => ?_)
      · refine ax_iload_n dX4_readSpar_85 rfl ?_
        refine ax_iload dX4_readSpar_86 rfl ?_
        refine ax_iadd dX4_readSpar_88 ?_
        rw [show (x : Int) + (i : Int) = ((x + i : Nat) : Int) by push_cast; rfl]
        refine ax_istore dX4_readSpar_89 rfl (by decide) ?_
        refine ax_iload_n dX4_readSpar_91 rfl ?_
        refine ax_if_eq (tgt := 103) dX4_readSpar_92 (by decide) (by omega) (fun c92 => ?_) (fun c92 => ?_)
        · refine ax_iload dX4_readSpar_103 rfl ?_
          refine ax_istore dX4_readSpar_105 rfl (by decide) ?_
          refine ax_aload_n dX4_readSpar_107 rfl ?_
          refine ax_iload dX4_readSpar_108 rfl ?_
          refine ax_iload dX4_readSpar_110 rfl ?_
          refine ax_cviP2 dX4_readSpar_112 ln_X4_readSpar_178 (Nat.le_of_ble_eq_true rfl) (Or.inr rfl) hS.n0 hS.o rfl (sp_holds hS hKi (by omega) (by omega)) ?_
          rw [onZ_lo2 (fun j hj => spL_lo hj i) _ _ (by omega)]
          refine ax_if_eq (tgt := 132) dX4_readSpar_115 (by decide) (by split <;> omega) (fun c115 => ?_) (fun c115 => ?_)
          · have z : ¬ onZ K ((x + i : Nat) : Int) ((y : Nat) : Int) = true := fun w => by (rw [if_pos w] at c115; omega)
            refine ax_iinc dX4_readSpar_132 rfl rfl (by decide) ?_
            refine ax_goto (tgt := 70) dX4_readSpar_135 (by decide) ?_
            exact ih (i + 1) g _ _ (by omega) (by rw [show spL K false x y (i + 1) = stS K (spL K false x y i) (x + i) (y) from rfl]; unfold stS; rw [if_neg z]; exact hS) hF
          · have z : onZ K ((x + i : Nat) : Int) ((y : Nat) : Int) = true := by (by_cases w : onZ K ((x + i : Nat) : Int) ((y : Nat) : Int) = true; exact w; rw [if_neg w] at c115; exact absurd rfl c115)
            obtain ⟨u2, v2, e1, e2, h1, h2, h3, h4, -⟩ := onZ_nat hK z
            have eu : u2 = x + i := by omega
            have ev : v2 = y := by omega
            rw [eu, ev] at h3
            refine ax_aload_n dX4_readSpar_118 rfl ?_
            refine ax_getf dX4_readSpar_119 ck3 fl_X4_182 (by decide) hS.n0 hS.o rfl ?_
            refine ax_aload_n dX4_readSpar_122 rfl ?_
            refine ax_iload dX4_readSpar_123 rfl ?_
            refine ax_iload dX4_readSpar_125 rfl ?_
            refine ax_cviP2 dX4_readSpar_127 ln_X4_readSpar_185 (Nat.le_of_ble_eq_true rfl) (Or.inl rfl) hS.n0 hS.o rfl (sp_numberOf hS) ?_
            rw [spL_lo (by decide) i, show (((y : Nat) : Int) * (K 0 : Int) + ((x + i : Nat) : Int)) = (((y) * K 0 + (x + i) : Nat) : Int) from rfl]
            refine ax_iconst dX4_readSpar_130 ?_
            refine ax_iasr (j := ((y) * K 0 + (x + i))) dX4_readSpar_131 (hS.n 9 (by omega)) hS.sp (by omega) (by omega) (by decide) (fun e131 he131 => ?_)
            have hS1 := hS.w9 (c := 1) (by omega) he131
            refine ax_iinc dX4_readSpar_132 rfl rfl (by decide) ?_
            refine ax_goto (tgt := 70) dX4_readSpar_135 (by decide) ?_
            exact ih (i + 1) _ _ _ (by omega) (by rw [show spL K false x y (i + 1) = stS K (spL K false x y i) (x + i) (y) from rfl]; unfold stS; rw [if_pos z]; exact hS1) (hF.up (by omega))
        · exfalso
          omega
      · exfalso
        omega
theorem sp_readSpar (hN : 112 ≤ NC) (hb : b + 10 ≤ 103) (hT : TX T) (hO : RO h r) (hTr : TR h T) (hk : TK T n r s) (h6 : -1000 ≤ r 6 ∧ r 6 ≤ 1000) (hS : SA NC h b K) (hK : KI K) : Cl NC M_X4_readSpar [.ref 110, .ref b] h (fun _ h1 => ∃ r1 s1 K1, RO h1 r1 ∧ TK T n r1 s1 ∧ SA NC h1 b K1 ∧ YB b h h1 ∧ (r1 1 = r 1 ∧ r1 9 = r 9 ∧ r1 10 = r 10 ∧ r1 11 = r 11 ∧ r1 12 = 1) ∧ ST (sprP T n (sN T n s) K) (r 6) (r 7) (r1 6) (r1 7) (fun v => s1 = v.1 ∧ K1 = v.2)) := by
  have k0 := hK.1
  refine ax_aload_n dX4_readSpar_0 rfl ?_
  refine ax_iconst dX4_readSpar_1 ?_
  refine ax_putf dX4_readSpar_2 ck4 fl_X4_47 (by decide) (by omega) hO rfl (Or.inr ⟨rfl, Or.inr rfl⟩) (Nat.le_of_ble_eq_true rfl) rfl ?_
  generalize hgga : va_up h 110 _ = ga
  obtain ⟨ra, hOa, era⟩ : ∃ rr, RO ga rr ∧ rr = upZ r 12 1 := ⟨_, by rw [← hgga]; exact hO.s12, rfl⟩
  have ya : Y1 h ga := fun a ha => by rw [← hgga]; exact (vu_ne ha)
  have hka : TK T n ra s := by rw [era]; exact hk
  have hTra : TR ga T := hTr.mv (ya 111 (by decide))
  refine ax_aload_n dX4_readSpar_5 rfl ?_
  refine ax_cvv0 dX4_readSpar_6 ln_X4_readSpar_50 (Nat.le_of_ble_eq_true rfl) rfl (by omega) hOa rfl (sp_next hN hOa hT hTra hka) (fun g0 hq => ?_)
  obtain ⟨r0, hO0, ha0, hk0, y0⟩ := hq
  have e06 : r0 6 = r 6 := (ha0 6 (by decide) (by decide) (by decide)).trans (by rw [era]; rfl)
  have e07 : r0 7 = r 7 := (ha0 7 (by decide) (by decide) (by decide)).trans (by rw [era]; rfl)
  have h60 : -1000 ≤ r0 6 ∧ r0 6 ≤ 1000 := by omega
  have hTr0 : TR g0 T := hTra.mv (y0 111 (by decide))
  have hS0 : SA NC g0 b K := hS.eq (fun a a1 a2 => (y0 a (by omega)).trans (ya a (by omega)))
  have y0b : YB b h g0 := (YB.rf.y ya).y y0
  have hf0 : r0 1 = r 1 ∧ r0 9 = r 9 ∧ r0 10 = r 10 ∧ r0 11 = r 11 ∧ r0 12 = 1 := by have z := ha0.F; rw [era] at z; exact z
  refine ax_aload_n dX4_readSpar_9 rfl ?_
  refine ex_ldcS (j := 7) (tx := "down") (by decide) dX4_readSpar_10 ?_
  refine ax_cviP1 dX4_readSpar_12 ln_X4_readSpar_85 (Nat.le_of_ble_eq_true rfl) (Or.inr rfl) (by omega) hO0 rfl (sp_isWord hN hO0 hT hTr0 hk0 (j := 7) (by decide)) ?_
  by_cases z : wd T n 7 (sN T n s) = true
  · rw [if_pos z]
    refine ax_istore_n dX4_readSpar_15 rfl (by decide) ?_
    refine ax_iload_n dX4_readSpar_16 rfl ?_
    refine ax_if_eq (tgt := 27) dX4_readSpar_17 (by decide) (by omega) (fun c17 => ?_) (fun c17 => ?_)
    · exfalso
      omega
    · refine ax_aload_n dX4_readSpar_20 rfl ?_
      refine ax_cvv0 dX4_readSpar_21 ln_X4_readSpar_50 (Nat.le_of_ble_eq_true rfl) rfl (by omega) hO0 rfl (sp_next hN hO0 hT hTr0 hk0) (fun g1 hq => ?_)
      obtain ⟨r1, hO1, hac, hk1, y1⟩ := hq
      have ha1 := hac.F
      have e16 : r1 6 = r0 6 := hac 6 (by decide) (by decide) (by decide)
      have e17 : r1 7 = r0 7 := hac 7 (by decide) (by decide) (by decide)
      have st1 : ST (.inr (sN T n (sN T n s))) (r0 6) (r0 7) (r1 6) (r1 7) (fun y => sN T n (sN T n s) = y) := by rw [e16, e17]; exact ST.ok rfl
      obtain ⟨s1, hs1⟩ : ∃ s1, s1 = sN T n (sN T n s) := ⟨_, rfl⟩
      rw [← hs1] at hk1
      have hS1 : SA NC g1 b K := hS0.eq (fun a a1 a2 => y1 a (by omega))
      have hTr1 : TR g1 T := hTr0.mv (y1 111 (by decide))
      have h61 : -1000 ≤ r1 6 ∧ r1 6 ≤ 1000 := by omega
      rw [← hs1] at st1
      have hzt : wd T n 7 (sN T n s) = true := z
      refine ax_goto (tgt := 33) dX4_readSpar_24 (by decide) ?_
      refine ax_aload_n dX4_readSpar_33 rfl ?_
      refine ax_iconst dX4_readSpar_34 ?_
      refine ax_aload_n dX4_readSpar_35 rfl ?_
      refine ax_getf dX4_readSpar_36 ck3 fl_X4_175 (by decide) hS1.n0 hS1.o rfl ?_
      refine ax_iconst dX4_readSpar_39 ?_
      refine ax_isub dX4_readSpar_40 ?_
      refine ax_cvi2 dX4_readSpar_41 ln_X4_readSpar_109 (Nat.le_of_ble_eq_true rfl) (Or.inl rfl) (by omega) hO1 rfl (sp_readNumber hN hO1 hT hTr1 hk1 h61 (by omega)) (fun ret g2 hq => ?_)
      obtain ⟨z2, r2, s2, hv, hz2, hO2, hk2, ha2, y2, st2⟩ := hq
      cases hv
      obtain ⟨v2, rfl⟩ : ∃ m : Nat, z2 = (m : Int) := ⟨z2.toNat, by omega⟩
      have hS2 : SA NC g2 b K := hS1.eq (fun a a1 a2 => y2 a (by omega))
      have hTr2 : TR g2 T := hTr1.mv (y2 111 (by decide))
      have h62 := st2.rg h61
      refine ax_istore_n dX4_readSpar_44 rfl (by decide) ?_
      refine ax_aload_n dX4_readSpar_45 rfl ?_
      refine ax_iconst dX4_readSpar_46 ?_
      refine ax_aload_n dX4_readSpar_47 rfl ?_
      refine ax_getf dX4_readSpar_48 ck3 fl_X4_155 (by decide) hS2.n0 hS2.o rfl ?_
      refine ax_iconst dX4_readSpar_51 ?_
      refine ax_isub dX4_readSpar_52 ?_
      refine ax_cvi2 dX4_readSpar_53 ln_X4_readSpar_109 (Nat.le_of_ble_eq_true rfl) (Or.inl rfl) (by omega) hO2 rfl (sp_readNumber hN hO2 hT hTr2 hk2 h62 (by omega)) (fun ret g3 hq => ?_)
      obtain ⟨z3, r3, s3, hv, hz3, hO3, hk3, ha3, y3, st3⟩ := hq
      cases hv
      obtain ⟨v3, rfl⟩ : ∃ m : Nat, z3 = (m : Int) := ⟨z3.toNat, by omega⟩
      have hS3 : SA NC g3 b K := hS2.eq (fun a a1 a2 => y3 a (by omega))
      have hTr3 : TR g3 T := hTr2.mv (y3 111 (by decide))
      have h63 := st3.rg h62
      refine ax_istore dX4_readSpar_56 rfl (by decide) ?_
      refine ax_aload_n dX4_readSpar_58 rfl ?_
      refine ax_iconst dX4_readSpar_59 ?_
      refine ax_bipush dX4_readSpar_60 (by decide) ?_
      refine ax_cvi2 dX4_readSpar_62 ln_X4_readSpar_109 (Nat.le_of_ble_eq_true rfl) (Or.inl rfl) (by omega) hO3 rfl (sp_readNumber hN hO3 hT hTr3 hk3 h63 (by omega)) (fun ret g4 hq => ?_)
      obtain ⟨z4, r4, s4, hv, hz4, hO4, hk4, ha4, y4, st4⟩ := hq
      cases hv
      obtain ⟨v4, rfl⟩ : ∃ m : Nat, z4 = (m : Int) := ⟨z4.toNat, by omega⟩
      have hS4 : SA NC g4 b K := hS3.eq (fun a a1 a2 => y4 a (by omega))
      have hTr4 : TR g4 T := hTr3.mv (y4 111 (by decide))
      have h64 := st4.rg h63
      refine ax_istore dX4_readSpar_65 rfl (by decide) ?_
      refine ax_iconst dX4_readSpar_67 ?_
      refine ax_istore dX4_readSpar_68 rfl (by decide) ?_
      refine l_sprt (h := g4) hN hb hT hK (x := v2) (y := v3) (l := v4) (by omega) (by omega) (by omega) (fun g7 w7 w8 hS7 hF7 => ?_) v4 0 g4 _ _ (by omega) hS4 Fr.rf
      refine ax_vret dX4_readSpar_138 rfl ⟨r4, s4, _, (hF7 110 (by omega)).trans hO4, hk4, hS7, ((((y0b.y y1).y y2).y y3).y y4).f hF7, ?_, ?_⟩
      · have hF := ((ha1.tr ha2).tr ha3).tr ha4
        refine ⟨?_, ?_, ?_, ?_, ?_⟩
        · rw [hF.1, hf0.1]
        · rw [hF.2.1, hf0.2.1]
        · rw [hF.2.2.1, hf0.2.2.1]
        · rw [hF.2.2.2.1, hf0.2.2.2.1]
        · rw [hF.2.2.2.2, hf0.2.2.2.2]
      · have fin := spr_fin (K := K) (D := spL K true) st1 st2 st3 st4
        rw [e06, e07] at fin
        unfold sprP
        rw [hzt, if_pos rfl, ← hs1]
        exact fin
  · rw [if_neg z]
    refine ax_istore_n dX4_readSpar_15 rfl (by decide) ?_
    refine ax_iload_n dX4_readSpar_16 rfl ?_
    refine ax_if_eq (tgt := 27) dX4_readSpar_17 (by decide) (by omega) (fun c17 => ?_) (fun c17 => ?_)
    · refine ax_aload_n dX4_readSpar_27 rfl ?_
      refine ex_ldcS (j := 8) (tx := "across") (by decide) dX4_readSpar_28 ?_
      refine ax_cvv1 dX4_readSpar_30 ln_X4_readSpar_105 (Nat.le_of_ble_eq_true rfl) rfl (by omega) hO0 rfl (sp_readWord hN hO0 hT hTr0 hk0 h60 (j := 8) (by decide)) (fun g1 hq => ?_)
      obtain ⟨r1, s1, hO1, hk1, ha1, y1, st1⟩ := hq
      have hS1 : SA NC g1 b K := hS0.eq (fun a a1 a2 => y1 a (by omega))
      have hTr1 : TR g1 T := hTr0.mv (y1 111 (by decide))
      have h61 := st1.rg h60
      have hzf : wd T n 7 (sN T n s) = false := by (cases e : wd T n 7 (sN T n s) with | true => exact absurd e z | false => rfl)
      refine ax_aload_n dX4_readSpar_33 rfl ?_
      refine ax_iconst dX4_readSpar_34 ?_
      refine ax_aload_n dX4_readSpar_35 rfl ?_
      refine ax_getf dX4_readSpar_36 ck3 fl_X4_175 (by decide) hS1.n0 hS1.o rfl ?_
      refine ax_iconst dX4_readSpar_39 ?_
      refine ax_isub dX4_readSpar_40 ?_
      refine ax_cvi2 dX4_readSpar_41 ln_X4_readSpar_109 (Nat.le_of_ble_eq_true rfl) (Or.inl rfl) (by omega) hO1 rfl (sp_readNumber hN hO1 hT hTr1 hk1 h61 (by omega)) (fun ret g2 hq => ?_)
      obtain ⟨z2, r2, s2, hv, hz2, hO2, hk2, ha2, y2, st2⟩ := hq
      cases hv
      obtain ⟨v2, rfl⟩ : ∃ m : Nat, z2 = (m : Int) := ⟨z2.toNat, by omega⟩
      have hS2 : SA NC g2 b K := hS1.eq (fun a a1 a2 => y2 a (by omega))
      have hTr2 : TR g2 T := hTr1.mv (y2 111 (by decide))
      have h62 := st2.rg h61
      refine ax_istore_n dX4_readSpar_44 rfl (by decide) ?_
      refine ax_aload_n dX4_readSpar_45 rfl ?_
      refine ax_iconst dX4_readSpar_46 ?_
      refine ax_aload_n dX4_readSpar_47 rfl ?_
      refine ax_getf dX4_readSpar_48 ck3 fl_X4_155 (by decide) hS2.n0 hS2.o rfl ?_
      refine ax_iconst dX4_readSpar_51 ?_
      refine ax_isub dX4_readSpar_52 ?_
      refine ax_cvi2 dX4_readSpar_53 ln_X4_readSpar_109 (Nat.le_of_ble_eq_true rfl) (Or.inl rfl) (by omega) hO2 rfl (sp_readNumber hN hO2 hT hTr2 hk2 h62 (by omega)) (fun ret g3 hq => ?_)
      obtain ⟨z3, r3, s3, hv, hz3, hO3, hk3, ha3, y3, st3⟩ := hq
      cases hv
      obtain ⟨v3, rfl⟩ : ∃ m : Nat, z3 = (m : Int) := ⟨z3.toNat, by omega⟩
      have hS3 : SA NC g3 b K := hS2.eq (fun a a1 a2 => y3 a (by omega))
      have hTr3 : TR g3 T := hTr2.mv (y3 111 (by decide))
      have h63 := st3.rg h62
      refine ax_istore dX4_readSpar_56 rfl (by decide) ?_
      refine ax_aload_n dX4_readSpar_58 rfl ?_
      refine ax_iconst dX4_readSpar_59 ?_
      refine ax_bipush dX4_readSpar_60 (by decide) ?_
      refine ax_cvi2 dX4_readSpar_62 ln_X4_readSpar_109 (Nat.le_of_ble_eq_true rfl) (Or.inl rfl) (by omega) hO3 rfl (sp_readNumber hN hO3 hT hTr3 hk3 h63 (by omega)) (fun ret g4 hq => ?_)
      obtain ⟨z4, r4, s4, hv, hz4, hO4, hk4, ha4, y4, st4⟩ := hq
      cases hv
      obtain ⟨v4, rfl⟩ : ∃ m : Nat, z4 = (m : Int) := ⟨z4.toNat, by omega⟩
      have hS4 : SA NC g4 b K := hS3.eq (fun a a1 a2 => y4 a (by omega))
      have hTr4 : TR g4 T := hTr3.mv (y4 111 (by decide))
      have h64 := st4.rg h63
      refine ax_istore dX4_readSpar_65 rfl (by decide) ?_
      refine ax_iconst dX4_readSpar_67 ?_
      refine ax_istore dX4_readSpar_68 rfl (by decide) ?_
      refine l_sprf (h := g4) hN hb hT hK (x := v2) (y := v3) (l := v4) (by omega) (by omega) (by omega) (fun g7 w7 w8 hS7 hF7 => ?_) v4 0 g4 _ _ (by omega) hS4 Fr.rf
      refine ax_vret dX4_readSpar_138 rfl ⟨r4, s4, _, (hF7 110 (by omega)).trans hO4, hk4, hS7, ((((y0b.y y1).y y2).y y3).y y4).f hF7, ?_, ?_⟩
      · have hF := ((ha1.tr ha2).tr ha3).tr ha4
        refine ⟨?_, ?_, ?_, ?_, ?_⟩
        · rw [hF.1, hf0.1]
        · rw [hF.2.1, hf0.2.1]
        · rw [hF.2.2.1, hf0.2.2.1]
        · rw [hF.2.2.2.1, hf0.2.2.2.1]
        · rw [hF.2.2.2.2, hf0.2.2.2.2]
      · have fin := spr_fin (K := K) (D := spL K false) st1 st2 st3 st4
        rw [e06, e07] at fin
        unfold sprP
        rw [hzf, if_neg (by decide)]
        exact fin
    · exfalso
      omega
end RD
