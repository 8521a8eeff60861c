/-! the class's reader: the whole text -/
theorem kd_0 {T : Nat → Int} {n s : Nat} : kd T n s = 0 ↔ n ≤ s := by
  unfold kd
  by_cases q : n ≤ s
  · rw [if_pos q]; exact ⟨fun _ => q, fun _ => rfl⟩
  · rw [if_neg q]
    refine ⟨fun z => ?_, fun z => absurd z q⟩
    exfalso; revert z
    split
    · decide
    · split
      · decide
      · split <;> decide
section RD
variable {NC b : Nat} {h : hp} {r T : Nat → Int} {n s : Nat} {K : Nat → Nat} {Q : qt}
theorem l_set (hN : 112 ≤ NC) (hb : b + 10 ≤ 103) (hT : TX T) {h0 : hp} {bz : Int} (hTr0 : TR h0 T) (hn0 : n ≤ 600) : ∀ (f : Nat) (j : Nat) (g : hp) (r : Nat → Int) (s : Nat) (K : Nat → Nat), j + f = n → RO g r → TK T n r s → (-1000 ≤ r 6 ∧ r 6 ≤ 1000) → SA NC g b K → YB b h0 g → (r 6 = 0 → KD K (r 12) ∧ FLG r ∧ j ≤ s) → (∀ (g1 : hp) (r1 : Nat → Int) (s1 : Nat) (K1 : Nat → Nat), RO g1 r1 → SA NC g1 b K1 → YB b h0 g1 → r1 1 = r 1 → ST (lpP T n f s K (r 9) (r 10) (r 11) (r 12)) (r 6) (r 7) (r1 6) (r1 7) (fun v => K1 = v) → ∀ w, Ex NC none M_X4_readSetup 95 [.ref 110, .int (I bz), .ref b, w] [] g1 Q) → Ex NC none M_X4_readSetup 58 [.ref 110, .int (I bz), .ref b, .int (I (j : Int))] [] g Q := by
  intro f
  induction f with
  | zero =>
    intro j g r s K hj hO hk h6 hS hY hg kk
    have hTr : TR g T := hTr0.mv (hY 111 (by decide) (by omega))
    refine ax_iload_n dX4_readSetup_58 rfl ?_
    refine ax_aload_n dX4_readSetup_59 rfl ?_
    refine ax_getf dX4_readSetup_60 ck4 fl_X4_25 (by decide) (by omega) hO rfl ?_
    rw [hk.2.2.1]
    refine ax_icmp_ge (tgt := 95) dX4_readSetup_63 (by decide) (by omega) (by omega) (fun c63 => ?_) (fun c63 => ?_)
    · exact (kk g r s K hO hS hY rfl (by by_cases q : r 6 = 0; exact ST.ok rfl; exact Or.inl ⟨q, rfl, rfl⟩)) _
    · exfalso
      omega
  | succ f ih =>
    intro j g r s K hj hO hk h6 hS hY hg kk
    have hTr : TR g T := hTr0.mv (hY 111 (by decide) (by omega))
    refine ax_iload_n dX4_readSetup_58 rfl ?_
    refine ax_aload_n dX4_readSetup_59 rfl ?_
    refine ax_getf dX4_readSetup_60 ck4 fl_X4_25 (by decide) (by omega) hO rfl ?_
    rw [hk.2.2.1]
    refine ax_icmp_ge (tgt := 95) dX4_readSetup_63 (by decide) (by omega) (by omega) (fun c63 => ?_) (fun c63 => ?_)
    · exfalso
      omega
    · refine ax_aload_n dX4_readSetup_66 rfl ?_
      refine ax_getf dX4_readSetup_67 ck4 fl_X4_31 (by decide) (by omega) hO rfl ?_
      refine ax_if_ne (tgt := 95) dX4_readSetup_70 (by decide) (by omega) (fun c70 => ?_) (fun c70 => ?_)
      · exact (kk g r s K hO hS hY rfl (Or.inl ⟨c70, rfl, rfl⟩)) _
      · obtain ⟨hKD, hfl, hjs⟩ := hg c70
        refine ax_aload_n dX4_readSetup_73 rfl ?_
        refine ax_getf dX4_readSetup_74 ck4 fl_X4_57 (by decide) (by omega) hO rfl ?_
        rw [hk.2.2.2.2.1]
        have kr := kd_rg (T := T) (n := n) (s := s)
        refine ax_if_eq (tgt := 95) dX4_readSetup_77 (by decide) (by omega) (fun c77 => ?_) (fun c77 => ?_)
        · exact (kk g r s K hO hS hY rfl (by show ST (if n ≤ s then _ else _) _ _ _ _ _; rw [if_pos (kd_0.mp c77)]; exact ST.ok rfl)) _
        · refine ax_aload_n dX4_readSetup_80 rfl ?_
          refine ax_aload_n dX4_readSetup_81 rfl ?_
          refine ax_cvv1 dX4_readSetup_82 ln_X4_readSetup_60 (Nat.le_of_ble_eq_true rfl) rfl (by omega) hO rfl (sp_readStatement hN hb hT hO hTr hk h6 hS hKD.1 hfl) (fun g1 hq => ?_)
          obtain ⟨r1, s1, K1, hO1, hk1, hS1, hY1, hf1, st1⟩ := hq
          have hTr1 : TR g1 T := hTr.mv (hY1 111 (by decide) (by omega))
          refine ax_aload_n dX4_readSetup_85 rfl ?_
          refine ax_cvv0 dX4_readSetup_86 ln_X4_readSetup_63 (Nat.le_of_ble_eq_true rfl) rfl (by omega) hO1 rfl (sp_readSemicolon hN hO1 hT hTr1 hk1 (st1.rg h6)) (fun g2 hq => ?_)
          obtain ⟨r2, s2, hO2, hk2, ha2, y2, st2⟩ := hq
          have hS2 : SA NC g2 b K1 := hS1.eq (fun a a1 a2 => y2 a (by omega))
          refine ax_iinc dX4_readSetup_89 rfl rfl (by decide) ?_
          refine ax_goto (tgt := 58) dX4_readSetup_92 (by decide) ?_
          have hin : r2 6 = 0 → (KD K1 (r2 12) ∧ FLG r2 ∧ j + 1 ≤ s2) := fun e => by
            have e1 : r1 6 = 0 := by (by_cases q : r1 6 = 0; exact q; exact absurd ((st2.keep q).1.symm.trans e) q)
            obtain ⟨v, x1, -, w1, w2, w3, w4, w5, w6⟩ := st1.inr c70 e1
            obtain ⟨t, x2, -, w7⟩ := st2.inr e1 e
            have i1 := stm_in hKD hfl x1
            have i2 := sem_in x2
            rw [← w1, ← w2, ← w3, ← w4, ← w5, ← w6] at i1
            refine ⟨by rw [ha2.2.2.2.2]; exact i1.2.1, ?_, by omega⟩
            unfold FLG; rw [ha2.2.1, ha2.2.2.1, ha2.2.2.2.1, ha2.2.2.2.2]; exact i1.2.2
          refine ih (j + 1) g2 r2 s2 K1 (by omega) hO2 hk2 (st2.rg (st1.rg h6)) hS2 ((hY.tr hY1).y y2) hin (fun g3 r3 s3 K3 hO3 hS3 hY3 hf3 st3 => kk g3 r3 s3 K3 hO3 hS3 hY3 ((hf3.trans ha2.1).trans hf1) ?_)
          show ST (if n ≤ s then _ else _) _ _ _ _ _
          rw [if_neg (fun q => c77 (kd_0.mpr q))]
          refine ST.bnd st1 (fun e => by have k2 := st2.keep e; have k3 := st3.keep (by omega); omega) (fun y _ hy => ?_)
          obtain ⟨w1, w2, w3, w4, w5, w6⟩ := hy
          rw [← w1, ← w2, ← w3, ← w4, ← w5, ← w6]
          refine ST.bnd st2 (fun e => st3.keep e) (fun t _ ht => ?_)
          rw [← ht, ← ha2.2.1, ← ha2.2.2.1, ← ha2.2.2.2.1, ← ha2.2.2.2.2]
          exact st3
theorem sp_readSetup (hN : 112 ≤ NC) (hb : b + 10 ≤ 103) (hT : TX T) (hO : RO h r) (hTr : TR h T) (hS : SA NC h b K) (hn : n ≤ 600) (h1 : (n : Int) ≤ r 1 ∧ r 1 ≤ 600) : Cl NC M_X4_readSetup [.ref 110, .int (I (n : Int)), .ref b] h (fun v h1 => ∃ r1 K1, v = .int (I (r1 6)) ∧ RO h1 r1 ∧ SA NC h1 b K1 ∧ YB b h h1 ∧ r1 1 = r 1 ∧ ST (setP T n) 0 (-1) (r1 6) (r1 7) (fun v => K1 = v)) := by
  refine ax_aload_n dX4_readSetup_0 rfl ?_
  refine ax_iload_n dX4_readSetup_1 rfl ?_
  refine ax_aload_n dX4_readSetup_2 rfl ?_
  refine ax_getf dX4_readSetup_3 ck4 fl_X4_15 (by decide) (by omega) hO rfl ?_
  refine ex_l_min (by exact dX4_readSetup_6) (by decide) (show 2 ≤ _ ∧ 50 ≤ _ from ⟨by decide, by decide⟩) (Nat.le_of_ble_eq_true rfl) ?_
  rw [min_I (by omega) (by omega), show min (n : Int) (r 1) = (n : Int) by omega]
  refine ax_putf dX4_readSetup_9 ck4 fl_X4_25 (by decide) (by omega) hO rfl (Or.inl rfl) (Nat.le_of_ble_eq_true rfl) rfl ?_
  generalize hgg1 : va_up h 110 _ = g1
  obtain ⟨r1, hO1, er1⟩ : ∃ rr, RO g1 rr ∧ rr = upZ r 2 (n : Int) := ⟨_, by rw [← hgg1]; exact hO.s2, rfl⟩
  have y1 : Y1 h g1 := fun a ha => by rw [← hgg1]; exact (vu_ne ha)
  refine ax_aload_n dX4_readSetup_12 rfl ?_
  refine ax_iconst dX4_readSetup_13 ?_
  refine ax_putf dX4_readSetup_14 ck4 fl_X4_28 (by decide) (by omega) hO1 rfl (Or.inl rfl) (Nat.le_of_ble_eq_true rfl) rfl ?_
  generalize hgg2 : va_up g1 110 _ = g2
  obtain ⟨r2, hO2, er2⟩ : ∃ rr, RO g2 rr ∧ rr = upZ r1 5 0 := ⟨_, by rw [← hgg2]; exact hO1.s5, rfl⟩
  have y2 : Y1 h g2 := fun a ha => by rw [← hgg2]; exact (vu_ne ha).trans (y1 a ha)
  refine ax_aload_n dX4_readSetup_17 rfl ?_
  refine ax_iconst dX4_readSetup_18 ?_
  refine ax_putf dX4_readSetup_19 ck4 fl_X4_31 (by decide) (by omega) hO2 rfl (Or.inl rfl) (Nat.le_of_ble_eq_true rfl) rfl ?_
  generalize hgg3 : va_up g2 110 _ = g3
  obtain ⟨r3, hO3, er3⟩ : ∃ rr, RO g3 rr ∧ rr = upZ r2 6 0 := ⟨_, by rw [← hgg3]; exact hO2.s6, rfl⟩
  have y3 : Y1 h g3 := fun a ha => by rw [← hgg3]; exact (vu_ne ha).trans (y2 a ha)
  refine ax_aload_n dX4_readSetup_22 rfl ?_
  refine ax_iconst dX4_readSetup_23 ?_
  refine ax_putf dX4_readSetup_24 ck4 fl_X4_34 (by decide) (by omega) hO3 rfl (Or.inl rfl) (Nat.le_of_ble_eq_true rfl) rfl ?_
  generalize hgg4 : va_up g3 110 _ = g4
  obtain ⟨r4, hO4, er4⟩ : ∃ rr, RO g4 rr ∧ rr = upZ r3 7 (-1) := ⟨_, by rw [← hgg4]; exact hO3.s7, rfl⟩
  have y4 : Y1 h g4 := fun a ha => by rw [← hgg4]; exact (vu_ne ha).trans (y3 a ha)
  refine ax_aload_n dX4_readSetup_27 rfl ?_
  refine ax_iconst dX4_readSetup_28 ?_
  refine ax_putf dX4_readSetup_29 ck4 fl_X4_37 (by decide) (by omega) hO4 rfl (Or.inr ⟨rfl, Or.inl rfl⟩) (Nat.le_of_ble_eq_true rfl) rfl ?_
  generalize hgg5 : va_up g4 110 _ = g5
  obtain ⟨r5, hO5, er5⟩ : ∃ rr, RO g5 rr ∧ rr = upZ r4 9 0 := ⟨_, by rw [← hgg5]; exact hO4.s9, rfl⟩
  have y5 : Y1 h g5 := fun a ha => by rw [← hgg5]; exact (vu_ne ha).trans (y4 a ha)
  refine ax_aload_n dX4_readSetup_32 rfl ?_
  refine ax_iconst dX4_readSetup_33 ?_
  refine ax_putf dX4_readSetup_34 ck4 fl_X4_41 (by decide) (by omega) hO5 rfl (Or.inr ⟨rfl, Or.inl rfl⟩) (Nat.le_of_ble_eq_true rfl) rfl ?_
  generalize hgg6 : va_up g5 110 _ = g6
  obtain ⟨r6, hO6, er6⟩ : ∃ rr, RO g6 rr ∧ rr = upZ r5 10 0 := ⟨_, by rw [← hgg6]; exact hO5.s10, rfl⟩
  have y6 : Y1 h g6 := fun a ha => by rw [← hgg6]; exact (vu_ne ha).trans (y5 a ha)
  refine ax_aload_n dX4_readSetup_37 rfl ?_
  refine ax_iconst dX4_readSetup_38 ?_
  refine ax_putf dX4_readSetup_39 ck4 fl_X4_44 (by decide) (by omega) hO6 rfl (Or.inr ⟨rfl, Or.inl rfl⟩) (Nat.le_of_ble_eq_true rfl) rfl ?_
  generalize hgg7 : va_up g6 110 _ = g7
  obtain ⟨r7, hO7, er7⟩ : ∃ rr, RO g7 rr ∧ rr = upZ r6 11 0 := ⟨_, by rw [← hgg7]; exact hO6.s11, rfl⟩
  have y7 : Y1 h g7 := fun a ha => by rw [← hgg7]; exact (vu_ne ha).trans (y6 a ha)
  refine ax_aload_n dX4_readSetup_42 rfl ?_
  refine ax_iconst dX4_readSetup_43 ?_
  refine ax_putf dX4_readSetup_44 ck4 fl_X4_47 (by decide) (by omega) hO7 rfl (Or.inr ⟨rfl, Or.inl rfl⟩) (Nat.le_of_ble_eq_true rfl) rfl ?_
  generalize hgg8 : va_up g7 110 _ = g8
  obtain ⟨r8, hO8, er8⟩ : ∃ rr, RO g8 rr ∧ rr = upZ r7 12 0 := ⟨_, by rw [← hgg8]; exact hO7.s12, rfl⟩
  have y8 : Y1 h g8 := fun a ha => by rw [← hgg8]; exact (vu_ne ha).trans (y7 a ha)
  have v2 : r8 2 = (n : Int) := by rw [er8, er7, er6, er5, er4, er3, er2, er1]; rfl
  have v5 : r8 5 = ((0 : Nat) : Int) := by rw [er8, er7, er6, er5, er4, er3, er2, er1]; rfl
  have v6 : r8 6 = 0 := by rw [er8, er7, er6, er5, er4, er3, er2, er1]; rfl
  have v7 : r8 7 = -1 := by rw [er8, er7, er6, er5, er4, er3, er2, er1]; rfl
  have v9 : r8 9 = 0 := by rw [er8, er7, er6, er5, er4, er3, er2, er1]; rfl
  have v10 : r8 10 = 0 := by rw [er8, er7, er6, er5, er4, er3, er2, er1]; rfl
  have v11 : r8 11 = 0 := by rw [er8, er7, er6, er5, er4, er3, er2, er1]; rfl
  have v12 : r8 12 = 0 := by rw [er8, er7, er6, er5, er4, er3, er2, er1]; rfl
  have v1 : r8 1 = r 1 := by rw [er8, er7, er6, er5, er4, er3, er2, er1]; rfl
  have hTr8 : TR g8 T := hTr.mv (y8 111 (by decide))
  have hS8 : SA NC g8 b K := hS.eq (fun a a1 a2 => y8 a (by omega))
  refine ax_aload_n dX4_readSetup_47 rfl ?_
  refine ax_cvv0 dX4_readSetup_48 ln_X4_readSetup_50 (Nat.le_of_ble_eq_true rfl) rfl (by omega) hO8 rfl (sp_goOn hN hO8 hT hTr8 hn (p := 0) (Nat.zero_le _) v2 v5) (fun g9 hq => ?_)
  obtain ⟨r9, hO9, ha9, hk9, y9⟩ := hq
  have hTr9 : TR g9 T := hTr8.mv (y9 111 (by decide))
  have hS9 : SA NC g9 b K := hS8.eq (fun a a1 a2 => y9 a (by omega))
  have w6 : r9 6 = 0 := (ha9 6 (by decide) (by decide) (by decide)).trans v6
  have w7 : r9 7 = -1 := (ha9 7 (by decide) (by decide) (by decide)).trans v7
  have hF9 := ha9.F
  refine ax_aload_n dX4_readSetup_51 rfl ?_
  refine ax_aload_n dX4_readSetup_52 rfl ?_
  refine ax_cvv1 dX4_readSetup_53 ln_X4_readSetup_53 (Nat.le_of_ble_eq_true rfl) rfl (by omega) hO9 rfl (sp_readKite hN hb hT hO9 hTr9 hk9 (by omega) hS9) (fun ga hq => ?_)
  refine ax_iconst dX4_readSetup_56 ?_
  refine ax_istore_n dX4_readSetup_57 rfl (by decide) ?_
  obtain ⟨ra, sa, Ka, hOa, hka, hSa, hYa, hfa, sta⟩ := hq
  have hfb := hF9.tr hfa
  have q9 : ra 9 = 0 := hfb.2.1.trans v9
  have q10 : ra 10 = 0 := hfb.2.2.1.trans v10
  have q11 : ra 11 = 0 := hfb.2.2.2.1.trans v11
  have q12 : ra 12 = 0 := hfb.2.2.2.2.trans v12
  refine l_set (f := n) hN hb hT (h0 := h) hTr hn 0 ga ra sa Ka (by omega) hOa hka (sta.rg (by omega)) hSa (((YB.rf.y y8).y y9).tr hYa) (fun e => ?_) (fun gb rb sb2 Kb hOb hSb hYb hfc stb w => ?_)
  · obtain ⟨v, x1, -, z1, z2⟩ := sta.inr w6 e
    have i := kit_in x1
    rw [← z2] at i
    exact ⟨by rw [q12]; exact i.2, ⟨Or.inl q9, Or.inl q10, Or.inl q11, Or.inl q12⟩, Nat.zero_le _⟩
  · rw [q9, q10, q11, q12] at stb
    have fin : ST (setP T n) 0 (-1) (rb 6) (rb 7) (fun v => Kb = v) := by
      rw [w6, w7] at sta
      unfold setP
      exact ST.bnd sta (fun e => stb.keep e) (fun y _ hy => by rw [← hy.1, ← hy.2]; exact stb)
    refine ax_aload_n dX4_readSetup_95 rfl ?_
    refine ax_getf dX4_readSetup_96 ck4 fl_X4_31 (by decide) (by omega) hOb rfl ?_
    exact ax_iret dX4_readSetup_99 rfl ⟨rb, Kb, rfl, hOb, hSb, hYb, (hfc.trans hfb.1).trans v1, fin⟩
end RD
