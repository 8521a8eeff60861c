/-! the reference: a tick -/
theorem src_rg {K : Nat → Nat} (hK : KI K) (x y : Nat) : -1 ≤ srcN K x y ∧ srcN K x y < 180 := by
  unfold srcN
  exact pk_rg hK (pk_rg hK (pk_rg hK (pk_rg hK (by omega))))
theorem bl_rg {K : Nat → Nat} (hK : KI K) (x y : Nat) : -3 ≤ blN K x y ∧ blN K x y < 180 := by
  have := src_rg hK x y
  unfold blN
  split
  · omega
  · split <;> omega
theorem blT_rg {K : Nat → Nat} (hK : KI K) (i : Nat) : -3 ≤ blT K i ∧ blT K i < 180 := by
  have := bl_rg hK (i % K 0) (i / K 0)
  unfold blT blC
  split <;> omega
theorem src6 {K : Nat → Nat} (hK : KI K) {c : Nat} : pkN K c (pkN K c (pkN K c (pkN K c (-1) (((c % K 0 : Nat) : Int) + dxW 0) (((c / K 0 : Nat) : Int) + dyW 0)) (((c % K 0 : Nat) : Int) + dxW 1) (((c / K 0 : Nat) : Int) + dyW 1)) (((c % K 0 : Nat) : Int) + dxW 2) (((c / K 0 : Nat) : Int) + dyW 2)) (((c % K 0 : Nat) : Int) + dxW 3) (((c / K 0 : Nat) : Int) + dyW 3) = srcN K (c % K 0) (c / K 0) := by
  have e := cd_eq (K := K) c
  unfold srcN
  rw [e, pk_comm hK (b := pkN K c (-1) _ _), pk_comm hK (b := pkN K c (pkN K c (-1) _ _) _ _)]
  have z0 : dxW 0 = 0 := rfl
  have z1 : dyW 0 = -1 := rfl
  have z2 : dxW 1 = 0 := rfl
  have z3 : dyW 1 = 1 := rfl
  have z4 : dxW 2 = -1 := rfl
  have z5 : dyW 2 = 0 := rfl
  have z6 : dxW 3 = 1 := rfl
  have z7 : dyW 3 = 0 := rfl
  rw [z0, z1, z2, z3, z4, z5, z6, z7]
  simp only [Int.add_zero]
  rfl
section MT
variable {NC : Nat} {h : hp} {s : Nat → Int} {K : Nat → Nat} {Q : qt}
theorem s6_source (hN : 132 ≤ NC) (hM : MD h s K) (hK : KI K) {c : Nat} (hc : c < 180) : Cl NC M_X6_source [.ref 112, .int (I (c : Int))] h (fun v h1 => v = .int (I (srcN K (c % K 0) (c / K 0))) ∧ h1 = h) := by
  refine ax_iconst dX6_source_0 ?_
  refine ax_istore_n dX6_source_1 rfl (by decide) ?_
  refine ax_iconst dX6_source_2 ?_
  refine ax_istore_n dX6_source_3 rfl (by decide) ?_
  refine src6_step hN hM hK hc (j := 0) (by decide) (by omega) (fun b1 e1 w4 w5 => ?_) _ _
  have g1 : -1 ≤ b1 ∧ b1 < 180 := by rw [e1]; exact pk_rg hK (by omega)
  refine src6_step hN hM hK hc (j := 1) (by decide) g1 (fun b2 e2 w4 w5 => ?_) _ _
  have g2 : -1 ≤ b2 ∧ b2 < 180 := by rw [e2]; exact pk_rg hK g1
  refine src6_step hN hM hK hc (j := 2) (by decide) g2 (fun b3 e3 w4 w5 => ?_) _ _
  have g3 : -1 ≤ b3 ∧ b3 < 180 := by rw [e3]; exact pk_rg hK g2
  refine src6_step hN hM hK hc (j := 3) (by decide) g3 (fun b4 e4 w4 w5 => ?_) _ _
  refine ax_iload_n dX6_source_4 rfl ?_
  refine ax_iconst dX6_source_5 ?_
  refine ax_icmp_ge (tgt := 149) dX6_source_6 (by decide) (by omega) (by omega) (fun c6 => ?_) (fun c6 => ?_)
  · refine ax_iload_n dX6_source_149 rfl ?_
    exact ax_iret dX6_source_150 rfl ⟨iq (by rw [e4, e3, e2, e1, src6 hK]), rfl⟩
  · exfalso
    omega
theorem s6_toldBleeds (hN : 132 ≤ NC) (hM : MD h s K) (hK : KI K) {c : Nat} (hc : c < 180) : Cl NC M_X6_toldBleeds [.ref 112, .int (I (c : Int))] h (fun v h1 => v = .int (I (blC K c)) ∧ h1 = h) := by
  have w8a := hK.2.2.2.2.2.1 c hc
  have w8c := hK.2.2.2.2.2.2.1 c hc
  have w8d := hK.2.2.2.2.1 c hc
  have e := cd_eq (K := K) c
  refine ax_aload_n dX6_toldBleeds_0 rfl ?_
  refine ax_getf dX6_toldBleeds_1 ck6 fl_X6_17 (by decide) (by omega) hM.1 rfl ?_
  refine ax_sipush dX6_toldBleeds_4 (by decide) ?_
  refine ax_iload_n dX6_toldBleeds_7 rfl ?_
  refine ax_iadd dX6_toldBleeds_8 ?_
  refine ax_ialr (j := (434 + c)) (w := (K ((434 + c)) : Int)) dX6_toldBleeds_9 (by omega) hM.2 (by omega) (by omega) (by decide) rfl ?_
  refine ax_iconst dX6_toldBleeds_10 ?_
  refine ax_icmp_ne (tgt := 19) dX6_toldBleeds_11 (by decide) (by omega) (by omega) (fun c11 => ?_) (fun c11 => ?_)
  · refine ax_aload_n dX6_toldBleeds_19 rfl ?_
    refine ax_getf dX6_toldBleeds_20 ck6 fl_X6_17 (by decide) (by omega) hM.1 rfl ?_
    refine ax_sipush dX6_toldBleeds_23 (by decide) ?_
    refine ax_iload_n dX6_toldBleeds_26 rfl ?_
    refine ax_iadd dX6_toldBleeds_27 ?_
    refine ax_ialr (j := (254 + c)) (w := (K ((254 + c)) : Int)) dX6_toldBleeds_28 (by omega) hM.2 (by omega) (by omega) (by decide) rfl ?_
    refine ax_if_ne (tgt := 49) dX6_toldBleeds_29 (by decide) (by omega) (fun c29 => ?_) (fun c29 => ?_)
    · refine ax_aload_n dX6_toldBleeds_49 rfl ?_
      refine ax_iload_n dX6_toldBleeds_50 rfl ?_
      refine ax_cviP1 dX6_toldBleeds_51 ln_X6_toldBleeds_228 (Nat.le_of_ble_eq_true rfl) (Or.inl rfl) (by omega) hM.1 rfl (s6_source hN hM hK hc) ?_
      exact ax_iret dX6_toldBleeds_54 rfl ⟨iq (by unfold blC blN; rw [e]; first | (rw [if_pos (by omega)]; done) | (rw [if_neg (by omega)]; first | (rw [if_pos (by omega)]; done) | (rw [if_neg (by omega)]; done))), rfl⟩
    · refine ax_aload_n dX6_toldBleeds_32 rfl ?_
      refine ax_getf dX6_toldBleeds_33 ck6 fl_X6_17 (by decide) (by omega) hM.1 rfl ?_
      refine ax_bipush dX6_toldBleeds_36 (by decide) ?_
      refine ax_iload_n dX6_toldBleeds_38 rfl ?_
      refine ax_iadd dX6_toldBleeds_39 ?_
      refine ax_ialr (j := (74 + c)) (w := (K ((74 + c)) : Int)) dX6_toldBleeds_40 (by omega) hM.2 (by omega) (by omega) (by decide) rfl ?_
      refine ax_if_le (tgt := 49) dX6_toldBleeds_41 (by decide) (by omega) (fun c41 => ?_) (fun c41 => ?_)
      · refine ax_aload_n dX6_toldBleeds_49 rfl ?_
        refine ax_iload_n dX6_toldBleeds_50 rfl ?_
        refine ax_cviP1 dX6_toldBleeds_51 ln_X6_toldBleeds_228 (Nat.le_of_ble_eq_true rfl) (Or.inl rfl) (by omega) hM.1 rfl (s6_source hN hM hK hc) ?_
        exact ax_iret dX6_toldBleeds_54 rfl ⟨iq (by unfold blC blN; rw [e]; first | (rw [if_pos (by omega)]; done) | (rw [if_neg (by omega)]; first | (rw [if_pos (by omega)]; done) | (rw [if_neg (by omega)]; done))), rfl⟩
      · refine ax_bipush dX6_toldBleeds_44 (by decide) ?_
        refine ax_goto (tgt := 54) dX6_toldBleeds_46 (by decide) ?_
        exact ax_iret dX6_toldBleeds_54 rfl ⟨iq (by unfold blC blN; rw [e]; first | (rw [if_pos (by omega)]; done) | (rw [if_neg (by omega)]; first | (rw [if_pos (by omega)]; done) | (rw [if_neg (by omega)]; done))), rfl⟩
  · refine ax_bipush dX6_toldBleeds_14 (by decide) ?_
    refine ax_goto (tgt := 54) dX6_toldBleeds_16 (by decide) ?_
    exact ax_iret dX6_toldBleeds_54 rfl ⟨iq (by unfold blC blN; rw [e]; first | (rw [if_pos (by omega)]; done) | (rw [if_neg (by omega)]; first | (rw [if_pos (by omega)]; done) | (rw [if_neg (by omega)]; done))), rfl⟩
theorem l6_tick1 (hN : 132 ≤ NC) (hK : KI K) (kk : ∀ (w : Value) (g : hp) (F C W : Nat → Int), MD g s K → row 0 (g 126) 180 F → row 0 (g 127) 180 C → row 0 (g 128) 180 W → (∀ i, i < nC K → F i = blT K i) → (∀ i, i < nC K → 0 ≤ blT K i → C i = colT K i) → (∀ i, i < nC K → 0 ≤ blT K i → W i = halT K i) → EqX [126, 127, 128] h g → Ex NC none M_X6_tick 134 [.ref 112, .int (I (bleC K)), .int (I (nC K : Int)), w] [] g Q) : ∀ (n : Nat) (c : Nat) (acc : Int) (w : Value) (g : hp) (F C W : Nat → Int), c + n = nC K → acc = si (cfB K) c → MD g s K → row 0 (g 126) 180 F → row 0 (g 127) 180 C → row 0 (g 128) 180 W → (∀ i, i < c → F i = blT K i) → (∀ i, i < c → 0 ≤ blT K i → C i = colT K i) → (∀ i, i < c → 0 ≤ blT K i → W i = halT K i) → EqX [126, 127, 128] h g → Ex NC none M_X6_tick 4 [.ref 112, .int (I acc), .int (I (c : Int)), w] [] g Q := by
  have n0 := nC_le hK
  have k0 := hK.1
  intro n
  induction n with
  | zero =>
    intro c acc w g F C W hc ha hM hF hC hW iF iC iW hX
    have gb := blT_rg hK c
    refine ax_iload_n dX6_tick_4 rfl ?_
    refine ax_aload_n dX6_tick_5 rfl ?_
    refine ax_cviP0 dX6_tick_6 ln_X6_tick_205 (Nat.le_of_ble_eq_true rfl) (Or.inl rfl) (by omega) hM.1 rfl (s6_cells hN hM hK) ?_
    refine ax_icmp_ge (tgt := 134) dX6_tick_9 (by decide) (by omega) (by omega) (fun c9 => ?_) (fun c9 => ?_)
    · have e : c = nC K := by omega
      subst e
      rw [ha]
      exact kk w g F C W hM hF hC hW iF iC iW hX
    · exfalso
      omega
  | succ n ih =>
    intro c acc w g F C W hc ha hM hF hC hW iF iC iW hX
    have gb := blT_rg hK c
    refine ax_iload_n dX6_tick_4 rfl ?_
    refine ax_aload_n dX6_tick_5 rfl ?_
    refine ax_cviP0 dX6_tick_6 ln_X6_tick_205 (Nat.le_of_ble_eq_true rfl) (Or.inl rfl) (by omega) hM.1 rfl (s6_cells hN hM hK) ?_
    refine ax_icmp_ge (tgt := 134) dX6_tick_9 (by decide) (by omega) (by omega) (fun c9 => ?_) (fun c9 => ?_)
    · exfalso
      omega
    · refine ax_aload_n dX6_tick_12 rfl ?_
      refine ax_iload_n dX6_tick_13 rfl ?_
      refine ax_cviP1 dX6_tick_14 ln_X6_tick_208 (Nat.le_of_ble_eq_true rfl) (Or.inr rfl) (by omega) hM.1 rfl (s6_isCell hN hM hK (by omega)) ?_
      refine ax_if_eq (tgt := 28) dX6_tick_17 (by decide) (by split <;> omega) (fun c17 => ?_) (fun c17 => ?_)
      · have hon : ¬ on K c = true := fun z => by rw [if_pos z] at c17; omega
        refine ax_iconst dX6_tick_28 ?_
        first | rw [show I (blC K c) = I (blT K c) by unfold blT; rw [if_pos hon]] | rw [show I (-1) = I (blT K c) by unfold blT; rw [if_neg hon]]
        refine ax_istore_n dX6_tick_29 rfl (by decide) ?_
        refine ax_aload_n dX6_tick_30 rfl ?_
        refine ax_getf dX6_tick_31 ck6 fl_X6_31 (by decide) (by omega) hM.1 rfl ?_
        refine ax_iload_n dX6_tick_34 rfl ?_
        refine ax_iload_n dX6_tick_35 rfl ?_
        refine ax_iasr (j := c) dX6_tick_36 (by omega) hF (by omega) (by omega) (by decide) (fun e36 he36 => ?_)
        have hX1 := hX.up (b := 126) (e := e36) (by decide)
        have hM1 : MD (va_up g 126 e36) s K := hM.eq (vu_ne (by decide)) (vu_ne (by decide))
        have hF1 : row 0 (va_up g 126 e36 126) 180 _ := he36.mv vu_eq
        have hC1 : row 0 (va_up g 126 e36 127) 180 _ := hC.mv (vu_ne (by decide))
        have hW1 : row 0 (va_up g 126 e36 128) 180 _ := hW.mv (vu_ne (by decide))
        have iF1 : ∀ i, i < c + 1 → upZ F c (blT K c) i = blT K i := by
          intro i hi
          unfold upZ
          by_cases q : i = c
          · rw [if_pos q, q]
          · rw [if_neg q]; exact iF i (by omega)
        generalize va_up g 126 e36 = g1 at *
        refine ax_iload_n dX6_tick_37 rfl ?_
        refine ax_if_ge (tgt := 44) dX6_tick_38 (by decide) (by omega) (fun c38 => ?_) (fun c38 => ?_)
        · obtain ⟨q, eq⟩ : ∃ q : Nat, blT K c = (q : Int) := ⟨(blT K c).toNat, by omega⟩
          have etq : (blT K c).toNat = q := by omega
          have w8d := hK.2.2.2.2.1 q (by omega)
          have w9d := hK.2.2.2.2.1 c (by omega)
          have w8e := hK.2.2.2.2.2.1 q (by omega)
          have w9e := hK.2.2.2.2.2.1 c (by omega)
          refine ax_aload_n dX6_tick_44 rfl ?_
          refine ax_getf dX6_tick_45 ck6 fl_X6_34 (by decide) (by omega) hM1.1 rfl ?_
          refine ax_iload_n dX6_tick_48 rfl ?_
          refine ax_aload_n dX6_tick_49 rfl ?_
          refine ax_getf dX6_tick_50 ck6 fl_X6_17 (by decide) (by omega) hM1.1 rfl ?_
          refine ax_bipush dX6_tick_53 (by decide) ?_
          refine ax_iload_n dX6_tick_55 rfl ?_
          refine ax_iadd dX6_tick_56 ?_
          refine ax_ialr (j := (74 + c)) (w := (K ((74 + c)) : Int)) dX6_tick_57 (by omega) hM1.2 (by omega) (by omega) (by decide) rfl ?_
          refine ax_if_ne (tgt := 73) dX6_tick_58 (by decide) (by omega) (fun c58 => ?_) (fun c58 => ?_)
          · have ec : colT K c = mixN K (K (74 + c)) (K (74 + q)) := by unfold colT; rw [if_pos (by omega), if_neg (by omega), etq]
            refine ax_aload_n dX6_tick_73 rfl ?_
            refine ax_aload_n dX6_tick_74 rfl ?_
            refine ax_getf dX6_tick_75 ck6 fl_X6_17 (by decide) (by omega) hM1.1 rfl ?_
            refine ax_bipush dX6_tick_78 (by decide) ?_
            refine ax_iload_n dX6_tick_80 rfl ?_
            refine ax_iadd dX6_tick_81 ?_
            refine ax_ialr (j := (74 + c)) (w := (K ((74 + c)) : Int)) dX6_tick_82 (by omega) hM1.2 (by omega) (by omega) (by decide) rfl ?_
            refine ax_aload_n dX6_tick_83 rfl ?_
            refine ax_getf dX6_tick_84 ck6 fl_X6_17 (by decide) (by omega) hM1.1 rfl ?_
            refine ax_bipush dX6_tick_87 (by decide) ?_
            refine ax_iload_n dX6_tick_89 rfl ?_
            refine ax_iadd dX6_tick_90 ?_
            refine ax_ialr (j := (74 + q)) (w := (K ((74 + q)) : Int)) dX6_tick_91 (by omega) hM1.2 (by omega) (by omega) (by decide) rfl ?_
            refine ax_cviP2 dX6_tick_92 ln_X6_tick_234 (Nat.le_of_ble_eq_true rfl) (Or.inl rfl) (by omega) hM1.1 rfl (s6_mixOf hN hM1 hK (by omega) (by omega)) ?_
            rw [← ec]
            refine ax_iasr (j := c) dX6_tick_95 (by omega) hC1 (by omega) (by omega) (by decide) (fun e95 he95 => ?_)
            have hX2 := hX1.up (b := 127) (e := e95) (by decide)
            have hM2 : MD (va_up g1 127 e95) s K := hM1.eq (vu_ne (by decide)) (vu_ne (by decide))
            have hF2 : row 0 (va_up g1 127 e95 126) 180 _ := hF1.mv (vu_ne (by decide))
            have hC2 : row 0 (va_up g1 127 e95 127) 180 _ := he95.mv vu_eq
            have hW2 : row 0 (va_up g1 127 e95 128) 180 _ := hW1.mv (vu_ne (by decide))
            generalize va_up g1 127 e95 = g2 at *
            refine ax_aload_n dX6_tick_96 rfl ?_
            refine ax_getf dX6_tick_97 ck6 fl_X6_37 (by decide) (by omega) hM2.1 rfl ?_
            refine ax_iload_n dX6_tick_100 rfl ?_
            refine ax_aload_n dX6_tick_101 rfl ?_
            refine ax_getf dX6_tick_102 ck6 fl_X6_17 (by decide) (by omega) hM2.1 rfl ?_
            refine ax_sipush dX6_tick_105 (by decide) ?_
            refine ax_iload_n dX6_tick_108 rfl ?_
            refine ax_iadd dX6_tick_109 ?_
            refine ax_ialr (j := (254 + c)) (w := (K ((254 + c)) : Int)) dX6_tick_110 (by omega) hM2.2 (by omega) (by omega) (by decide) rfl ?_
            refine ax_aload_n dX6_tick_111 rfl ?_
            refine ax_getf dX6_tick_112 ck6 fl_X6_17 (by decide) (by omega) hM2.1 rfl ?_
            refine ax_sipush dX6_tick_115 (by decide) ?_
            refine ax_iload_n dX6_tick_118 rfl ?_
            refine ax_iadd dX6_tick_119 ?_
            refine ax_ialr (j := (254 + q)) (w := (K ((254 + q)) : Int)) dX6_tick_120 (by omega) hM2.2 (by omega) (by omega) (by decide) rfl ?_
            refine ax_iadd dX6_tick_121 ?_
            refine ax_iconst dX6_tick_122 ?_
            refine ax_idiv dX6_tick_123 (by omega) (by omega) ?_
            rw [show ((K (254 + c) : Int) + (K (254 + q) : Int)) / 2 = (halT K c : Int) by unfold halT; rw [etq]; omega]
            refine ax_iasr (j := c) dX6_tick_124 (by omega) hW2 (by omega) (by omega) (by decide) (fun e124 he124 => ?_)
            have hX3 := hX2.up (b := 128) (e := e124) (by decide)
            have hM3 : MD (va_up g2 128 e124) s K := hM2.eq (vu_ne (by decide)) (vu_ne (by decide))
            have hF3 : row 0 (va_up g2 128 e124 126) 180 _ := hF2.mv (vu_ne (by decide))
            have hC3 : row 0 (va_up g2 128 e124 127) 180 _ := hC2.mv (vu_ne (by decide))
            have hW3 : row 0 (va_up g2 128 e124 128) 180 _ := he124.mv vu_eq
            have iC3 : ∀ i, i < c + 1 → 0 ≤ blT K i → upZ C c (colT K c) i = colT K i := by
              intro i hi h0
              unfold upZ
              by_cases q : i = c
              · rw [if_pos q, q]
              · rw [if_neg q]; exact iC i (by omega) h0
            have iW3 : ∀ i, i < c + 1 → 0 ≤ blT K i → upZ W c (halT K c) i = halT K i := by
              intro i hi h0
              unfold upZ
              by_cases q : i = c
              · rw [if_pos q, q]
              · rw [if_neg q]; exact iW i (by omega) h0
            refine ax_iinc dX6_tick_125 rfl rfl (by decide) ?_
            refine ax_iinc dX6_tick_128 rfl rfl (by decide) ?_
            refine ax_goto (tgt := 4) dX6_tick_131 (by decide) ?_
            exact ih (c + 1) _ _ _ _ _ _ (by omega) (by rw [si_succ, show cfB K c = 1 from if_pos (by omega), ha]) hM3 hF3 hC3 hW3 iF1 iC3 iW3 hX3
          · have ec : colT K c = K (74 + q) := by unfold colT; rw [if_pos (by omega), if_pos (by omega), etq]
            refine ax_aload_n dX6_tick_61 rfl ?_
            refine ax_getf dX6_tick_62 ck6 fl_X6_17 (by decide) (by omega) hM1.1 rfl ?_
            refine ax_bipush dX6_tick_65 (by decide) ?_
            refine ax_iload_n dX6_tick_67 rfl ?_
            refine ax_iadd dX6_tick_68 ?_
            refine ax_ialr (j := (74 + q)) (w := (K ((74 + q)) : Int)) dX6_tick_69 (by omega) hM1.2 (by omega) (by omega) (by decide) rfl ?_
            refine ax_goto (tgt := 95) dX6_tick_70 (by decide) ?_
            rw [← ec]
            refine ax_iasr (j := c) dX6_tick_95 (by omega) hC1 (by omega) (by omega) (by decide) (fun e95 he95 => ?_)
            have hX2 := hX1.up (b := 127) (e := e95) (by decide)
            have hM2 : MD (va_up g1 127 e95) s K := hM1.eq (vu_ne (by decide)) (vu_ne (by decide))
            have hF2 : row 0 (va_up g1 127 e95 126) 180 _ := hF1.mv (vu_ne (by decide))
            have hC2 : row 0 (va_up g1 127 e95 127) 180 _ := he95.mv vu_eq
            have hW2 : row 0 (va_up g1 127 e95 128) 180 _ := hW1.mv (vu_ne (by decide))
            generalize va_up g1 127 e95 = g2 at *
            refine ax_aload_n dX6_tick_96 rfl ?_
            refine ax_getf dX6_tick_97 ck6 fl_X6_37 (by decide) (by omega) hM2.1 rfl ?_
            refine ax_iload_n dX6_tick_100 rfl ?_
            refine ax_aload_n dX6_tick_101 rfl ?_
            refine ax_getf dX6_tick_102 ck6 fl_X6_17 (by decide) (by omega) hM2.1 rfl ?_
            refine ax_sipush dX6_tick_105 (by decide) ?_
            refine ax_iload_n dX6_tick_108 rfl ?_
            refine ax_iadd dX6_tick_109 ?_
            refine ax_ialr (j := (254 + c)) (w := (K ((254 + c)) : Int)) dX6_tick_110 (by omega) hM2.2 (by omega) (by omega) (by decide) rfl ?_
            refine ax_aload_n dX6_tick_111 rfl ?_
            refine ax_getf dX6_tick_112 ck6 fl_X6_17 (by decide) (by omega) hM2.1 rfl ?_
            refine ax_sipush dX6_tick_115 (by decide) ?_
            refine ax_iload_n dX6_tick_118 rfl ?_
            refine ax_iadd dX6_tick_119 ?_
            refine ax_ialr (j := (254 + q)) (w := (K ((254 + q)) : Int)) dX6_tick_120 (by omega) hM2.2 (by omega) (by omega) (by decide) rfl ?_
            refine ax_iadd dX6_tick_121 ?_
            refine ax_iconst dX6_tick_122 ?_
            refine ax_idiv dX6_tick_123 (by omega) (by omega) ?_
            rw [show ((K (254 + c) : Int) + (K (254 + q) : Int)) / 2 = (halT K c : Int) by unfold halT; rw [etq]; omega]
            refine ax_iasr (j := c) dX6_tick_124 (by omega) hW2 (by omega) (by omega) (by decide) (fun e124 he124 => ?_)
            have hX3 := hX2.up (b := 128) (e := e124) (by decide)
            have hM3 : MD (va_up g2 128 e124) s K := hM2.eq (vu_ne (by decide)) (vu_ne (by decide))
            have hF3 : row 0 (va_up g2 128 e124 126) 180 _ := hF2.mv (vu_ne (by decide))
            have hC3 : row 0 (va_up g2 128 e124 127) 180 _ := hC2.mv (vu_ne (by decide))
            have hW3 : row 0 (va_up g2 128 e124 128) 180 _ := he124.mv vu_eq
            have iC3 : ∀ i, i < c + 1 → 0 ≤ blT K i → upZ C c (colT K c) i = colT K i := by
              intro i hi h0
              unfold upZ
              by_cases q : i = c
              · rw [if_pos q, q]
              · rw [if_neg q]; exact iC i (by omega) h0
            have iW3 : ∀ i, i < c + 1 → 0 ≤ blT K i → upZ W c (halT K c) i = halT K i := by
              intro i hi h0
              unfold upZ
              by_cases q : i = c
              · rw [if_pos q, q]
              · rw [if_neg q]; exact iW i (by omega) h0
            refine ax_iinc dX6_tick_125 rfl rfl (by decide) ?_
            refine ax_iinc dX6_tick_128 rfl rfl (by decide) ?_
            refine ax_goto (tgt := 4) dX6_tick_131 (by decide) ?_
            exact ih (c + 1) _ _ _ _ _ _ (by omega) (by rw [si_succ, show cfB K c = 1 from if_pos (by omega), ha]) hM3 hF3 hC3 hW3 iF1 iC3 iW3 hX3
        · refine ax_goto (tgt := 128) dX6_tick_41 (by decide) ?_
          refine ax_iinc dX6_tick_128 rfl rfl (by decide) ?_
          refine ax_goto (tgt := 4) dX6_tick_131 (by decide) ?_
          exact ih (c + 1) _ _ _ _ _ _ (by omega) (by rw [si_succ, show cfB K c = 0 from if_neg (by omega), ha, Int.add_zero]) hM1 hF1 hC1 hW1 iF1 (fun i hi h0 => by by_cases q : i = c; exact absurd (q ▸ h0) (by omega); exact iC i (by omega) h0) (fun i hi h0 => by by_cases q : i = c; exact absurd (q ▸ h0) (by omega); exact iW i (by omega) h0) hX1
      · have hon : on K c = true := by by_cases z : on K c = true; exact z; rw [if_neg z] at c17; omega
        refine ax_aload_n dX6_tick_20 rfl ?_
        refine ax_iload_n dX6_tick_21 rfl ?_
        refine ax_cviP1 dX6_tick_22 ln_X6_tick_231 (Nat.le_of_ble_eq_true rfl) (Or.inl rfl) (by omega) hM.1 rfl (s6_toldBleeds hN hM hK (by omega)) ?_
        refine ax_goto (tgt := 29) dX6_tick_25 (by decide) ?_
        first | rw [show I (blC K c) = I (blT K c) by unfold blT; rw [if_pos hon]] | rw [show I (-1) = I (blT K c) by unfold blT; rw [if_neg hon]]
        refine ax_istore_n dX6_tick_29 rfl (by decide) ?_
        refine ax_aload_n dX6_tick_30 rfl ?_
        refine ax_getf dX6_tick_31 ck6 fl_X6_31 (by decide) (by omega) hM.1 rfl ?_
        refine ax_iload_n dX6_tick_34 rfl ?_
        refine ax_iload_n dX6_tick_35 rfl ?_
        refine ax_iasr (j := c) dX6_tick_36 (by omega) hF (by omega) (by omega) (by decide) (fun e36 he36 => ?_)
        have hX1 := hX.up (b := 126) (e := e36) (by decide)
        have hM1 : MD (va_up g 126 e36) s K := hM.eq (vu_ne (by decide)) (vu_ne (by decide))
        have hF1 : row 0 (va_up g 126 e36 126) 180 _ := he36.mv vu_eq
        have hC1 : row 0 (va_up g 126 e36 127) 180 _ := hC.mv (vu_ne (by decide))
        have hW1 : row 0 (va_up g 126 e36 128) 180 _ := hW.mv (vu_ne (by decide))
        have iF1 : ∀ i, i < c + 1 → upZ F c (blT K c) i = blT K i := by
          intro i hi
          unfold upZ
          by_cases q : i = c
          · rw [if_pos q, q]
          · rw [if_neg q]; exact iF i (by omega)
        generalize va_up g 126 e36 = g1 at *
        refine ax_iload_n dX6_tick_37 rfl ?_
        refine ax_if_ge (tgt := 44) dX6_tick_38 (by decide) (by omega) (fun c38 => ?_) (fun c38 => ?_)
        · obtain ⟨q, eq⟩ : ∃ q : Nat, blT K c = (q : Int) := ⟨(blT K c).toNat, by omega⟩
          have etq : (blT K c).toNat = q := by omega
          have w8d := hK.2.2.2.2.1 q (by omega)
          have w9d := hK.2.2.2.2.1 c (by omega)
          have w8e := hK.2.2.2.2.2.1 q (by omega)
          have w9e := hK.2.2.2.2.2.1 c (by omega)
          refine ax_aload_n dX6_tick_44 rfl ?_
          refine ax_getf dX6_tick_45 ck6 fl_X6_34 (by decide) (by omega) hM1.1 rfl ?_
          refine ax_iload_n dX6_tick_48 rfl ?_
          refine ax_aload_n dX6_tick_49 rfl ?_
          refine ax_getf dX6_tick_50 ck6 fl_X6_17 (by decide) (by omega) hM1.1 rfl ?_
          refine ax_bipush dX6_tick_53 (by decide) ?_
          refine ax_iload_n dX6_tick_55 rfl ?_
          refine ax_iadd dX6_tick_56 ?_
          refine ax_ialr (j := (74 + c)) (w := (K ((74 + c)) : Int)) dX6_tick_57 (by omega) hM1.2 (by omega) (by omega) (by decide) rfl ?_
          refine ax_if_ne (tgt := 73) dX6_tick_58 (by decide) (by omega) (fun c58 => ?_) (fun c58 => ?_)
          · have ec : colT K c = mixN K (K (74 + c)) (K (74 + q)) := by unfold colT; rw [if_pos (by omega), if_neg (by omega), etq]
            refine ax_aload_n dX6_tick_73 rfl ?_
            refine ax_aload_n dX6_tick_74 rfl ?_
            refine ax_getf dX6_tick_75 ck6 fl_X6_17 (by decide) (by omega) hM1.1 rfl ?_
            refine ax_bipush dX6_tick_78 (by decide) ?_
            refine ax_iload_n dX6_tick_80 rfl ?_
            refine ax_iadd dX6_tick_81 ?_
            refine ax_ialr (j := (74 + c)) (w := (K ((74 + c)) : Int)) dX6_tick_82 (by omega) hM1.2 (by omega) (by omega) (by decide) rfl ?_
            refine ax_aload_n dX6_tick_83 rfl ?_
            refine ax_getf dX6_tick_84 ck6 fl_X6_17 (by decide) (by omega) hM1.1 rfl ?_
            refine ax_bipush dX6_tick_87 (by decide) ?_
            refine ax_iload_n dX6_tick_89 rfl ?_
            refine ax_iadd dX6_tick_90 ?_
            refine ax_ialr (j := (74 + q)) (w := (K ((74 + q)) : Int)) dX6_tick_91 (by omega) hM1.2 (by omega) (by omega) (by decide) rfl ?_
            refine ax_cviP2 dX6_tick_92 ln_X6_tick_234 (Nat.le_of_ble_eq_true rfl) (Or.inl rfl) (by omega) hM1.1 rfl (s6_mixOf hN hM1 hK (by omega) (by omega)) ?_
            rw [← ec]
            refine ax_iasr (j := c) dX6_tick_95 (by omega) hC1 (by omega) (by omega) (by decide) (fun e95 he95 => ?_)
            have hX2 := hX1.up (b := 127) (e := e95) (by decide)
            have hM2 : MD (va_up g1 127 e95) s K := hM1.eq (vu_ne (by decide)) (vu_ne (by decide))
            have hF2 : row 0 (va_up g1 127 e95 126) 180 _ := hF1.mv (vu_ne (by decide))
            have hC2 : row 0 (va_up g1 127 e95 127) 180 _ := he95.mv vu_eq
            have hW2 : row 0 (va_up g1 127 e95 128) 180 _ := hW1.mv (vu_ne (by decide))
            generalize va_up g1 127 e95 = g2 at *
            refine ax_aload_n dX6_tick_96 rfl ?_
            refine ax_getf dX6_tick_97 ck6 fl_X6_37 (by decide) (by omega) hM2.1 rfl ?_
            refine ax_iload_n dX6_tick_100 rfl ?_
            refine ax_aload_n dX6_tick_101 rfl ?_
            refine ax_getf dX6_tick_102 ck6 fl_X6_17 (by decide) (by omega) hM2.1 rfl ?_
            refine ax_sipush dX6_tick_105 (by decide) ?_
            refine ax_iload_n dX6_tick_108 rfl ?_
            refine ax_iadd dX6_tick_109 ?_
            refine ax_ialr (j := (254 + c)) (w := (K ((254 + c)) : Int)) dX6_tick_110 (by omega) hM2.2 (by omega) (by omega) (by decide) rfl ?_
            refine ax_aload_n dX6_tick_111 rfl ?_
            refine ax_getf dX6_tick_112 ck6 fl_X6_17 (by decide) (by omega) hM2.1 rfl ?_
            refine ax_sipush dX6_tick_115 (by decide) ?_
            refine ax_iload_n dX6_tick_118 rfl ?_
            refine ax_iadd dX6_tick_119 ?_
            refine ax_ialr (j := (254 + q)) (w := (K ((254 + q)) : Int)) dX6_tick_120 (by omega) hM2.2 (by omega) (by omega) (by decide) rfl ?_
            refine ax_iadd dX6_tick_121 ?_
            refine ax_iconst dX6_tick_122 ?_
            refine ax_idiv dX6_tick_123 (by omega) (by omega) ?_
            rw [show ((K (254 + c) : Int) + (K (254 + q) : Int)) / 2 = (halT K c : Int) by unfold halT; rw [etq]; omega]
            refine ax_iasr (j := c) dX6_tick_124 (by omega) hW2 (by omega) (by omega) (by decide) (fun e124 he124 => ?_)
            have hX3 := hX2.up (b := 128) (e := e124) (by decide)
            have hM3 : MD (va_up g2 128 e124) s K := hM2.eq (vu_ne (by decide)) (vu_ne (by decide))
            have hF3 : row 0 (va_up g2 128 e124 126) 180 _ := hF2.mv (vu_ne (by decide))
            have hC3 : row 0 (va_up g2 128 e124 127) 180 _ := hC2.mv (vu_ne (by decide))
            have hW3 : row 0 (va_up g2 128 e124 128) 180 _ := he124.mv vu_eq
            have iC3 : ∀ i, i < c + 1 → 0 ≤ blT K i → upZ C c (colT K c) i = colT K i := by
              intro i hi h0
              unfold upZ
              by_cases q : i = c
              · rw [if_pos q, q]
              · rw [if_neg q]; exact iC i (by omega) h0
            have iW3 : ∀ i, i < c + 1 → 0 ≤ blT K i → upZ W c (halT K c) i = halT K i := by
              intro i hi h0
              unfold upZ
              by_cases q : i = c
              · rw [if_pos q, q]
              · rw [if_neg q]; exact iW i (by omega) h0
            refine ax_iinc dX6_tick_125 rfl rfl (by decide) ?_
            refine ax_iinc dX6_tick_128 rfl rfl (by decide) ?_
            refine ax_goto (tgt := 4) dX6_tick_131 (by decide) ?_
            exact ih (c + 1) _ _ _ _ _ _ (by omega) (by rw [si_succ, show cfB K c = 1 from if_pos (by omega), ha]) hM3 hF3 hC3 hW3 iF1 iC3 iW3 hX3
          · have ec : colT K c = K (74 + q) := by unfold colT; rw [if_pos (by omega), if_pos (by omega), etq]
            refine ax_aload_n dX6_tick_61 rfl ?_
            refine ax_getf dX6_tick_62 ck6 fl_X6_17 (by decide) (by omega) hM1.1 rfl ?_
            refine ax_bipush dX6_tick_65 (by decide) ?_
            refine ax_iload_n dX6_tick_67 rfl ?_
            refine ax_iadd dX6_tick_68 ?_
            refine ax_ialr (j := (74 + q)) (w := (K ((74 + q)) : Int)) dX6_tick_69 (by omega) hM1.2 (by omega) (by omega) (by decide) rfl ?_
            refine ax_goto (tgt := 95) dX6_tick_70 (by decide) ?_
            rw [← ec]
            refine ax_iasr (j := c) dX6_tick_95 (by omega) hC1 (by omega) (by omega) (by decide) (fun e95 he95 => ?_)
            have hX2 := hX1.up (b := 127) (e := e95) (by decide)
            have hM2 : MD (va_up g1 127 e95) s K := hM1.eq (vu_ne (by decide)) (vu_ne (by decide))
            have hF2 : row 0 (va_up g1 127 e95 126) 180 _ := hF1.mv (vu_ne (by decide))
            have hC2 : row 0 (va_up g1 127 e95 127) 180 _ := he95.mv vu_eq
            have hW2 : row 0 (va_up g1 127 e95 128) 180 _ := hW1.mv (vu_ne (by decide))
            generalize va_up g1 127 e95 = g2 at *
            refine ax_aload_n dX6_tick_96 rfl ?_
            refine ax_getf dX6_tick_97 ck6 fl_X6_37 (by decide) (by omega) hM2.1 rfl ?_
            refine ax_iload_n dX6_tick_100 rfl ?_
            refine ax_aload_n dX6_tick_101 rfl ?_
            refine ax_getf dX6_tick_102 ck6 fl_X6_17 (by decide) (by omega) hM2.1 rfl ?_
            refine ax_sipush dX6_tick_105 (by decide) ?_
            refine ax_iload_n dX6_tick_108 rfl ?_
            refine ax_iadd dX6_tick_109 ?_
            refine ax_ialr (j := (254 + c)) (w := (K ((254 + c)) : Int)) dX6_tick_110 (by omega) hM2.2 (by omega) (by omega) (by decide) rfl ?_
            refine ax_aload_n dX6_tick_111 rfl ?_
            refine ax_getf dX6_tick_112 ck6 fl_X6_17 (by decide) (by omega) hM2.1 rfl ?_
            refine ax_sipush dX6_tick_115 (by decide) ?_
            refine ax_iload_n dX6_tick_118 rfl ?_
            refine ax_iadd dX6_tick_119 ?_
            refine ax_ialr (j := (254 + q)) (w := (K ((254 + q)) : Int)) dX6_tick_120 (by omega) hM2.2 (by omega) (by omega) (by decide) rfl ?_
            refine ax_iadd dX6_tick_121 ?_
            refine ax_iconst dX6_tick_122 ?_
            refine ax_idiv dX6_tick_123 (by omega) (by omega) ?_
            rw [show ((K (254 + c) : Int) + (K (254 + q) : Int)) / 2 = (halT K c : Int) by unfold halT; rw [etq]; omega]
            refine ax_iasr (j := c) dX6_tick_124 (by omega) hW2 (by omega) (by omega) (by decide) (fun e124 he124 => ?_)
            have hX3 := hX2.up (b := 128) (e := e124) (by decide)
            have hM3 : MD (va_up g2 128 e124) s K := hM2.eq (vu_ne (by decide)) (vu_ne (by decide))
            have hF3 : row 0 (va_up g2 128 e124 126) 180 _ := hF2.mv (vu_ne (by decide))
            have hC3 : row 0 (va_up g2 128 e124 127) 180 _ := hC2.mv (vu_ne (by decide))
            have hW3 : row 0 (va_up g2 128 e124 128) 180 _ := he124.mv vu_eq
            have iC3 : ∀ i, i < c + 1 → 0 ≤ blT K i → upZ C c (colT K c) i = colT K i := by
              intro i hi h0
              unfold upZ
              by_cases q : i = c
              · rw [if_pos q, q]
              · rw [if_neg q]; exact iC i (by omega) h0
            have iW3 : ∀ i, i < c + 1 → 0 ≤ blT K i → upZ W c (halT K c) i = halT K i := by
              intro i hi h0
              unfold upZ
              by_cases q : i = c
              · rw [if_pos q, q]
              · rw [if_neg q]; exact iW i (by omega) h0
            refine ax_iinc dX6_tick_125 rfl rfl (by decide) ?_
            refine ax_iinc dX6_tick_128 rfl rfl (by decide) ?_
            refine ax_goto (tgt := 4) dX6_tick_131 (by decide) ?_
            exact ih (c + 1) _ _ _ _ _ _ (by omega) (by rw [si_succ, show cfB K c = 1 from if_pos (by omega), ha]) hM3 hF3 hC3 hW3 iF1 iC3 iW3 hX3
        · refine ax_goto (tgt := 128) dX6_tick_41 (by decide) ?_
          refine ax_iinc dX6_tick_128 rfl rfl (by decide) ?_
          refine ax_goto (tgt := 4) dX6_tick_131 (by decide) ?_
          exact ih (c + 1) _ _ _ _ _ _ (by omega) (by rw [si_succ, show cfB K c = 0 from if_neg (by omega), ha, Int.add_zero]) hM1 hF1 hC1 hW1 iF1 (fun i hi h0 => by by_cases q : i = c; exact absurd (q ▸ h0) (by omega); exact iC i (by omega) h0) (fun i hi h0 => by by_cases q : i = c; exact absurd (q ▸ h0) (by omega); exact iW i (by omega) h0) hX1
end MT
