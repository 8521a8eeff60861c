/-! the reference: told, state, cell, mix, pattern, covered -/
section MA
variable {NC : Nat} {h : hp} {s : Nat → Int} {K : Nat → Nat} {H : Nat → Nat → Nat} {d : Nat} {Q : qt}
theorem s6_told (hN : 132 ≤ NC) (hM : MD h s K) (hK : KI K) {w : Nat} (hw : w ≤ 12) : Cl NC M_X6_told [.ref 112, .int (I (w : Int))] h (fun v h1 => v = .int (I (stN K w)) ∧ h1 = h) := by
  rcases (by omega : w = 0 ∨ w = 1 ∨ w = 2 ∨ w = 3 ∨ w = 4 ∨ w = 5 ∨ w = 6 ∨ w = 7 ∨ w = 8 ∨ w = 9 ∨ w = 10 ∨ w = 11 ∨ w = 12) with rfl | rfl | rfl | rfl | rfl | rfl | rfl | rfl | rfl | rfl | rfl | rfl | rfl
  · refine ax_iload_n dX6_told_0 rfl ?_
    refine ax_tabI (tgt := 64) dX6_told_1 (by omega) (by omega) rfl (by decide) ?_
    refine ax_aload_n dX6_told_64 rfl ?_
    refine ax_getf dX6_told_65 ck6 fl_X6_17 (by decide) (by omega) hM.1 rfl ?_
    refine ax_iload_n dX6_told_68 rfl ?_
    refine ax_ialr (j := (0)) (w := (K (0) : Int)) dX6_told_69 (by omega) hM.2 (by omega) (by omega) (by decide) rfl ?_
    exact ax_iret dX6_told_70 rfl ⟨rfl, rfl⟩
  · refine ax_iload_n dX6_told_0 rfl ?_
    refine ax_tabI (tgt := 64) dX6_told_1 (by omega) (by omega) rfl (by decide) ?_
    refine ax_aload_n dX6_told_64 rfl ?_
    refine ax_getf dX6_told_65 ck6 fl_X6_17 (by decide) (by omega) hM.1 rfl ?_
    refine ax_iload_n dX6_told_68 rfl ?_
    refine ax_ialr (j := (1)) (w := (K (1) : Int)) dX6_told_69 (by omega) hM.2 (by omega) (by omega) (by decide) rfl ?_
    exact ax_iret dX6_told_70 rfl ⟨rfl, rfl⟩
  · refine ax_iload_n dX6_told_0 rfl ?_
    refine ax_tabI (tgt := 64) dX6_told_1 (by omega) (by omega) rfl (by decide) ?_
    refine ax_aload_n dX6_told_64 rfl ?_
    refine ax_getf dX6_told_65 ck6 fl_X6_17 (by decide) (by omega) hM.1 rfl ?_
    refine ax_iload_n dX6_told_68 rfl ?_
    refine ax_ialr (j := (2)) (w := (K (2) : Int)) dX6_told_69 (by omega) hM.2 (by omega) (by omega) (by decide) rfl ?_
    exact ax_iret dX6_told_70 rfl ⟨rfl, rfl⟩
  · refine ax_iload_n dX6_told_0 rfl ?_
    refine ax_tabI (tgt := 71) dX6_told_1 (by omega) (by omega) rfl (by decide) ?_
    refine ax_aload_n dX6_told_71 rfl ?_
    refine ax_cviP0 dX6_told_72 ln_X6_told_189 (Nat.le_of_ble_eq_true rfl) (Or.inl rfl) (by omega) hM.1 rfl (s6_sailCells hN hM hK) ?_
    exact ax_iret dX6_told_75 rfl ⟨rfl, rfl⟩
  · refine ax_iload_n dX6_told_0 rfl ?_
    refine ax_tabI (tgt := 76) dX6_told_1 (by omega) (by omega) rfl (by decide) ?_
    refine ax_aload_n dX6_told_76 rfl ?_
    refine ax_cviP0 dX6_told_77 ln_X6_told_240 (Nat.le_of_ble_eq_true rfl) (Or.inl rfl) (by omega) hM.1 rfl (s6_spars hN hM hK) ?_
    exact ax_iret dX6_told_80 rfl ⟨rfl, rfl⟩
  · refine ax_iload_n dX6_told_0 rfl ?_
    refine ax_tabI (tgt := 81) dX6_told_1 (by omega) (by omega) rfl (by decide) ?_
    refine ax_aload_n dX6_told_81 rfl ?_
    refine ax_iconst dX6_told_82 ?_
    refine ax_cviP1 dX6_told_83 ln_X6_told_243 (Nat.le_of_ble_eq_true rfl) (Or.inl rfl) (by omega) hM.1 rfl (s6_countOf hN hM hK (k := 0) (by omega)) ?_
    exact ax_iret dX6_told_86 rfl ⟨rfl, rfl⟩
  · refine ax_iload_n dX6_told_0 rfl ?_
    refine ax_tabI (tgt := 87) dX6_told_1 (by omega) (by omega) rfl (by decide) ?_
    refine ax_aload_n dX6_told_87 rfl ?_
    refine ax_cviP0 dX6_told_88 ln_X6_told_246 (Nat.le_of_ble_eq_true rfl) (Or.inl rfl) (by omega) hM.1 rfl (s6_wetCells hN hM hK) ?_
    exact ax_iret dX6_told_91 rfl ⟨rfl, rfl⟩
  · refine ax_iload_n dX6_told_0 rfl ?_
    refine ax_tabI (tgt := 92) dX6_told_1 (by omega) (by omega) rfl (by decide) ?_
    refine ax_aload_n dX6_told_92 rfl ?_
    refine ax_iconst dX6_told_93 ?_
    refine ax_cviP1 dX6_told_94 ln_X6_told_222 (Nat.le_of_ble_eq_true rfl) (Or.inl rfl) (by omega) hM.1 rfl (s6_weightAt hN hM hK (sd := -1) (by omega)) ?_
    exact ax_iret dX6_told_97 rfl ⟨rfl, rfl⟩
  · refine ax_iload_n dX6_told_0 rfl ?_
    refine ax_tabI (tgt := 98) dX6_told_1 (by omega) (by omega) rfl (by decide) ?_
    refine ax_aload_n dX6_told_98 rfl ?_
    refine ax_iconst dX6_told_99 ?_
    refine ax_cviP1 dX6_told_100 ln_X6_told_222 (Nat.le_of_ble_eq_true rfl) (Or.inl rfl) (by omega) hM.1 rfl (s6_weightAt hN hM hK (sd := 1) (by omega)) ?_
    exact ax_iret dX6_told_103 rfl ⟨rfl, rfl⟩
  · refine ax_iload_n dX6_told_0 rfl ?_
    refine ax_tabI (tgt := 104) dX6_told_1 (by omega) (by omega) rfl (by decide) ?_
    refine ax_aload_n dX6_told_104 rfl ?_
    refine ax_cviP0 dX6_told_105 ln_X6_told_249 (Nat.le_of_ble_eq_true rfl) (Or.inl rfl) (by omega) hM.1 rfl (s6_balance hN hM hK) ?_
    exact ax_iret dX6_told_108 rfl ⟨rfl, rfl⟩
  · refine ax_iload_n dX6_told_0 rfl ?_
    refine ax_tabI (tgt := 109) dX6_told_1 (by omega) (by omega) rfl (by decide) ?_
    refine ax_aload_n dX6_told_109 rfl ?_
    refine ax_iconst dX6_told_110 ?_
    refine ax_cviP1 dX6_told_111 ln_X6_told_222 (Nat.le_of_ble_eq_true rfl) (Or.inl rfl) (by omega) hM.1 rfl (s6_weightAt hN hM hK (sd := -1) (by omega)) ?_
    refine ax_aload_n dX6_told_114 rfl ?_
    refine ax_iconst dX6_told_115 ?_
    refine ax_cviP1 dX6_told_116 ln_X6_told_222 (Nat.le_of_ble_eq_true rfl) (Or.inl rfl) (by omega) hM.1 rfl (s6_weightAt hN hM hK (sd := 0) (by omega)) ?_
    refine ax_iadd dX6_told_119 ?_
    refine ax_aload_n dX6_told_120 rfl ?_
    refine ax_iconst dX6_told_121 ?_
    refine ax_cviP1 dX6_told_122 ln_X6_told_222 (Nat.le_of_ble_eq_true rfl) (Or.inl rfl) (by omega) hM.1 rfl (s6_weightAt hN hM hK (sd := 1) (by omega)) ?_
    refine ax_iadd dX6_told_125 ?_
    exact ax_iret dX6_told_126 rfl ⟨rfl, rfl⟩
  · refine ax_iload_n dX6_told_0 rfl ?_
    refine ax_tabI (tgt := 127) dX6_told_1 (by omega) (by omega) rfl (by decide) ?_
    refine ax_aload_n dX6_told_127 rfl ?_
    refine ax_getf dX6_told_128 ck6 fl_X6_17 (by decide) (by omega) hM.1 rfl ?_
    refine ax_iconst dX6_told_131 ?_
    refine ax_ialr (j := (5)) (w := (K (5) : Int)) dX6_told_132 (by omega) hM.2 (by omega) (by omega) (by decide) rfl ?_
    exact ax_iret dX6_told_133 rfl ⟨rfl, rfl⟩
  · refine ax_iload_n dX6_told_0 rfl ?_
    refine ax_tabO (tgt := 134) dX6_told_1 (by omega) (by omega) (by decide) ?_
    refine ax_aload_n dX6_told_134 rfl ?_
    refine ax_cviP0 dX6_told_135 ln_X6_told_252 (Nat.le_of_ble_eq_true rfl) (Or.inl rfl) (by omega) hM.1 rfl (s6_wettest hN hM hK) ?_
    exact ax_iret dX6_told_138 rfl ⟨rfl, rfl⟩
theorem s6_toldCell (hN : 132 ≤ NC) (hM : MD h s K) (hK : KI K) {i w : Nat} (hi : i < 180) (hw : w ≤ 4) : Cl NC M_X6_toldCell [.ref 112, .int (I (i : Int)), .int (I (w : Int))] h (fun v h1 => v = .int (I (celN K i w)) ∧ h1 = h) := by
  rcases (by omega : w = 0 ∨ w = 1 ∨ w = 2 ∨ w = 3 ∨ w = 4) with rfl | rfl | rfl | rfl | rfl
  · refine ax_iload_n dX6_toldCell_0 rfl ?_
    refine ax_if_ne (tgt := 16) dX6_toldCell_1 (by decide) (by omega) (fun c1 => ?_) (fun c1 => ?_)
    · exfalso
      omega
    · refine ax_aload_n dX6_toldCell_4 rfl ?_
      refine ax_getf dX6_toldCell_5 ck6 fl_X6_17 (by decide) (by omega) hM.1 rfl ?_
      refine ax_bipush dX6_toldCell_8 (by decide) ?_
      refine ax_iload_n dX6_toldCell_10 rfl ?_
      refine ax_iadd dX6_toldCell_11 ?_
      refine ax_ialr (j := (74 + i)) (w := (K (74 + i) : Int)) dX6_toldCell_12 (by omega) hM.2 (by omega) (by omega) (by decide) rfl ?_
      refine ax_goto (tgt := 70) dX6_toldCell_13 (by decide) ?_
      exact ax_iret dX6_toldCell_70 rfl ⟨rfl, rfl⟩
  · refine ax_iload_n dX6_toldCell_0 rfl ?_
    refine ax_if_ne (tgt := 16) dX6_toldCell_1 (by decide) (by omega) (fun c1 => ?_) (fun c1 => ?_)
    · refine ax_iload_n dX6_toldCell_16 rfl ?_
      refine ax_iconst dX6_toldCell_17 ?_
      refine ax_icmp_ne (tgt := 34) dX6_toldCell_18 (by decide) (by omega) (by omega) (fun c18 => ?_) (fun c18 => ?_)
      · exfalso
        omega
      · refine ax_aload_n dX6_toldCell_21 rfl ?_
        refine ax_getf dX6_toldCell_22 ck6 fl_X6_17 (by decide) (by omega) hM.1 rfl ?_
        refine ax_sipush dX6_toldCell_25 (by decide) ?_
        refine ax_iload_n dX6_toldCell_28 rfl ?_
        refine ax_iadd dX6_toldCell_29 ?_
        refine ax_ialr (j := (254 + i)) (w := (K (254 + i) : Int)) dX6_toldCell_30 (by omega) hM.2 (by omega) (by omega) (by decide) rfl ?_
        refine ax_goto (tgt := 70) dX6_toldCell_31 (by decide) ?_
        exact ax_iret dX6_toldCell_70 rfl ⟨rfl, rfl⟩
    · exfalso
      omega
  · refine ax_iload_n dX6_toldCell_0 rfl ?_
    refine ax_if_ne (tgt := 16) dX6_toldCell_1 (by decide) (by omega) (fun c1 => ?_) (fun c1 => ?_)
    · refine ax_iload_n dX6_toldCell_16 rfl ?_
      refine ax_iconst dX6_toldCell_17 ?_
      refine ax_icmp_ne (tgt := 34) dX6_toldCell_18 (by decide) (by omega) (by omega) (fun c18 => ?_) (fun c18 => ?_)
      · refine ax_iload_n dX6_toldCell_34 rfl ?_
        refine ax_iconst dX6_toldCell_35 ?_
        refine ax_icmp_ne (tgt := 52) dX6_toldCell_36 (by decide) (by omega) (by omega) (fun c36 => ?_) (fun c36 => ?_)
        · exfalso
          omega
        · refine ax_aload_n dX6_toldCell_39 rfl ?_
          refine ax_getf dX6_toldCell_40 ck6 fl_X6_17 (by decide) (by omega) hM.1 rfl ?_
          refine ax_sipush dX6_toldCell_43 (by decide) ?_
          refine ax_iload_n dX6_toldCell_46 rfl ?_
          refine ax_iadd dX6_toldCell_47 ?_
          refine ax_ialr (j := (434 + i)) (w := (K (434 + i) : Int)) dX6_toldCell_48 (by omega) hM.2 (by omega) (by omega) (by decide) rfl ?_
          refine ax_goto (tgt := 70) dX6_toldCell_49 (by decide) ?_
          exact ax_iret dX6_toldCell_70 rfl ⟨rfl, rfl⟩
      · exfalso
        omega
    · exfalso
      omega
  · refine ax_iload_n dX6_toldCell_0 rfl ?_
    refine ax_if_ne (tgt := 16) dX6_toldCell_1 (by decide) (by omega) (fun c1 => ?_) (fun c1 => ?_)
    · refine ax_iload_n dX6_toldCell_16 rfl ?_
      refine ax_iconst dX6_toldCell_17 ?_
      refine ax_icmp_ne (tgt := 34) dX6_toldCell_18 (by decide) (by omega) (by omega) (fun c18 => ?_) (fun c18 => ?_)
      · refine ax_iload_n dX6_toldCell_34 rfl ?_
        refine ax_iconst dX6_toldCell_35 ?_
        refine ax_icmp_ne (tgt := 52) dX6_toldCell_36 (by decide) (by omega) (by omega) (fun c36 => ?_) (fun c36 => ?_)
        · refine ax_iload_n dX6_toldCell_52 rfl ?_
          refine ax_iconst dX6_toldCell_53 ?_
          refine ax_icmp_ne (tgt := 65) dX6_toldCell_54 (by decide) (by omega) (by omega) (fun c54 => ?_) (fun c54 => ?_)
          · exfalso
            omega
          · refine ax_aload_n dX6_toldCell_57 rfl ?_
            refine ax_iload_n dX6_toldCell_58 rfl ?_
            refine ax_cviP1 dX6_toldCell_59 ln_X6_toldCell_219 (Nat.le_of_ble_eq_true rfl) (Or.inl rfl) (by omega) hM.1 rfl (s6_weightOf hN hM hK hi) ?_
            refine ax_goto (tgt := 70) dX6_toldCell_62 (by decide) ?_
            exact ax_iret dX6_toldCell_70 rfl ⟨rfl, rfl⟩
        · exfalso
          omega
      · exfalso
        omega
    · exfalso
      omega
  · refine ax_iload_n dX6_toldCell_0 rfl ?_
    refine ax_if_ne (tgt := 16) dX6_toldCell_1 (by decide) (by omega) (fun c1 => ?_) (fun c1 => ?_)
    · refine ax_iload_n dX6_toldCell_16 rfl ?_
      refine ax_iconst dX6_toldCell_17 ?_
      refine ax_icmp_ne (tgt := 34) dX6_toldCell_18 (by decide) (by omega) (by omega) (fun c18 => ?_) (fun c18 => ?_)
      · refine ax_iload_n dX6_toldCell_34 rfl ?_
        refine ax_iconst dX6_toldCell_35 ?_
        refine ax_icmp_ne (tgt := 52) dX6_toldCell_36 (by decide) (by omega) (by omega) (fun c36 => ?_) (fun c36 => ?_)
        · refine ax_iload_n dX6_toldCell_52 rfl ?_
          refine ax_iconst dX6_toldCell_53 ?_
          refine ax_icmp_ne (tgt := 65) dX6_toldCell_54 (by decide) (by omega) (by omega) (fun c54 => ?_) (fun c54 => ?_)
          · refine ax_aload_n dX6_toldCell_65 rfl ?_
            refine ax_iload_n dX6_toldCell_66 rfl ?_
            refine ax_cviP1 dX6_toldCell_67 ln_X6_toldCell_237 (Nat.le_of_ble_eq_true rfl) (Or.inl rfl) (by omega) hM.1 rfl (s6_mirrorOf hN hM hK hi) ?_
            exact ax_iret dX6_toldCell_70 rfl ⟨rfl, rfl⟩
          · exfalso
            omega
        · exfalso
          omega
      · exfalso
        omega
    · exfalso
      omega
theorem s6_ofPattern (hN : 132 ≤ NC) (hM : MD h s K) (hK : KI K) {p w : Nat} (hp : p < 3) (hw : w < 44) : Cl NC M_X6_ofPattern [.ref 112, .int (I (p : Int)), .int (I (w : Int))] h (fun v h1 => v = .int (I (K (614 + 44 * p + w) : Int)) ∧ h1 = h) := by
  refine ax_aload_n dX6_ofPattern_0 rfl ?_
  refine ax_getf dX6_ofPattern_1 ck6 fl_X6_17 (by decide) (by omega) hM.1 rfl ?_
  refine ax_sipush dX6_ofPattern_4 (by decide) ?_
  refine ax_bipush dX6_ofPattern_7 (by decide) ?_
  refine ax_iload_n dX6_ofPattern_9 rfl ?_
  refine ax_imul dX6_ofPattern_10 ?_
  refine ax_iadd dX6_ofPattern_11 ?_
  refine ax_iload_n dX6_ofPattern_12 rfl ?_
  refine ax_iadd dX6_ofPattern_13 ?_
  refine ax_ialr (j := (614 + 44 * p + w)) (w := (K (614 + 44 * p + w) : Int)) dX6_ofPattern_14 (by omega) hM.2 (by omega) (by omega) (by decide) rfl ?_
  exact ax_iret dX6_ofPattern_15 rfl ⟨rfl, rfl⟩
theorem s6_digitAt (hN : 132 ≤ NC) (hM : MD h s K) (hK : KI K) {p l d : Nat} (hp : p < 3) (hl : l < 6) (hd : d < 7) : Cl NC M_X6_digitAt [.ref 112, .int (I (p : Int)), .int (I (l : Int)), .int (I (d : Int))] h (fun v h1 => v = .int (I (K (616 + 44 * p + (7 * l + d)) : Int)) ∧ h1 = h) := by
  refine ax_aload_n dX6_digitAt_0 rfl ?_
  refine ax_getf dX6_digitAt_1 ck6 fl_X6_17 (by decide) (by omega) hM.1 rfl ?_
  refine ax_sipush dX6_digitAt_4 (by decide) ?_
  refine ax_bipush dX6_digitAt_7 (by decide) ?_
  refine ax_iload_n dX6_digitAt_9 rfl ?_
  refine ax_imul dX6_digitAt_10 ?_
  refine ax_iadd dX6_digitAt_11 ?_
  refine ax_iconst dX6_digitAt_12 ?_
  refine ax_iadd dX6_digitAt_13 ?_
  refine ax_bipush dX6_digitAt_14 (by decide) ?_
  refine ax_iload_n dX6_digitAt_16 rfl ?_
  refine ax_imul dX6_digitAt_17 ?_
  refine ax_iadd dX6_digitAt_18 ?_
  refine ax_iload_n dX6_digitAt_19 rfl ?_
  refine ax_iadd dX6_digitAt_20 ?_
  refine ax_ialr (j := (616 + 44 * p + (7 * l + d))) (w := (K (616 + 44 * p + (7 * l + d)) : Int)) dX6_digitAt_21 (by omega) hM.2 (by omega) (by omega) (by decide) rfl ?_
  exact ax_iret dX6_digitAt_22 rfl ⟨rfl, rfl⟩
theorem s6_noPatternF (hN : 132 ≤ NC) (hM : MD h s K) (hK : KI K) (g0 : s 0 = 0) {a : Int} (ga : -2147483648 ≤ a ∧ a < 2147483648) (ha : 0 ≤ a ∧ a < (K 5 : Int)) : Cl NC M_X6_noPattern [.ref 112, .int (I a)] h (fun v h1 => v = .int (I 0) ∧ h1 = h) := by
  refine ax_aload_n dX6_noPattern_0 rfl ?_
  refine ax_iload_n dX6_noPattern_1 rfl ?_
  refine ax_iconst dX6_noPattern_2 ?_
  refine ax_aload_n dX6_noPattern_3 rfl ?_
  refine ax_getf dX6_noPattern_4 ck6 fl_X6_17 (by decide) (by omega) hM.1 rfl ?_
  refine ax_iconst dX6_noPattern_7 ?_
  refine ax_ialr (j := (5)) (w := (K (5) : Int)) dX6_noPattern_8 (by omega) hM.2 (by omega) (by omega) (by decide) rfl ?_
  refine ax_iconst dX6_noPattern_9 ?_
  refine ax_isub dX6_noPattern_10 ?_
  refine ax_csiP3 dX6_noPattern_11 ln_X6_noPattern_54 (Nat.le_of_ble_eq_true rfl) (Or.inr rfl) (s6_in ga (by omega) (by have := hK.1; omega)) ?_
  refine ax_if_ne (tgt := 21) dX6_noPattern_14 (by decide) (by split <;> omega) (fun c14 => ?_) (fun c14 => ?_)
  · refine ax_iconst dX6_noPattern_21 ?_
    refine ax_iconst dX6_noPattern_22 ?_
    refine ax_cviP2 dX6_noPattern_23 ln_X6_noPattern_173 (Nat.le_of_ble_eq_true rfl) (Or.inr rfl) (by omega) hM.1 rfl (s6_failsF hN hM.1 g0) ?_
    exact ax_zret dX6_noPattern_26 rfl (by first | exact Or.inl rfl | exact Or.inr rfl) ⟨rfl, rfl⟩
  · exfalso
    rw [if_pos (by omega)] at c14
    exact absurd c14 (by decide)
theorem s6_noPatternT (hN : 132 ≤ NC) (hM : MD h s K) (hK : KI K) (g0 : s 0 = 0) {a : Int} (ga : -2147483648 ≤ a ∧ a < 2147483648) (ha : ¬ (0 ≤ a ∧ a < (K 5 : Int))) : Cl NC M_X6_noPattern [.ref 112, .int (I a)] h (fun v h1 => v = .int (I 1) ∧ MD h1 (upZ s 0 1) K ∧ Y2 h h1) := by
  refine ax_aload_n dX6_noPattern_0 rfl ?_
  refine ax_iload_n dX6_noPattern_1 rfl ?_
  refine ax_iconst dX6_noPattern_2 ?_
  refine ax_aload_n dX6_noPattern_3 rfl ?_
  refine ax_getf dX6_noPattern_4 ck6 fl_X6_17 (by decide) (by omega) hM.1 rfl ?_
  refine ax_iconst dX6_noPattern_7 ?_
  refine ax_ialr (j := (5)) (w := (K (5) : Int)) dX6_noPattern_8 (by omega) hM.2 (by omega) (by omega) (by decide) rfl ?_
  refine ax_iconst dX6_noPattern_9 ?_
  refine ax_isub dX6_noPattern_10 ?_
  refine ax_csiP3 dX6_noPattern_11 ln_X6_noPattern_54 (Nat.le_of_ble_eq_true rfl) (Or.inr rfl) (s6_in ga (by omega) (by have := hK.1; omega)) ?_
  refine ax_if_ne (tgt := 21) dX6_noPattern_14 (by decide) (by split <;> omega) (fun c14 => ?_) (fun c14 => ?_)
  · exfalso
    rw [if_neg (by omega)] at c14
    exact c14 rfl
  · refine ax_iconst dX6_noPattern_17 ?_
    refine ax_goto (tgt := 22) dX6_noPattern_18 (by decide) ?_
    refine ax_iconst dX6_noPattern_22 ?_
    refine ax_cvi2 dX6_noPattern_23 ln_X6_noPattern_173 (Nat.le_of_ble_eq_true rfl) (Or.inr rfl) (by omega) hM.1 rfl (s6_failsT hN hM.1 g0 (by decide)) (fun r g1 hq => ?_)
    obtain ⟨hv, hO1, y1⟩ := hq
    cases hv
    exact ax_zret dX6_noPattern_26 rfl (by first | exact Or.inl rfl | exact Or.inr rfl) ⟨rfl, ⟨hO1, hM.2.mv (y1 114 (by decide))⟩, y1⟩
theorem l6_pntD (hN : 132 ≤ NC) (hM : MD h s K) (hK : KI K) {p : Nat} (hp : p < 3) {l : Nat} (hl : l < 6) {a0 : Int} (kk : Ex NC none M_X6_painted 53 [.ref 112, .int (I (p : Int)), .int (I (a0 + si (pntL K p l) (K (614 + 44 * p)))), .int (I (l : Int)), .int (I (K (614 + 44 * p) : Int))] [] h Q) : ∀ (n : Nat) (dg : Nat) (acc : Int), dg + n = K (614 + 44 * p) → acc = a0 + si (pntL K p l) dg → Ex NC none M_X6_painted 17 [.ref 112, .int (I (p : Int)), .int (I (acc)), .int (I (l : Int)), .int (I (dg : Int))] [] h Q := by
  intro n
  induction n with
  | zero =>
    intro dg acc hd ha
    refine ax_iload dX6_painted_17 rfl ?_
    refine ax_aload_n dX6_painted_19 rfl ?_
    refine ax_iload_n dX6_painted_20 rfl ?_
    refine ax_iconst dX6_painted_21 ?_
    refine ax_cviP2 dX6_painted_22 ln_X6_painted_279 (Nat.le_of_ble_eq_true rfl) (Or.inl rfl) (by omega) hM.1 rfl (s6_ofPattern hN hM hK (p := p) (w := 0) hp (by omega)) ?_
    rw [show 614 + 44 * p + 0 = 614 + 44 * p from rfl]
    have po := hK.2.2.2.2.2.2.2.2 p hp
    refine ax_icmp_ge (tgt := 53) dX6_painted_25 (by decide) (by omega) (by omega) (fun c25 => ?_) (fun c25 => ?_)
    · have e : dg = K (614 + 44 * p) := by omega
      subst e
      rw [ha]
      exact kk
    · exfalso
      omega
  | succ n ih =>
    intro dg acc hd ha
    refine ax_iload dX6_painted_17 rfl ?_
    refine ax_aload_n dX6_painted_19 rfl ?_
    refine ax_iload_n dX6_painted_20 rfl ?_
    refine ax_iconst dX6_painted_21 ?_
    refine ax_cviP2 dX6_painted_22 ln_X6_painted_279 (Nat.le_of_ble_eq_true rfl) (Or.inl rfl) (by omega) hM.1 rfl (s6_ofPattern hN hM hK (p := p) (w := 0) hp (by omega)) ?_
    rw [show 614 + 44 * p + 0 = 614 + 44 * p from rfl]
    have po := hK.2.2.2.2.2.2.2.2 p hp
    refine ax_icmp_ge (tgt := 53) dX6_painted_25 (by decide) (by omega) (by omega) (fun c25 => ?_) (fun c25 => ?_)
    · exfalso
      omega
    · refine ax_iload_n dX6_painted_28 rfl ?_
      refine ax_aload_n dX6_painted_29 rfl ?_
      refine ax_iload_n dX6_painted_30 rfl ?_
      refine ax_iload_n dX6_painted_31 rfl ?_
      refine ax_iload dX6_painted_32 rfl ?_
      refine ax_cviP3 dX6_painted_34 ln_X6_painted_282 (Nat.le_of_ble_eq_true rfl) (Or.inl rfl) (by omega) hM.1 rfl (s6_digitAt hN hM hK (p := p) (l := l) (d := dg) hp hl (by have := (hK.2.2.2.2.2.2.2.2 p hp).1; omega)) ?_
      refine ax_if_le (tgt := 44) dX6_painted_37 (by decide) (by have := po.2.2 (7 * l + dg) (by omega); omega) (fun c37 => ?_) (fun c37 => ?_)
      · refine ax_iconst dX6_painted_44 ?_
        refine ax_iadd dX6_painted_45 ?_
        refine ax_istore_n dX6_painted_46 rfl (by decide) ?_
        refine ax_iinc dX6_painted_47 rfl rfl (by decide) ?_
        refine ax_goto (tgt := 17) dX6_painted_50 (by decide) ?_
        refine ih (dg + 1) _ (by omega) ?_
        rw [si_succ, ha]
        unfold pntL pcN
        first | rw [if_pos (by omega)] | rw [if_neg (by omega)]
        omega
      · refine ax_iconst dX6_painted_40 ?_
        refine ax_goto (tgt := 45) dX6_painted_41 (by decide) ?_
        refine ax_iadd dX6_painted_45 ?_
        refine ax_istore_n dX6_painted_46 rfl (by decide) ?_
        refine ax_iinc dX6_painted_47 rfl rfl (by decide) ?_
        refine ax_goto (tgt := 17) dX6_painted_50 (by decide) ?_
        refine ih (dg + 1) _ (by omega) ?_
        rw [si_succ, ha]
        unfold pntL pcN
        first | rw [if_pos (by omega)] | rw [if_neg (by omega)]
        omega
theorem l6_pntL (hN : 132 ≤ NC) (hM : MD h s K) (hK : KI K) {p : Nat} (hp : p < 3) (kk : ∀ w : Value, Ex NC none M_X6_painted 59 [.ref 112, .int (I (p : Int)), .int (I (pntC K p)), .int (I (K (615 + 44 * p) : Int)), w] [] h Q) : ∀ (n : Nat) (l : Nat) (acc : Int) (w : Value), l + n = K (615 + 44 * p) → acc = si (fun l => si (pntL K p l) (K (614 + 44 * p))) l → Ex NC none M_X6_painted 4 [.ref 112, .int (I (p : Int)), .int (I (acc)), .int (I (l : Int)), w] [] h Q := by
  intro n
  induction n with
  | zero =>
    intro l acc w hd ha
    refine ax_iload_n dX6_painted_4 rfl ?_
    refine ax_aload_n dX6_painted_5 rfl ?_
    refine ax_iload_n dX6_painted_6 rfl ?_
    refine ax_iconst dX6_painted_7 ?_
    refine ax_cviP2 dX6_painted_8 ln_X6_painted_279 (Nat.le_of_ble_eq_true rfl) (Or.inl rfl) (by omega) hM.1 rfl (s6_ofPattern hN hM hK (p := p) (w := 1) hp (by omega)) ?_
    rw [show 614 + 44 * p + 1 = 615 + 44 * p by omega]
    have po := hK.2.2.2.2.2.2.2.2 p hp
    refine ax_icmp_ge (tgt := 59) dX6_painted_11 (by decide) (by omega) (by omega) (fun c11 => ?_) (fun c11 => ?_)
    · have e : l = K (615 + 44 * p) := by omega
      subst e
      rw [ha]
      exact kk w
    · exfalso
      omega
  | succ n ih =>
    intro l acc w hd ha
    refine ax_iload_n dX6_painted_4 rfl ?_
    refine ax_aload_n dX6_painted_5 rfl ?_
    refine ax_iload_n dX6_painted_6 rfl ?_
    refine ax_iconst dX6_painted_7 ?_
    refine ax_cviP2 dX6_painted_8 ln_X6_painted_279 (Nat.le_of_ble_eq_true rfl) (Or.inl rfl) (by omega) hM.1 rfl (s6_ofPattern hN hM hK (p := p) (w := 1) hp (by omega)) ?_
    rw [show 614 + 44 * p + 1 = 615 + 44 * p by omega]
    have po := hK.2.2.2.2.2.2.2.2 p hp
    refine ax_icmp_ge (tgt := 59) dX6_painted_11 (by decide) (by omega) (by omega) (fun c11 => ?_) (fun c11 => ?_)
    · exfalso
      omega
    · refine ax_iconst dX6_painted_14 ?_
      refine ax_istore dX6_painted_15 rfl (by decide) ?_
      refine l6_pntD hN hM hK hp (l := l) (by omega) (a0 := acc) ?_ (K (614 + 44 * p)) 0 acc (by omega) (by show acc = acc + 0; omega)
      refine ax_iinc dX6_painted_53 rfl rfl (by decide) ?_
      refine ax_goto (tgt := 4) dX6_painted_56 (by decide) ?_
      exact ih (l + 1) _ _ (by omega) (by rw [si_succ, ha])
theorem s6_painted (hN : 132 ≤ NC) (hM : MD h s K) (hK : KI K) {p : Nat} (hp : p < 3) : Cl NC M_X6_painted [.ref 112, .int (I (p : Int))] h (fun v h1 => v = .int (I (pntC K p)) ∧ h1 = h) := by
  refine ax_iconst dX6_painted_0 ?_
  refine ax_istore_n dX6_painted_1 rfl (by decide) ?_
  refine ax_iconst dX6_painted_2 ?_
  refine ax_istore_n dX6_painted_3 rfl (by decide) ?_
  refine l6_pntL hN hM hK hp (fun w => ?_) (K (615 + 44 * p)) 0 0 .null (by omega) rfl
  refine ax_iload_n dX6_painted_59 rfl ?_
  exact ax_iret dX6_painted_60 rfl ⟨rfl, rfl⟩
theorem s6_state (hN : 132 ≤ NC) (hM : MD h s K) (hK : KI K) {w : Nat} (hw : w ≤ 12) : Cl NC M_X6_state [.ref 112, .int (I (w : Int))] h (fun v h1 => v = .int (I (stN K w)) ∧ MD h1 (upZ s 0 0) K ∧ Y2 h h1) := by
  refine ax_aload_n dX6_state_0 rfl ?_
  refine ax_iconst dX6_state_1 ?_
  refine ax_putf dX6_state_2 ck6 fl_X6_51 (by decide) (by omega) hM.1 rfl (Or.inl rfl) (Nat.le_of_ble_eq_true rfl) rfl ?_
  generalize hg0 : va_up h 112 _ = g0
  have hM0 : MD g0 (upZ s 0 0) K := by rw [← hg0]; exact hM.s0
  have y0 : Y2 h g0 := fun a ha => by rw [← hg0]; exact vu_ne ha
  have z0 : upZ s 0 0 0 = 0 := rfl
  refine ax_aload_n dX6_state_5 rfl ?_
  refine ax_iload_n dX6_state_6 rfl ?_
  refine ax_iconst dX6_state_7 ?_
  refine ax_bipush dX6_state_8 (by decide) ?_
  refine ax_csiP3 dX6_state_10 ln_X6_state_54 (Nat.le_of_ble_eq_true rfl) (Or.inr rfl) (s6_in (by omega) (by omega) (by omega)) ?_
  refine ax_if_ne (tgt := 20) dX6_state_13 (by decide) (by split <;> omega) (fun c13 => ?_) (fun c13 => ?_)
  · refine ax_iconst dX6_state_20 ?_
    refine ax_iconst dX6_state_21 ?_
    refine ax_cviP2 dX6_state_22 ln_X6_state_173 (Nat.le_of_ble_eq_true rfl) (Or.inr rfl) (by omega) hM0.1 rfl (s6_failsF hN hM0.1 z0) ?_
    refine ax_if_eq (tgt := 32) dX6_state_25 (by decide) (by omega) (fun c25 => ?_) (fun c25 => ?_)
    · refine ax_aload_n dX6_state_32 rfl ?_
      refine ax_iload_n dX6_state_33 rfl ?_
      refine ax_cviP1 dX6_state_34 ln_X6_state_255 (Nat.le_of_ble_eq_true rfl) (Or.inl rfl) (by omega) hM0.1 rfl (s6_told hN hM0 hK hw) ?_
      exact ax_iret dX6_state_37 rfl ⟨rfl, hM0, y0⟩
    · exfalso
      omega
  · exfalso
    rw [if_pos (by omega)] at c13
    first | exact absurd c13 (by decide) | exact c13 rfl
theorem s6_stateT (hN : 132 ≤ NC) (hM : MD h s K) (hK : KI K) {a : Int} (ga : -2147483648 ≤ a ∧ a < 2147483648) (ha : ¬ (0 ≤ a ∧ a ≤ 12)) : Cl NC M_X6_state [.ref 112, .int (I a)] h (fun v h1 => v = .int (I (0)) ∧ MD h1 (upZ s 0 1) K ∧ Y2 h h1) := by
  refine ax_aload_n dX6_state_0 rfl ?_
  refine ax_iconst dX6_state_1 ?_
  refine ax_putf dX6_state_2 ck6 fl_X6_51 (by decide) (by omega) hM.1 rfl (Or.inl rfl) (Nat.le_of_ble_eq_true rfl) rfl ?_
  generalize hg0 : va_up h 112 _ = g0
  have hM0 : MD g0 (upZ s 0 0) K := by rw [← hg0]; exact hM.s0
  have y0 : Y2 h g0 := fun a ha => by rw [← hg0]; exact vu_ne ha
  have z0 : upZ s 0 0 0 = 0 := rfl
  refine ax_aload_n dX6_state_5 rfl ?_
  refine ax_iload_n dX6_state_6 rfl ?_
  refine ax_iconst dX6_state_7 ?_
  refine ax_bipush dX6_state_8 (by decide) ?_
  refine ax_csiP3 dX6_state_10 ln_X6_state_54 (Nat.le_of_ble_eq_true rfl) (Or.inr rfl) (s6_in ga (by omega) (by omega)) ?_
  refine ax_if_ne (tgt := 20) dX6_state_13 (by decide) (by split <;> omega) (fun c13 => ?_) (fun c13 => ?_)
  · exfalso
    rw [if_neg ha] at c13
    first | exact absurd c13 (by decide) | exact c13 rfl
  · refine ax_iconst dX6_state_16 ?_
    refine ax_goto (tgt := 21) dX6_state_17 (by decide) ?_
    refine ax_iconst dX6_state_21 ?_
    refine ax_cvi2 dX6_state_22 ln_X6_state_173 (Nat.le_of_ble_eq_true rfl) (Or.inr rfl) (by omega) hM0.1 rfl (s6_failsT hN hM0.1 z0 (by decide)) (fun r g1 hq => ?_)
    obtain ⟨hv, hO1, y1⟩ := hq
    cases hv
    have hM1 : MD g1 (upZ (upZ s 0 0) 0 1) K := ⟨hO1, hM0.2.mv (y1 114 (by decide))⟩
    refine ax_if_eq (tgt := 32) dX6_state_25 (by decide) (by omega) (fun c25 => ?_) (fun c25 => ?_)
    · exfalso
      omega
    · refine ax_iconst dX6_state_28 ?_
      refine ax_goto (tgt := 37) dX6_state_29 (by decide) ?_
      exact ax_iret dX6_state_37 rfl ⟨rfl, (by rw [show upZ (upZ s 0 0) 0 1 = upZ s 0 1 from funext fun j => by unfold upZ; split <;> rfl] at hM1; exact hM1), y0.tr y1⟩
theorem s6_cell (hN : 132 ≤ NC) (hM : MD h s K) (hK : KI K) {x : Int} (gx : -2147483648 ≤ x ∧ x < 2147483648) {y : Int} (gy : -2147483648 ≤ y ∧ y < 2147483648) {w : Nat} (hw : w ≤ 4) (ho : onZ K x y = true) : Cl NC M_X6_cell [.ref 112, .int (I x), .int (I y), .int (I (w : Int))] h (fun v h1 => v = .int (I (celN K (y.toNat * K 0 + x.toNat) w)) ∧ MD h1 (upZ s 0 0) K ∧ Y2 h h1) := by
  obtain ⟨u, v, rfl, rfl, hu, hv, hl, n0, -⟩ := onZ_nat hK ho
  have ed : ((v : Int) * (K 0 : Int) + (u : Int)) = ((v * K 0 + u : Nat) : Int) := by push_cast; omega
  have hon : on K (v * K 0 + u) = true := by rw [on_at hu]; exact ho
  refine ax_aload_n dX6_cell_0 rfl ?_
  refine ax_iconst dX6_cell_1 ?_
  refine ax_putf dX6_cell_2 ck6 fl_X6_51 (by decide) (by omega) hM.1 rfl (Or.inl rfl) (Nat.le_of_ble_eq_true rfl) rfl ?_
  generalize hg0 : va_up h 112 _ = g0
  have hM0 : MD g0 (upZ s 0 0) K := by rw [← hg0]; exact hM.s0
  have y0 : Y2 h g0 := fun a ha => by rw [← hg0]; exact vu_ne ha
  have z0 : upZ s 0 0 0 = 0 := rfl
  refine ax_aload_n dX6_cell_5 rfl ?_
  refine ax_iload_n dX6_cell_6 rfl ?_
  refine ax_iload_n dX6_cell_7 rfl ?_
  refine ax_cviP2 dX6_cell_8 ln_X6_cell_258 (Nat.le_of_ble_eq_true rfl) (Or.inr rfl) (by omega) hM0.1 rfl (s6_noCellF hN hM0 hK z0 gx gy ho) ?_
  refine ax_if_ne (tgt := 36) dX6_cell_11 (by decide) (by omega) (fun c11 => ?_) (fun c11 => ?_)
  · exfalso
    omega
  · refine ax_aload_n dX6_cell_14 rfl ?_
    refine ax_iload_n dX6_cell_15 rfl ?_
    refine ax_iconst dX6_cell_16 ?_
    refine ax_iconst dX6_cell_17 ?_
    refine ax_csiP3 dX6_cell_18 ln_X6_cell_54 (Nat.le_of_ble_eq_true rfl) (Or.inr rfl) (s6_in (by omega) (by omega) (by omega)) ?_
    refine ax_if_ne (tgt := 28) dX6_cell_21 (by decide) (by split <;> omega) (fun c21 => ?_) (fun c21 => ?_)
    · refine ax_iconst dX6_cell_28 ?_
      refine ax_iconst dX6_cell_29 ?_
      refine ax_cviP2 dX6_cell_30 ln_X6_cell_173 (Nat.le_of_ble_eq_true rfl) (Or.inr rfl) (by omega) hM0.1 rfl (s6_failsF hN hM0.1 z0) ?_
      refine ax_if_eq (tgt := 40) dX6_cell_33 (by decide) (by omega) (fun c33 => ?_) (fun c33 => ?_)
      · refine ax_aload_n dX6_cell_40 rfl ?_
        refine ax_aload_n dX6_cell_41 rfl ?_
        refine ax_iload_n dX6_cell_42 rfl ?_
        refine ax_iload_n dX6_cell_43 rfl ?_
        refine ax_cviP2 dX6_cell_44 ln_X6_cell_261 (Nat.le_of_ble_eq_true rfl) (Or.inl rfl) (by omega) hM0.1 rfl (s6_at hN hM0) ?_
        rw [ed]
        refine ax_iload_n dX6_cell_47 rfl ?_
        refine ax_cviP2 dX6_cell_48 ln_X6_cell_264 (Nat.le_of_ble_eq_true rfl) (Or.inl rfl) (by omega) hM0.1 rfl (s6_toldCell hN hM0 hK (i := v * K 0 + u) (by omega) hw) ?_
        exact ax_iret dX6_cell_51 rfl ⟨rfl, hM0, y0⟩
      · exfalso
        omega
    · exfalso
      rw [if_pos (by omega)] at c21
      first | exact absurd c21 (by decide) | exact c21 rfl
theorem s6_cellT1 (hN : 132 ≤ NC) (hM : MD h s K) (hK : KI K) {x : Int} (gx : -2147483648 ≤ x ∧ x < 2147483648) {y : Int} (gy : -2147483648 ≤ y ∧ y < 2147483648) {z : Int} (ho : ¬ onZ K x y = true) : Cl NC M_X6_cell [.ref 112, .int (I x), .int (I y), .int (I z)] h (fun v h1 => v = .int (I (0)) ∧ MD h1 (upZ s 0 1) K ∧ Y2 h h1) := by
  refine ax_aload_n dX6_cell_0 rfl ?_
  refine ax_iconst dX6_cell_1 ?_
  refine ax_putf dX6_cell_2 ck6 fl_X6_51 (by decide) (by omega) hM.1 rfl (Or.inl rfl) (Nat.le_of_ble_eq_true rfl) rfl ?_
  generalize hg0 : va_up h 112 _ = g0
  have hM0 : MD g0 (upZ s 0 0) K := by rw [← hg0]; exact hM.s0
  have y0 : Y2 h g0 := fun a ha => by rw [← hg0]; exact vu_ne ha
  have z0 : upZ s 0 0 0 = 0 := rfl
  refine ax_aload_n dX6_cell_5 rfl ?_
  refine ax_iload_n dX6_cell_6 rfl ?_
  refine ax_iload_n dX6_cell_7 rfl ?_
  refine ax_cvi2 dX6_cell_8 ln_X6_cell_258 (Nat.le_of_ble_eq_true rfl) (Or.inr rfl) (by omega) hM0.1 rfl (s6_noCellT hN hM0 hK z0 gx gy ho) (fun r g1 hq => ?_)
  obtain ⟨hv, hM1, y1⟩ := hq
  cases hv
  refine ax_if_ne (tgt := 36) dX6_cell_11 (by decide) (by omega) (fun c11 => ?_) (fun c11 => ?_)
  · refine ax_iconst dX6_cell_36 ?_
    refine ax_goto (tgt := 51) dX6_cell_37 (by decide) ?_
    exact ax_iret dX6_cell_51 rfl ⟨rfl, (by rw [show upZ (upZ s 0 0) 0 1 = upZ s 0 1 from funext fun j => by unfold upZ; split <;> rfl] at hM1; exact hM1), y0.tr y1⟩
  · exfalso
    omega
theorem s6_cellT2 (hN : 132 ≤ NC) (hM : MD h s K) (hK : KI K) {x : Int} (gx : -2147483648 ≤ x ∧ x < 2147483648) {y : Int} (gy : -2147483648 ≤ y ∧ y < 2147483648) {z : Int} (gz : -2147483648 ≤ z ∧ z < 2147483648) (ho : onZ K x y = true) (hz : ¬ (0 ≤ z ∧ z ≤ 4)) : Cl NC M_X6_cell [.ref 112, .int (I x), .int (I y), .int (I z)] h (fun v h1 => v = .int (I (0)) ∧ MD h1 (upZ s 0 2) K ∧ Y2 h h1) := by
  refine ax_aload_n dX6_cell_0 rfl ?_
  refine ax_iconst dX6_cell_1 ?_
  refine ax_putf dX6_cell_2 ck6 fl_X6_51 (by decide) (by omega) hM.1 rfl (Or.inl rfl) (Nat.le_of_ble_eq_true rfl) rfl ?_
  generalize hg0 : va_up h 112 _ = g0
  have hM0 : MD g0 (upZ s 0 0) K := by rw [← hg0]; exact hM.s0
  have y0 : Y2 h g0 := fun a ha => by rw [← hg0]; exact vu_ne ha
  have z0 : upZ s 0 0 0 = 0 := rfl
  refine ax_aload_n dX6_cell_5 rfl ?_
  refine ax_iload_n dX6_cell_6 rfl ?_
  refine ax_iload_n dX6_cell_7 rfl ?_
  refine ax_cviP2 dX6_cell_8 ln_X6_cell_258 (Nat.le_of_ble_eq_true rfl) (Or.inr rfl) (by omega) hM0.1 rfl (s6_noCellF hN hM0 hK z0 gx gy ho) ?_
  refine ax_if_ne (tgt := 36) dX6_cell_11 (by decide) (by omega) (fun c11 => ?_) (fun c11 => ?_)
  · exfalso
    omega
  · refine ax_aload_n dX6_cell_14 rfl ?_
    refine ax_iload_n dX6_cell_15 rfl ?_
    refine ax_iconst dX6_cell_16 ?_
    refine ax_iconst dX6_cell_17 ?_
    refine ax_csiP3 dX6_cell_18 ln_X6_cell_54 (Nat.le_of_ble_eq_true rfl) (Or.inr rfl) (s6_in gz (by omega) (by omega)) ?_
    refine ax_if_ne (tgt := 28) dX6_cell_21 (by decide) (by split <;> omega) (fun c21 => ?_) (fun c21 => ?_)
    · exfalso
      rw [if_neg hz] at c21
      first | exact absurd c21 (by decide) | exact c21 rfl
    · refine ax_iconst dX6_cell_24 ?_
      refine ax_goto (tgt := 29) dX6_cell_25 (by decide) ?_
      refine ax_iconst dX6_cell_29 ?_
      refine ax_cvi2 dX6_cell_30 ln_X6_cell_173 (Nat.le_of_ble_eq_true rfl) (Or.inr rfl) (by omega) hM0.1 rfl (s6_failsT hN hM0.1 z0 (by decide)) (fun r g1 hq => ?_)
      obtain ⟨hv, hO1, y1⟩ := hq
      cases hv
      have hM1 : MD g1 (upZ (upZ s 0 0) 0 2) K := ⟨hO1, hM0.2.mv (y1 114 (by decide))⟩
      refine ax_if_eq (tgt := 40) dX6_cell_33 (by decide) (by omega) (fun c33 => ?_) (fun c33 => ?_)
      · exfalso
        omega
      · refine ax_iconst dX6_cell_36 ?_
        refine ax_goto (tgt := 51) dX6_cell_37 (by decide) ?_
        exact ax_iret dX6_cell_51 rfl ⟨rfl, (by rw [show upZ (upZ s 0 0) 0 2 = upZ s 0 2 from funext fun j => by unfold upZ; split <;> rfl] at hM1; exact hM1), y0.tr y1⟩
theorem s6_mix (hN : 132 ≤ NC) (hM : MD h s K) (hK : KI K) {a c : Nat} (ha : 1 ≤ a ∧ a ≤ 6) (hc : 1 ≤ c ∧ c ≤ 6) : Cl NC M_X6_mix [.ref 112, .int (I (a : Int)), .int (I (c : Int))] h (fun v h1 => v = .int (I ((mixN K a c : Int))) ∧ MD h1 (upZ s 0 0) K ∧ Y2 h h1) := by
  refine ax_aload_n dX6_mix_0 rfl ?_
  refine ax_iconst dX6_mix_1 ?_
  refine ax_putf dX6_mix_2 ck6 fl_X6_51 (by decide) (by omega) hM.1 rfl (Or.inl rfl) (Nat.le_of_ble_eq_true rfl) rfl ?_
  generalize hg0 : va_up h 112 _ = g0
  have hM0 : MD g0 (upZ s 0 0) K := by rw [← hg0]; exact hM.s0
  have y0 : Y2 h g0 := fun a ha => by rw [← hg0]; exact vu_ne ha
  have z0 : upZ s 0 0 0 = 0 := rfl
  refine ax_aload_n dX6_mix_5 rfl ?_
  refine ax_iload_n dX6_mix_6 rfl ?_
  refine ax_iconst dX6_mix_7 ?_
  refine ax_bipush dX6_mix_8 (by decide) ?_
  refine ax_csiP3 dX6_mix_10 ln_X6_mix_54 (Nat.le_of_ble_eq_true rfl) (Or.inr rfl) (s6_in (by omega) (by omega) (by omega)) ?_
  refine ax_if_eq (tgt := 26) dX6_mix_13 (by decide) (by split <;> omega) (fun c13 => ?_) (fun c13 => ?_)
  · exfalso
    rw [if_pos (by omega)] at c13
    first | exact absurd c13 (by decide) | exact c13 rfl
  · refine ax_iload_n dX6_mix_16 rfl ?_
    refine ax_iconst dX6_mix_17 ?_
    refine ax_bipush dX6_mix_18 (by decide) ?_
    refine ax_csiP3 dX6_mix_20 ln_X6_mix_54 (Nat.le_of_ble_eq_true rfl) (Or.inr rfl) (s6_in (by omega) (by omega) (by omega)) ?_
    refine ax_if_ne (tgt := 30) dX6_mix_23 (by decide) (by split <;> omega) (fun c23 => ?_) (fun c23 => ?_)
    · refine ax_iconst dX6_mix_30 ?_
      refine ax_iconst dX6_mix_31 ?_
      refine ax_cviP2 dX6_mix_32 ln_X6_mix_173 (Nat.le_of_ble_eq_true rfl) (Or.inr rfl) (by omega) hM0.1 rfl (s6_failsF hN hM0.1 z0) ?_
      refine ax_if_eq (tgt := 42) dX6_mix_35 (by decide) (by omega) (fun c35 => ?_) (fun c35 => ?_)
      · refine ax_aload_n dX6_mix_42 rfl ?_
        refine ax_iload_n dX6_mix_43 rfl ?_
        refine ax_iload_n dX6_mix_44 rfl ?_
        refine ax_cviP2 dX6_mix_45 ln_X6_mix_234 (Nat.le_of_ble_eq_true rfl) (Or.inl rfl) (by omega) hM0.1 rfl (s6_mixOf hN hM0 hK (by omega) (by omega)) ?_
        exact ax_iret dX6_mix_48 rfl ⟨rfl, hM0, y0⟩
      · exfalso
        omega
    · exfalso
      rw [if_pos (by omega)] at c23
      first | exact absurd c23 (by decide) | exact c23 rfl
theorem s6_mixT (hN : 132 ≤ NC) (hM : MD h s K) (hK : KI K) {a : Int} (ga : -2147483648 ≤ a ∧ a < 2147483648) {c : Int} (gc : -2147483648 ≤ c ∧ c < 2147483648) (hx : ¬ (1 ≤ a ∧ a ≤ 6 ∧ 1 ≤ c ∧ c ≤ 6)) : Cl NC M_X6_mix [.ref 112, .int (I a), .int (I c)] h (fun v h1 => v = .int (I (0)) ∧ MD h1 (upZ s 0 1) K ∧ Y2 h h1) := by
  refine ax_aload_n dX6_mix_0 rfl ?_
  refine ax_iconst dX6_mix_1 ?_
  refine ax_putf dX6_mix_2 ck6 fl_X6_51 (by decide) (by omega) hM.1 rfl (Or.inl rfl) (Nat.le_of_ble_eq_true rfl) rfl ?_
  generalize hg0 : va_up h 112 _ = g0
  have hM0 : MD g0 (upZ s 0 0) K := by rw [← hg0]; exact hM.s0
  have y0 : Y2 h g0 := fun a ha => by rw [← hg0]; exact vu_ne ha
  have z0 : upZ s 0 0 0 = 0 := rfl
  refine ax_aload_n dX6_mix_5 rfl ?_
  refine ax_iload_n dX6_mix_6 rfl ?_
  refine ax_iconst dX6_mix_7 ?_
  refine ax_bipush dX6_mix_8 (by decide) ?_
  refine ax_csiP3 dX6_mix_10 ln_X6_mix_54 (Nat.le_of_ble_eq_true rfl) (Or.inr rfl) (s6_in ga (by omega) (by omega)) ?_
  refine ax_if_eq (tgt := 26) dX6_mix_13 (by decide) (by split <;> omega) (fun c13 => ?_) (fun c13 => ?_)
  · refine ax_iconst dX6_mix_26 ?_
    refine ax_goto (tgt := 31) dX6_mix_27 (by decide) ?_
    refine ax_iconst dX6_mix_31 ?_
    refine ax_cvi2 dX6_mix_32 ln_X6_mix_173 (Nat.le_of_ble_eq_true rfl) (Or.inr rfl) (by omega) hM0.1 rfl (s6_failsT hN hM0.1 z0 (by decide)) (fun r g1 hq => ?_)
    obtain ⟨hv, hO1, y1⟩ := hq
    cases hv
    have hM1 : MD g1 (upZ (upZ s 0 0) 0 1) K := ⟨hO1, hM0.2.mv (y1 114 (by decide))⟩
    refine ax_if_eq (tgt := 42) dX6_mix_35 (by decide) (by omega) (fun c35 => ?_) (fun c35 => ?_)
    · exfalso
      omega
    · refine ax_iconst dX6_mix_38 ?_
      refine ax_goto (tgt := 48) dX6_mix_39 (by decide) ?_
      exact ax_iret dX6_mix_48 rfl ⟨rfl, (by rw [show upZ (upZ s 0 0) 0 1 = upZ s 0 1 from funext fun j => by unfold upZ; split <;> rfl] at hM1; exact hM1), y0.tr y1⟩
  · refine ax_iload_n dX6_mix_16 rfl ?_
    refine ax_iconst dX6_mix_17 ?_
    refine ax_bipush dX6_mix_18 (by decide) ?_
    refine ax_csiP3 dX6_mix_20 ln_X6_mix_54 (Nat.le_of_ble_eq_true rfl) (Or.inr rfl) (s6_in gc (by omega) (by omega)) ?_
    refine ax_if_ne (tgt := 30) dX6_mix_23 (by decide) (by split <;> omega) (fun c23 => ?_) (fun c23 => ?_)
    · exfalso
      split at c13 <;> split at c23 <;> omega
    · refine ax_iconst dX6_mix_26 ?_
      refine ax_goto (tgt := 31) dX6_mix_27 (by decide) ?_
      refine ax_iconst dX6_mix_31 ?_
      refine ax_cvi2 dX6_mix_32 ln_X6_mix_173 (Nat.le_of_ble_eq_true rfl) (Or.inr rfl) (by omega) hM0.1 rfl (s6_failsT hN hM0.1 z0 (by decide)) (fun r g1 hq => ?_)
      obtain ⟨hv, hO1, y1⟩ := hq
      cases hv
      have hM1 : MD g1 (upZ (upZ s 0 0) 0 1) K := ⟨hO1, hM0.2.mv (y1 114 (by decide))⟩
      refine ax_if_eq (tgt := 42) dX6_mix_35 (by decide) (by omega) (fun c35 => ?_) (fun c35 => ?_)
      · exfalso
        omega
      · refine ax_iconst dX6_mix_38 ?_
        refine ax_goto (tgt := 48) dX6_mix_39 (by decide) ?_
        exact ax_iret dX6_mix_48 rfl ⟨rfl, (by rw [show upZ (upZ s 0 0) 0 1 = upZ s 0 1 from funext fun j => by unfold upZ; split <;> rfl] at hM1; exact hM1), y0.tr y1⟩
theorem s6_pattern (hN : 132 ≤ NC) (hM : MD h s K) (hK : KI K) {p w : Nat} (hp : p < K 5) (hw : w ≤ 2) : Cl NC M_X6_pattern [.ref 112, .int (I (p : Int)), .int (I (w : Int))] h (fun v h1 => v = .int (I (ptnN K p w)) ∧ MD h1 (upZ s 0 0) K ∧ Y2 h h1) := by
  have k0 := hK.1
  rcases (by omega : w = 0 ∨ w = 1 ∨ w = 2) with rfl | rfl | rfl
  · refine ax_aload_n dX6_pattern_0 rfl ?_
    refine ax_iconst dX6_pattern_1 ?_
    refine ax_putf dX6_pattern_2 ck6 fl_X6_51 (by decide) (by omega) hM.1 rfl (Or.inl rfl) (Nat.le_of_ble_eq_true rfl) rfl ?_
    generalize hg0 : va_up h 112 _ = g0
    have hM0 : MD g0 (upZ s 0 0) K := by rw [← hg0]; exact hM.s0
    have y0 : Y2 h g0 := fun a ha => by rw [← hg0]; exact vu_ne ha
    have z0 : upZ s 0 0 0 = 0 := rfl
    refine ax_aload_n dX6_pattern_5 rfl ?_
    refine ax_iload_n dX6_pattern_6 rfl ?_
    refine ax_cviP1 dX6_pattern_7 ln_X6_pattern_286 (Nat.le_of_ble_eq_true rfl) (Or.inr rfl) (by omega) hM0.1 rfl (s6_noPatternF hN hM0 hK z0 (by omega) (by omega)) ?_
    refine ax_if_ne (tgt := 35) dX6_pattern_10 (by decide) (by omega) (fun c10 => ?_) (fun c10 => ?_)
    · exfalso
      omega
    · refine ax_aload_n dX6_pattern_13 rfl ?_
      refine ax_iload_n dX6_pattern_14 rfl ?_
      refine ax_iconst dX6_pattern_15 ?_
      refine ax_iconst dX6_pattern_16 ?_
      refine ax_csiP3 dX6_pattern_17 ln_X6_pattern_54 (Nat.le_of_ble_eq_true rfl) (Or.inr rfl) (s6_in (by omega) (by omega) (by omega)) ?_
      refine ax_if_ne (tgt := 27) dX6_pattern_20 (by decide) (by split <;> omega) (fun c20 => ?_) (fun c20 => ?_)
      · refine ax_iconst dX6_pattern_27 ?_
        refine ax_iconst dX6_pattern_28 ?_
        refine ax_cviP2 dX6_pattern_29 ln_X6_pattern_173 (Nat.le_of_ble_eq_true rfl) (Or.inr rfl) (by omega) hM0.1 rfl (s6_failsF hN hM0.1 z0) ?_
        refine ax_if_eq (tgt := 39) dX6_pattern_32 (by decide) (by omega) (fun c32 => ?_) (fun c32 => ?_)
        · refine ax_iload_n dX6_pattern_39 rfl ?_
          refine ax_iconst dX6_pattern_40 ?_
          refine ax_icmp_ne (tgt := 52) dX6_pattern_41 (by decide) (by omega) (by omega) (fun c41 => ?_) (fun c41 => ?_)
          · refine ax_aload_n dX6_pattern_52 rfl ?_
            refine ax_iload_n dX6_pattern_53 rfl ?_
            refine ax_iload_n dX6_pattern_54 rfl ?_
            refine ax_cviP2 dX6_pattern_55 ln_X6_pattern_279 (Nat.le_of_ble_eq_true rfl) (Or.inl rfl) (by omega) hM0.1 rfl (s6_ofPattern hN hM0 hK (p := p) (w := 0) (by omega) (by omega)) ?_
            exact ax_iret dX6_pattern_58 rfl ⟨rfl, hM0, y0⟩
          · exfalso
            omega
        · exfalso
          omega
      · exfalso
        rw [if_pos (by omega)] at c20
        first | exact absurd c20 (by decide) | exact c20 rfl
  · refine ax_aload_n dX6_pattern_0 rfl ?_
    refine ax_iconst dX6_pattern_1 ?_
    refine ax_putf dX6_pattern_2 ck6 fl_X6_51 (by decide) (by omega) hM.1 rfl (Or.inl rfl) (Nat.le_of_ble_eq_true rfl) rfl ?_
    generalize hg0 : va_up h 112 _ = g0
    have hM0 : MD g0 (upZ s 0 0) K := by rw [← hg0]; exact hM.s0
    have y0 : Y2 h g0 := fun a ha => by rw [← hg0]; exact vu_ne ha
    have z0 : upZ s 0 0 0 = 0 := rfl
    refine ax_aload_n dX6_pattern_5 rfl ?_
    refine ax_iload_n dX6_pattern_6 rfl ?_
    refine ax_cviP1 dX6_pattern_7 ln_X6_pattern_286 (Nat.le_of_ble_eq_true rfl) (Or.inr rfl) (by omega) hM0.1 rfl (s6_noPatternF hN hM0 hK z0 (by omega) (by omega)) ?_
    refine ax_if_ne (tgt := 35) dX6_pattern_10 (by decide) (by omega) (fun c10 => ?_) (fun c10 => ?_)
    · exfalso
      omega
    · refine ax_aload_n dX6_pattern_13 rfl ?_
      refine ax_iload_n dX6_pattern_14 rfl ?_
      refine ax_iconst dX6_pattern_15 ?_
      refine ax_iconst dX6_pattern_16 ?_
      refine ax_csiP3 dX6_pattern_17 ln_X6_pattern_54 (Nat.le_of_ble_eq_true rfl) (Or.inr rfl) (s6_in (by omega) (by omega) (by omega)) ?_
      refine ax_if_ne (tgt := 27) dX6_pattern_20 (by decide) (by split <;> omega) (fun c20 => ?_) (fun c20 => ?_)
      · refine ax_iconst dX6_pattern_27 ?_
        refine ax_iconst dX6_pattern_28 ?_
        refine ax_cviP2 dX6_pattern_29 ln_X6_pattern_173 (Nat.le_of_ble_eq_true rfl) (Or.inr rfl) (by omega) hM0.1 rfl (s6_failsF hN hM0.1 z0) ?_
        refine ax_if_eq (tgt := 39) dX6_pattern_32 (by decide) (by omega) (fun c32 => ?_) (fun c32 => ?_)
        · refine ax_iload_n dX6_pattern_39 rfl ?_
          refine ax_iconst dX6_pattern_40 ?_
          refine ax_icmp_ne (tgt := 52) dX6_pattern_41 (by decide) (by omega) (by omega) (fun c41 => ?_) (fun c41 => ?_)
          · refine ax_aload_n dX6_pattern_52 rfl ?_
            refine ax_iload_n dX6_pattern_53 rfl ?_
            refine ax_iload_n dX6_pattern_54 rfl ?_
            refine ax_cviP2 dX6_pattern_55 ln_X6_pattern_279 (Nat.le_of_ble_eq_true rfl) (Or.inl rfl) (by omega) hM0.1 rfl (s6_ofPattern hN hM0 hK (p := p) (w := 1) (by omega) (by omega)) ?_
            exact ax_iret dX6_pattern_58 rfl ⟨iq (by show (K (614 + 44 * p + 1) : Int) = (K (615 + 44 * p) : Int); rw [show 614 + 44 * p + 1 = 615 + 44 * p by omega]), hM0, y0⟩
          · exfalso
            omega
        · exfalso
          omega
      · exfalso
        rw [if_pos (by omega)] at c20
        first | exact absurd c20 (by decide) | exact c20 rfl
  · refine ax_aload_n dX6_pattern_0 rfl ?_
    refine ax_iconst dX6_pattern_1 ?_
    refine ax_putf dX6_pattern_2 ck6 fl_X6_51 (by decide) (by omega) hM.1 rfl (Or.inl rfl) (Nat.le_of_ble_eq_true rfl) rfl ?_
    generalize hg0 : va_up h 112 _ = g0
    have hM0 : MD g0 (upZ s 0 0) K := by rw [← hg0]; exact hM.s0
    have y0 : Y2 h g0 := fun a ha => by rw [← hg0]; exact vu_ne ha
    have z0 : upZ s 0 0 0 = 0 := rfl
    refine ax_aload_n dX6_pattern_5 rfl ?_
    refine ax_iload_n dX6_pattern_6 rfl ?_
    refine ax_cviP1 dX6_pattern_7 ln_X6_pattern_286 (Nat.le_of_ble_eq_true rfl) (Or.inr rfl) (by omega) hM0.1 rfl (s6_noPatternF hN hM0 hK z0 (by omega) (by omega)) ?_
    refine ax_if_ne (tgt := 35) dX6_pattern_10 (by decide) (by omega) (fun c10 => ?_) (fun c10 => ?_)
    · exfalso
      omega
    · refine ax_aload_n dX6_pattern_13 rfl ?_
      refine ax_iload_n dX6_pattern_14 rfl ?_
      refine ax_iconst dX6_pattern_15 ?_
      refine ax_iconst dX6_pattern_16 ?_
      refine ax_csiP3 dX6_pattern_17 ln_X6_pattern_54 (Nat.le_of_ble_eq_true rfl) (Or.inr rfl) (s6_in (by omega) (by omega) (by omega)) ?_
      refine ax_if_ne (tgt := 27) dX6_pattern_20 (by decide) (by split <;> omega) (fun c20 => ?_) (fun c20 => ?_)
      · refine ax_iconst dX6_pattern_27 ?_
        refine ax_iconst dX6_pattern_28 ?_
        refine ax_cviP2 dX6_pattern_29 ln_X6_pattern_173 (Nat.le_of_ble_eq_true rfl) (Or.inr rfl) (by omega) hM0.1 rfl (s6_failsF hN hM0.1 z0) ?_
        refine ax_if_eq (tgt := 39) dX6_pattern_32 (by decide) (by omega) (fun c32 => ?_) (fun c32 => ?_)
        · refine ax_iload_n dX6_pattern_39 rfl ?_
          refine ax_iconst dX6_pattern_40 ?_
          refine ax_icmp_ne (tgt := 52) dX6_pattern_41 (by decide) (by omega) (by omega) (fun c41 => ?_) (fun c41 => ?_)
          · exfalso
            omega
          · refine ax_aload_n dX6_pattern_44 rfl ?_
            refine ax_iload_n dX6_pattern_45 rfl ?_
            refine ax_cviP1 dX6_pattern_46 ln_X6_pattern_289 (Nat.le_of_ble_eq_true rfl) (Or.inl rfl) (by omega) hM0.1 rfl (s6_painted hN hM0 hK (p := p) (by omega)) ?_
            refine ax_goto (tgt := 58) dX6_pattern_49 (by decide) ?_
            exact ax_iret dX6_pattern_58 rfl ⟨rfl, hM0, y0⟩
        · exfalso
          omega
      · exfalso
        rw [if_pos (by omega)] at c20
        first | exact absurd c20 (by decide) | exact c20 rfl
theorem s6_patternT1 (hN : 132 ≤ NC) (hM : MD h s K) (hK : KI K) {a : Int} (ga : -2147483648 ≤ a ∧ a < 2147483648) {z : Int} (hx : ¬ (0 ≤ a ∧ a < (K 5 : Int))) : Cl NC M_X6_pattern [.ref 112, .int (I a), .int (I z)] h (fun v h1 => v = .int (I (0)) ∧ MD h1 (upZ s 0 1) K ∧ Y2 h h1) := by
  refine ax_aload_n dX6_pattern_0 rfl ?_
  refine ax_iconst dX6_pattern_1 ?_
  refine ax_putf dX6_pattern_2 ck6 fl_X6_51 (by decide) (by omega) hM.1 rfl (Or.inl rfl) (Nat.le_of_ble_eq_true rfl) rfl ?_
  generalize hg0 : va_up h 112 _ = g0
  have hM0 : MD g0 (upZ s 0 0) K := by rw [← hg0]; exact hM.s0
  have y0 : Y2 h g0 := fun a ha => by rw [← hg0]; exact vu_ne ha
  have z0 : upZ s 0 0 0 = 0 := rfl
  refine ax_aload_n dX6_pattern_5 rfl ?_
  refine ax_iload_n dX6_pattern_6 rfl ?_
  refine ax_cvi1 dX6_pattern_7 ln_X6_pattern_286 (Nat.le_of_ble_eq_true rfl) (Or.inr rfl) (by omega) hM0.1 rfl (s6_noPatternT hN hM0 hK z0 ga hx) (fun r g1 hq => ?_)
  obtain ⟨hv, hM1, y1⟩ := hq
  cases hv
  refine ax_if_ne (tgt := 35) dX6_pattern_10 (by decide) (by omega) (fun c10 => ?_) (fun c10 => ?_)
  · refine ax_iconst dX6_pattern_35 ?_
    refine ax_goto (tgt := 58) dX6_pattern_36 (by decide) ?_
    exact ax_iret dX6_pattern_58 rfl ⟨rfl, (by rw [show upZ (upZ s 0 0) 0 1 = upZ s 0 1 from funext fun j => by unfold upZ; split <;> rfl] at hM1; exact hM1), y0.tr y1⟩
  · exfalso
    omega
theorem s6_patternT2 (hN : 132 ≤ NC) (hM : MD h s K) (hK : KI K) {a : Int} (ga : -2147483648 ≤ a ∧ a < 2147483648) {z : Int} (gz : -2147483648 ≤ z ∧ z < 2147483648) (ha : 0 ≤ a ∧ a < (K 5 : Int)) (hz : ¬ (0 ≤ z ∧ z ≤ 2)) : Cl NC M_X6_pattern [.ref 112, .int (I a), .int (I z)] h (fun v h1 => v = .int (I (0)) ∧ MD h1 (upZ s 0 2) K ∧ Y2 h h1) := by
  refine ax_aload_n dX6_pattern_0 rfl ?_
  refine ax_iconst dX6_pattern_1 ?_
  refine ax_putf dX6_pattern_2 ck6 fl_X6_51 (by decide) (by omega) hM.1 rfl (Or.inl rfl) (Nat.le_of_ble_eq_true rfl) rfl ?_
  generalize hg0 : va_up h 112 _ = g0
  have hM0 : MD g0 (upZ s 0 0) K := by rw [← hg0]; exact hM.s0
  have y0 : Y2 h g0 := fun a ha => by rw [← hg0]; exact vu_ne ha
  have z0 : upZ s 0 0 0 = 0 := rfl
  refine ax_aload_n dX6_pattern_5 rfl ?_
  refine ax_iload_n dX6_pattern_6 rfl ?_
  refine ax_cviP1 dX6_pattern_7 ln_X6_pattern_286 (Nat.le_of_ble_eq_true rfl) (Or.inr rfl) (by omega) hM0.1 rfl (s6_noPatternF hN hM0 hK z0 ga ha) ?_
  refine ax_if_ne (tgt := 35) dX6_pattern_10 (by decide) (by omega) (fun c10 => ?_) (fun c10 => ?_)
  · exfalso
    omega
  · refine ax_aload_n dX6_pattern_13 rfl ?_
    refine ax_iload_n dX6_pattern_14 rfl ?_
    refine ax_iconst dX6_pattern_15 ?_
    refine ax_iconst dX6_pattern_16 ?_
    refine ax_csiP3 dX6_pattern_17 ln_X6_pattern_54 (Nat.le_of_ble_eq_true rfl) (Or.inr rfl) (s6_in gz (by omega) (by omega)) ?_
    refine ax_if_ne (tgt := 27) dX6_pattern_20 (by decide) (by split <;> omega) (fun c20 => ?_) (fun c20 => ?_)
    · exfalso
      rw [if_neg hz] at c20
      first | exact absurd c20 (by decide) | exact c20 rfl
    · refine ax_iconst dX6_pattern_23 ?_
      refine ax_goto (tgt := 28) dX6_pattern_24 (by decide) ?_
      refine ax_iconst dX6_pattern_28 ?_
      refine ax_cvi2 dX6_pattern_29 ln_X6_pattern_173 (Nat.le_of_ble_eq_true rfl) (Or.inr rfl) (by omega) hM0.1 rfl (s6_failsT hN hM0.1 z0 (by decide)) (fun r g1 hq => ?_)
      obtain ⟨hv, hO1, y1⟩ := hq
      cases hv
      have hM1 : MD g1 (upZ (upZ s 0 0) 0 2) K := ⟨hO1, hM0.2.mv (y1 114 (by decide))⟩
      refine ax_if_eq (tgt := 39) dX6_pattern_32 (by decide) (by omega) (fun c32 => ?_) (fun c32 => ?_)
      · exfalso
        omega
      · refine ax_iconst dX6_pattern_35 ?_
        refine ax_goto (tgt := 58) dX6_pattern_36 (by decide) ?_
        exact ax_iret dX6_pattern_58 rfl ⟨rfl, (by rw [show upZ (upZ s 0 0) 0 2 = upZ s 0 2 from funext fun j => by unfold upZ; split <;> rfl] at hM1; exact hM1), y0.tr y1⟩
theorem s6_covered (hN : 132 ≤ NC) (hM : MD h s K) (hK : KI K) (hnn : vf_n32 (covN K)) : Cl NC M_X6_covered [.ref 112] h (fun v h1 => v = .float (covN K) ∧ MD h1 (upZ s 0 0) K ∧ Y2 h h1) := by
  refine ax_aload_n dX6_covered_0 rfl ?_
  refine ax_iconst dX6_covered_1 ?_
  refine ax_putf dX6_covered_2 ck6 fl_X6_51 (by decide) (by omega) hM.1 rfl (Or.inl rfl) (Nat.le_of_ble_eq_true rfl) rfl ?_
  generalize hg0 : va_up h 112 _ = g0
  have hM0 : MD g0 (upZ s 0 0) K := by rw [← hg0]; exact hM.s0
  have y0 : Y2 h g0 := fun a ha => by rw [← hg0]; exact vu_ne ha
  have z0 : upZ s 0 0 0 = 0 := rfl
  refine ax_aload_n dX6_covered_5 rfl ?_
  refine ax_cviP0 dX6_covered_6 ln_X6_covered_189 (Nat.le_of_ble_eq_true rfl) (Or.inl rfl) (by omega) hM0.1 rfl (s6_sailCells hN hM0 hK) ?_
  refine ax_aload_n dX6_covered_9 rfl ?_
  refine ax_iconst dX6_covered_10 ?_
  refine ax_cviP1 dX6_covered_11 ln_X6_covered_243 (Nat.le_of_ble_eq_true rfl) (Or.inl rfl) (by omega) hM0.1 rfl (s6_countOf hN hM0 hK (k := 0) (by omega)) ?_
  refine ax_isub dX6_covered_14 ?_
  refine ex_i2f dX6_covered_15 ?_
  refine ax_aload_n dX6_covered_16 rfl ?_
  refine ax_cviP0 dX6_covered_17 ln_X6_covered_189 (Nat.le_of_ble_eq_true rfl) (Or.inl rfl) (by omega) hM0.1 rfl (s6_sailCells hN hM0 hK) ?_
  refine ex_i2f dX6_covered_20 ?_
  refine ex_fdiv hnn dX6_covered_21 ?_
  exact ex_fret dX6_covered_22 rfl ⟨rfl, hM0, y0⟩
theorem s6_errorOffset (hN : 132 ≤ NC) (hM : MD h s K) : Cl NC M_X6_errorOffset [.ref 112] h (fun v h1 => v = .int (I (s 7)) ∧ MD h1 (upZ s 0 0) K ∧ Y2 h h1) := by
  refine ax_aload_n dX6_errorOffset_0 rfl ?_
  refine ax_iconst dX6_errorOffset_1 ?_
  refine ax_putf dX6_errorOffset_2 ck6 fl_X6_51 (by decide) (by omega) hM.1 rfl (Or.inl rfl) (Nat.le_of_ble_eq_true rfl) rfl ?_
  generalize hg0 : va_up h 112 _ = g0
  have hM0 : MD g0 (upZ s 0 0) K := by rw [← hg0]; exact hM.s0
  have y0 : Y2 h g0 := fun a ha => by rw [← hg0]; exact vu_ne ha
  have z0 : upZ s 0 0 0 = 0 := rfl
  refine ax_aload_n dX6_errorOffset_5 rfl ?_
  refine ax_getf dX6_errorOffset_6 ck6 fl_X6_13 (by decide) (by omega) hM0.1 rfl ?_
  exact ax_iret dX6_errorOffset_9 rfl ⟨rfl, hM0, y0⟩
theorem s6_thrown (hN : 132 ≤ NC) (hM : MD h s K) : Cl NC M_X6_thrown [.ref 112] h (fun v h1 => v = .int (I (s 0)) ∧ h1 = h) := by
  refine ax_aload_n dX6_thrown_0 rfl ?_
  refine ax_getf dX6_thrown_1 ck6 fl_X6_51 (by decide) (by omega) hM.1 rfl ?_
  exact ax_iret dX6_thrown_4 rfl ⟨rfl, rfl⟩
end MA
