/-! the sail of the class: its loops -/
theorem cfS_off {K : Nat → Nat} (hK : KI K) : ∀ i, i < 180 → nC K ≤ i → cfS K i = 0 := by
  intro i h1 h2
  rcases hK.2.2.2.2.2.2.2.1 i h1 with q | q
  · omega
  · unfold cfS; omega
theorem cfW_off {K : Nat → Nat} (hK : KI K) : ∀ i, i < 180 → nC K ≤ i → cfW K i = 0 := by
  intro i h1 h2
  rcases hK.2.2.2.2.2.2.2.1 i h1 with q | q
  · omega
  · unfold cfW; rw [if_neg (by omega)]
theorem cfO_off {K K' : Nat → Nat} (hK : KI K) (hK' : KI K') (e : nC K' = nC K) : ∀ i, i < 180 → nC K ≤ i → cfO K K' i = 0 := by
  intro i h1 h2
  rcases hK.2.2.2.2.2.2.2.1 i h1 with q | q
  · omega
  · rcases hK'.2.2.2.2.2.2.2.1 i h1 with q' | q'
    · omega
    · unfold cfO; rw [if_neg (by omega)]
theorem mx_skip {f : Nat → Nat} {a : Nat} : ∀ {b : Nat}, a ≤ b → (∀ k, a ≤ k → k < b → f k = 0) → mxN f b = mxN f a
  | 0, h, _ => by
    have : a = 0 := by omega
    subst this; rfl
  | b + 1, h, hz => by
    rcases Nat.lt_or_ge a (b + 1) with q | q
    · show max (mxN f b) (f b) = _
      rw [hz b (by omega) (by omega), mx_skip (b := b) (by omega) (fun k h1 h2 => hz k h1 (by omega))]
      omega
    · have : a = b + 1 := by omega
      subst this; rfl
theorem grt_180 {K : Nat → Nat} (hK : KI K) : mxN (fun i => K (254 + i)) 180 = grtW K := by
  refine mx_skip (nC_le hK) (fun k h1 h2 => ?_)
  rcases hK.2.2.2.2.2.2.2.1 k h2 with q | q
  · omega
  · exact q.2.1
theorem grt_le {K : Nat → Nat} (hK : KI K) : grtW K ≤ 9 := mx_le (fun i hi => hK.2.2.2.2.2.1 i (by have := nC_le hK; omega))
theorem si01 {f : Nat → Int} {n : Nat} (hn : n ≤ 180) (h : ∀ k, k < n → 0 ≤ f k ∧ f k ≤ 297) : 0 ≤ si f n ∧ si f n ≤ 60000 := by
  have := si_bd (c := 297) (by decide) h
  omega
section SM
variable {NC b : Nat} {h : hp} {K : Nat → Nat} {Q : qt}
theorem lp_cellsWithSpars (hS : SA NC h b K) (hK : KI K) (kk : ∀ w : Value, Ex NC none M_X3_cellsWithSpars 36 [.ref b, .int (I (sprC K)), .ref (b + 9), .int (I 180), .int (I 180), w] [] h Q) : ∀ (n : Nat) (i : Nat) (acc : Int) (w : Value), i + n = 180 → acc = si (cfS K) i → Ex NC none M_X3_cellsWithSpars 13 [.ref b, .int (I (acc : Int)), .ref (b + 9), .int (I 180), .int (I (i : Int)), w] [] h Q := by
  intro n
  induction n with
  | zero =>
    intro i acc w hi ha
    refine ax_iload dX3_cellsWithSpars_13 rfl ?_
    refine ax_iload_n dX3_cellsWithSpars_15 rfl ?_
    refine ax_icmp_ge (tgt := 36) dX3_cellsWithSpars_16 (by decide) (by omega) (by omega) (fun c16 => ?_) (fun c16 => ?_)
    · have e : i = 180 := by omega
      subst e
      rw [ha, si_all hK (cfS_off hK)]
      exact kk w
    · exfalso
      omega
  | succ n ih =>
    intro i acc w hi ha
    refine ax_iload dX3_cellsWithSpars_13 rfl ?_
    refine ax_iload_n dX3_cellsWithSpars_15 rfl ?_
    refine ax_icmp_ge (tgt := 36) dX3_cellsWithSpars_16 (by decide) (by omega) (by omega) (fun c16 => ?_) (fun c16 => ?_)
    · exfalso
      omega
    · refine ax_aload_n dX3_cellsWithSpars_19 rfl ?_
      refine ax_iload dX3_cellsWithSpars_20 rfl ?_
      refine ax_ialr (j := i) (w := (K (434 + i) : Int)) dX3_cellsWithSpars_22 (hS.n 9 (by omega)) hS.sp (by omega) (by omega) (by decide) rfl ?_
      refine ax_istore dX3_cellsWithSpars_23 rfl (by decide) ?_
      refine ax_iload_n dX3_cellsWithSpars_25 rfl ?_
      refine ax_iload dX3_cellsWithSpars_26 rfl ?_
      refine ax_iadd dX3_cellsWithSpars_28 ?_
      refine ax_istore_n dX3_cellsWithSpars_29 rfl (by decide) ?_
      refine ax_iinc dX3_cellsWithSpars_30 rfl rfl (by decide) ?_
      refine ax_goto (tgt := 13) dX3_cellsWithSpars_33 (by decide) ?_
      exact ih (i + 1) _ _ (by omega) (by rw [si_succ, ha]; rfl)
theorem lp_wetCells (hS : SA NC h b K) (hK : KI K) (kk : ∀ w : Value, Ex NC none M_X3_wetCells 44 [.ref b, .int (I (wetC K)), .ref (b + 8), .int (I 180), .int (I 180), w] [] h Q) : ∀ (n : Nat) (i : Nat) (acc : Int) (w : Value), i + n = 180 → acc = si (cfW K) i → Ex NC none M_X3_wetCells 13 [.ref b, .int (I (acc : Int)), .ref (b + 8), .int (I 180), .int (I (i : Int)), w] [] h Q := by
  intro n
  induction n with
  | zero =>
    intro i acc w hi ha
    refine ax_iload dX3_wetCells_13 rfl ?_
    refine ax_iload_n dX3_wetCells_15 rfl ?_
    refine ax_icmp_ge (tgt := 44) dX3_wetCells_16 (by decide) (by omega) (by omega) (fun c16 => ?_) (fun c16 => ?_)
    · have e : i = 180 := by omega
      subst e
      rw [ha, si_all hK (cfW_off hK)]
      exact kk w
    · exfalso
      omega
  | succ n ih =>
    intro i acc w hi ha
    refine ax_iload dX3_wetCells_13 rfl ?_
    refine ax_iload_n dX3_wetCells_15 rfl ?_
    refine ax_icmp_ge (tgt := 44) dX3_wetCells_16 (by decide) (by omega) (by omega) (fun c16 => ?_) (fun c16 => ?_)
    · exfalso
      omega
    · refine ax_aload_n dX3_wetCells_19 rfl ?_
      refine ax_iload dX3_wetCells_20 rfl ?_
      refine ax_ialr (j := i) (w := (K (254 + i) : Int)) dX3_wetCells_22 (hS.n 8 (by omega)) hS.we (by omega) (by omega) (by decide) rfl ?_
      refine ax_istore dX3_wetCells_23 rfl (by decide) ?_
      refine ax_iload_n dX3_wetCells_25 rfl ?_
      refine ax_iload dX3_wetCells_26 rfl ?_
      refine ax_if_le (tgt := 35) dX3_wetCells_28 (by decide) (by have := hK.2.2.2.2.2.1 i (by omega); omega) (fun c28 => ?_) (fun c28 => ?_)
      · refine ax_iconst dX3_wetCells_35 ?_
        refine ax_iadd dX3_wetCells_36 ?_
        refine ax_istore_n dX3_wetCells_37 rfl (by decide) ?_
        refine ax_iinc dX3_wetCells_38 rfl rfl (by decide) ?_
        refine ax_goto (tgt := 13) dX3_wetCells_41 (by decide) ?_
        refine ih (i + 1) _ _ (by omega) ?_
        rw [si_succ, ha]; congr 1; unfold cfW; first | rw [if_pos (by omega)] | rw [if_neg (by omega)]
      · refine ax_iconst dX3_wetCells_31 ?_
        refine ax_goto (tgt := 36) dX3_wetCells_32 (by decide) ?_
        refine ax_iadd dX3_wetCells_36 ?_
        refine ax_istore_n dX3_wetCells_37 rfl (by decide) ?_
        refine ax_iinc dX3_wetCells_38 rfl rfl (by decide) ?_
        refine ax_goto (tgt := 13) dX3_wetCells_41 (by decide) ?_
        refine ih (i + 1) _ _ (by omega) ?_
        rw [si_succ, ha]; congr 1; unfold cfW; first | rw [if_pos (by omega)] | rw [if_neg (by omega)]
theorem lp_greatestWetness (hS : SA NC h b K) (hK : KI K) (kk : ∀ w : Value, Ex NC none M_X3_greatestWetness 38 [.ref b, .int (I (grtW K)), .ref (b + 8), .int (I 180), .int (I 180), w] [] h Q) : ∀ (n : Nat) (i : Nat) (acc : Nat) (w : Value), i + n = 180 → acc = mxN (fun j => K (254 + j)) i → Ex NC none M_X3_greatestWetness 13 [.ref b, .int (I (acc : Int)), .ref (b + 8), .int (I 180), .int (I (i : Int)), w] [] h Q := by
  intro n
  induction n with
  | zero =>
    intro i acc w hi ha
    refine ax_iload dX3_greatestWetness_13 rfl ?_
    refine ax_iload_n dX3_greatestWetness_15 rfl ?_
    refine ax_icmp_ge (tgt := 38) dX3_greatestWetness_16 (by decide) (by omega) (by omega) (fun c16 => ?_) (fun c16 => ?_)
    · have e : i = 180 := by omega
      subst e
      rw [ha, grt_180 hK]
      exact kk w
    · exfalso
      omega
  | succ n ih =>
    intro i acc w hi ha
    refine ax_iload dX3_greatestWetness_13 rfl ?_
    refine ax_iload_n dX3_greatestWetness_15 rfl ?_
    refine ax_icmp_ge (tgt := 38) dX3_greatestWetness_16 (by decide) (by omega) (by omega) (fun c16 => ?_) (fun c16 => ?_)
    · exfalso
      omega
    · refine ax_aload_n dX3_greatestWetness_19 rfl ?_
      refine ax_iload dX3_greatestWetness_20 rfl ?_
      refine ax_ialr (j := i) (w := (K (254 + i) : Int)) dX3_greatestWetness_22 (hS.n 8 (by omega)) hS.we (by omega) (by omega) (by decide) rfl ?_
      refine ax_istore dX3_greatestWetness_23 rfl (by decide) ?_
      refine ax_iload_n dX3_greatestWetness_25 rfl ?_
      refine ax_iload dX3_greatestWetness_26 rfl ?_
      refine ex_l_max (by exact dX3_greatestWetness_28) (by decide) (show 2 ≤ _ ∧ 50 ≤ _ from ⟨by decide, by decide⟩) (Nat.le_of_ble_eq_true rfl) ?_
      have k9 := hK.2.2.2.2.2.1 i (by omega)
      have k8 : acc ≤ 9 := by rw [ha]; exact mx_le (fun j hj => hK.2.2.2.2.2.1 j (by omega))
      rw [max_I (by omega) (by omega), show max (acc : Int) (K (254 + i) : Int) = ((max acc (K (254 + i)) : Nat) : Int) by omega]
      refine ax_istore_n dX3_greatestWetness_31 rfl (by decide) ?_
      refine ax_iinc dX3_greatestWetness_32 rfl rfl (by decide) ?_
      refine ax_goto (tgt := 13) dX3_greatestWetness_35 (by decide) ?_
      refine ih (i + 1) (max acc (K (254 + i))) _ (by omega) ?_
      rw [ha]; rfl
theorem sp_cellsWithSpars (hS : SA NC h b K) (hK : KI K) : Cl NC M_X3_cellsWithSpars [.ref b] h (fun v h1 => v = .int (I (sprC K)) ∧ h1 = h) := by
  refine ax_iconst dX3_cellsWithSpars_0 ?_
  refine ax_istore_n dX3_cellsWithSpars_1 rfl (by decide) ?_
  refine ax_aload_n dX3_cellsWithSpars_2 rfl ?_
  refine ax_getf dX3_cellsWithSpars_3 ck3 fl_X3_36 (by decide) hS.n0 hS.o rfl ?_
  refine ax_astore_n dX3_cellsWithSpars_6 rfl (by decide) ?_
  refine ax_aload_n dX3_cellsWithSpars_7 rfl ?_
  refine ax_alnr dX3_cellsWithSpars_8 (hS.n 9 (by omega)) hS.sp (by decide) ?_
  refine ax_istore_n dX3_cellsWithSpars_9 rfl (by decide) ?_
  refine ax_iconst dX3_cellsWithSpars_10 ?_
  refine ax_istore dX3_cellsWithSpars_11 rfl (by decide) ?_
  refine lp_cellsWithSpars hS hK (fun w => ?_) 180 0 0 .null (by omega) rfl
  refine ax_iload_n dX3_cellsWithSpars_36 rfl ?_
  exact ax_iret dX3_cellsWithSpars_37 rfl ⟨rfl, rfl⟩
theorem sp_wetCells (hS : SA NC h b K) (hK : KI K) : Cl NC M_X3_wetCells [.ref b] h (fun v h1 => v = .int (I (wetC K)) ∧ h1 = h) := by
  refine ax_iconst dX3_wetCells_0 ?_
  refine ax_istore_n dX3_wetCells_1 rfl (by decide) ?_
  refine ax_aload_n dX3_wetCells_2 rfl ?_
  refine ax_getf dX3_wetCells_3 ck3 fl_X3_33 (by decide) hS.n0 hS.o rfl ?_
  refine ax_astore_n dX3_wetCells_6 rfl (by decide) ?_
  refine ax_aload_n dX3_wetCells_7 rfl ?_
  refine ax_alnr dX3_wetCells_8 (hS.n 8 (by omega)) hS.we (by decide) ?_
  refine ax_istore_n dX3_wetCells_9 rfl (by decide) ?_
  refine ax_iconst dX3_wetCells_10 ?_
  refine ax_istore dX3_wetCells_11 rfl (by decide) ?_
  refine lp_wetCells hS hK (fun w => ?_) 180 0 0 .null (by omega) rfl
  refine ax_iload_n dX3_wetCells_44 rfl ?_
  exact ax_iret dX3_wetCells_45 rfl ⟨rfl, rfl⟩
theorem sp_greatestWetness (hS : SA NC h b K) (hK : KI K) : Cl NC M_X3_greatestWetness [.ref b] h (fun v h1 => v = .int (I ((grtW K : Int))) ∧ h1 = h) := by
  refine ax_iconst dX3_greatestWetness_0 ?_
  refine ax_istore_n dX3_greatestWetness_1 rfl (by decide) ?_
  refine ax_aload_n dX3_greatestWetness_2 rfl ?_
  refine ax_getf dX3_greatestWetness_3 ck3 fl_X3_33 (by decide) hS.n0 hS.o rfl ?_
  refine ax_astore_n dX3_greatestWetness_6 rfl (by decide) ?_
  refine ax_aload_n dX3_greatestWetness_7 rfl ?_
  refine ax_alnr dX3_greatestWetness_8 (hS.n 8 (by omega)) hS.we (by decide) ?_
  refine ax_istore_n dX3_greatestWetness_9 rfl (by decide) ?_
  refine ax_iconst dX3_greatestWetness_10 ?_
  refine ax_istore dX3_greatestWetness_11 rfl (by decide) ?_
  refine lp_greatestWetness hS hK (fun w => ?_) 180 0 0 .null (by omega) rfl
  refine ax_iload_n dX3_greatestWetness_38 rfl ?_
  exact ax_iret dX3_greatestWetness_39 rfl ⟨rfl, rfl⟩
theorem lp_other (hS : SA NC h b K) (hK : KI K) {b2 : Nat} {K2 : Nat → Nat} (hS2 : SA NC h b2 K2) (hK2 : KI K2) (he : nC K2 = nC K) (kk : Ex NC none M_X3_cellsOfOtherColour 40 [.ref b, .ref b2, .int (I (othC K K2)), .int (I 180)] [] h Q) : ∀ (n : Nat) (i : Nat) (acc : Int), i + n = 180 → acc = si (cfO K K2) i → Ex NC none M_X3_cellsOfOtherColour 4 [.ref b, .ref b2, .int (I acc), .int (I (i : Int))] [] h Q := by
  intro n
  induction n with
  | zero =>
    intro i acc hi ha
    refine ax_iload_n dX3_cellsOfOtherColour_4 rfl ?_
    refine ax_sipush dX3_cellsOfOtherColour_5 (by decide) ?_
    refine ax_icmp_ge (tgt := 40) dX3_cellsOfOtherColour_8 (by decide) (by omega) (by omega) (fun c8 => ?_) (fun c8 => ?_)
    · have e : i = 180 := by omega
      subst e
      rw [ha, si_all hK (cfO_off hK hK2 he)]
      exact kk
    · exfalso
      omega
  | succ n ih =>
    intro i acc hi ha
    refine ax_iload_n dX3_cellsOfOtherColour_4 rfl ?_
    refine ax_sipush dX3_cellsOfOtherColour_5 (by decide) ?_
    refine ax_icmp_ge (tgt := 40) dX3_cellsOfOtherColour_8 (by decide) (by omega) (by omega) (fun c8 => ?_) (fun c8 => ?_)
    · exfalso
      omega
    · refine ax_iload_n dX3_cellsOfOtherColour_11 rfl ?_
      refine ax_aload_n dX3_cellsOfOtherColour_12 rfl ?_
      refine ax_getf dX3_cellsOfOtherColour_13 ck3 fl_X3_30 (by decide) hS.n0 hS.o rfl ?_
      refine ax_iload_n dX3_cellsOfOtherColour_16 rfl ?_
      refine ax_ialr (j := i) (w := (K (74 + i) : Int)) dX3_cellsOfOtherColour_17 (hS.n 7 (by omega)) hS.co (by omega) (by omega) (by decide) rfl ?_
      refine ax_aload_n dX3_cellsOfOtherColour_18 rfl ?_
      refine ax_getf dX3_cellsOfOtherColour_19 ck3 fl_X3_30 (by decide) hS2.n0 hS2.o rfl ?_
      refine ax_iload_n dX3_cellsOfOtherColour_22 rfl ?_
      refine ax_ialr (j := i) (w := (K2 (74 + i) : Int)) dX3_cellsOfOtherColour_23 (hS2.n 7 (by omega)) hS2.co (by omega) (by omega) (by decide) rfl ?_
      refine ax_icmp_eq (tgt := 31) dX3_cellsOfOtherColour_24 (by decide) (by have := hK.2.2.2.2.1 i (by omega); omega) (by have := hK2.2.2.2.2.1 i (by omega); omega) (fun c24 => ?_) (fun c24 => ?_)
      · refine ax_iconst dX3_cellsOfOtherColour_31 ?_
        refine ax_iadd dX3_cellsOfOtherColour_32 ?_
        refine ax_istore_n dX3_cellsOfOtherColour_33 rfl (by decide) ?_
        refine ax_iinc dX3_cellsOfOtherColour_34 rfl rfl (by decide) ?_
        refine ax_goto (tgt := 4) dX3_cellsOfOtherColour_37 (by decide) ?_
        refine ih (i + 1) _ (by omega) ?_
        rw [si_succ, ha]; congr 1; unfold cfO; first | rw [if_pos (by omega)] | rw [if_neg (by omega)]
      · refine ax_iconst dX3_cellsOfOtherColour_27 ?_
        refine ax_goto (tgt := 32) dX3_cellsOfOtherColour_28 (by decide) ?_
        refine ax_iadd dX3_cellsOfOtherColour_32 ?_
        refine ax_istore_n dX3_cellsOfOtherColour_33 rfl (by decide) ?_
        refine ax_iinc dX3_cellsOfOtherColour_34 rfl rfl (by decide) ?_
        refine ax_goto (tgt := 4) dX3_cellsOfOtherColour_37 (by decide) ?_
        refine ih (i + 1) _ (by omega) ?_
        rw [si_succ, ha]; congr 1; unfold cfO; first | rw [if_pos (by omega)] | rw [if_neg (by omega)]
theorem sp_cellsOfOtherColour (hS : SA NC h b K) (hK : KI K) {b2 : Nat} {K2 : Nat → Nat} (hS2 : SA NC h b2 K2) (hK2 : KI K2) (he : nC K2 = nC K) : Cl NC M_X3_cellsOfOtherColour [.ref b, .ref b2] h (fun v h1 => v = .int (I (othC K K2)) ∧ h1 = h) := by
  refine ax_iconst dX3_cellsOfOtherColour_0 ?_
  refine ax_istore_n dX3_cellsOfOtherColour_1 rfl (by decide) ?_
  refine ax_iconst dX3_cellsOfOtherColour_2 ?_
  refine ax_istore_n dX3_cellsOfOtherColour_3 rfl (by decide) ?_
  refine lp_other hS hK hS2 hK2 he ?_ 180 0 0 (by omega) rfl
  refine ax_iload_n dX3_cellsOfOtherColour_40 rfl ?_
  exact ax_iret dX3_cellsOfOtherColour_41 rfl ⟨rfl, rfl⟩
theorem li_cellsOfColour (hS : SA NC h b K) (hK : KI K) {c : Nat} (hc : c < 7) {y : Nat} (hy : y < K 1) (kk : Ex NC none M_X3_cellsOfColour 59 [.ref b, .int (I (c : Int)), .int (I (si (cfC K c) (y * K 0 + (K 0 / 2 + K (6 + y) + 1)))), .int (I (y : Int)), .int (I ((K 0 / 2 + K (6 + y) + 1 : Nat) : Int))] [] h Q) : ∀ (n : Nat) (x : Nat) (acc : Int), x + n = K 0 / 2 + K (6 + y) + 1 → K 0 / 2 - K (6 + y) ≤ x → acc = si (cfC K c) (y * K 0 + x) → Ex NC none M_X3_cellsOfColour 19 [.ref b, .int (I (c : Int)), .int (I acc), .int (I (y : Int)), .int (I (x : Int))] [] h Q := by
  have k0 := hK.1
  have k1 := hK.2.1 y (by omega)
  intro n
  induction n with
  | zero =>
    intro x acc hx hx0 ha
    have hxy : x < K 0 / 2 + K (6 + y) + 1 → y * K 0 + x < nC K ∧ nC K ≤ 180 := fun h9 => ⟨ci_lt hy (by omega), nC_le hK⟩
    refine ax_iload dX3_cellsOfColour_19 rfl ?_
    refine ax_aload_n dX3_cellsOfColour_21 rfl ?_
    refine ax_iload_n dX3_cellsOfColour_22 rfl ?_
    refine ax_cviP1 dX3_cellsOfColour_23 ln_X3_cellsOfColour_82 (Nat.le_of_ble_eq_true rfl) (Or.inl rfl) hS.n0 hS.o rfl (sp_lastX hS hK (by omega)) ?_
    refine ax_icmp_gt (tgt := 59) dX3_cellsOfColour_26 (by decide) (by omega) (by omega) (fun c26 => ?_) (fun c26 => ?_)
    · have e : x = K 0 / 2 + K (6 + y) + 1 := by omega
      subst e
      rw [ha]
      exact kk
    · exfalso
      omega
  | succ n ih =>
    intro x acc hx hx0 ha
    have hxy : x < K 0 / 2 + K (6 + y) + 1 → y * K 0 + x < nC K ∧ nC K ≤ 180 := fun h9 => ⟨ci_lt hy (by omega), nC_le hK⟩
    refine ax_iload dX3_cellsOfColour_19 rfl ?_
    refine ax_aload_n dX3_cellsOfColour_21 rfl ?_
    refine ax_iload_n dX3_cellsOfColour_22 rfl ?_
    refine ax_cviP1 dX3_cellsOfColour_23 ln_X3_cellsOfColour_82 (Nat.le_of_ble_eq_true rfl) (Or.inl rfl) hS.n0 hS.o rfl (sp_lastX hS hK (by omega)) ?_
    refine ax_icmp_gt (tgt := 59) dX3_cellsOfColour_26 (by decide) (by omega) (by omega) (fun c26 => ?_) (fun c26 => ?_)
    · exfalso
      omega
    · refine ax_iload_n dX3_cellsOfColour_29 rfl ?_
      refine ax_aload_n dX3_cellsOfColour_30 rfl ?_
      refine ax_getf dX3_cellsOfColour_31 ck3 fl_X3_30 (by decide) hS.n0 hS.o rfl ?_
      refine ax_aload_n dX3_cellsOfColour_34 rfl ?_
      refine ax_iload dX3_cellsOfColour_35 rfl ?_
      refine ax_iload_n dX3_cellsOfColour_37 rfl ?_
      refine ax_cviP2 dX3_cellsOfColour_38 ln_X3_cellsOfColour_99 (Nat.le_of_ble_eq_true rfl) (Or.inl rfl) hS.n0 hS.o rfl (sp_numberOf hS) ?_
      refine ax_ialr (j := (y * K 0 + x)) (w := (K (74 + (y * K 0 + x)) : Int)) dX3_cellsOfColour_41 (hS.n 7 (by omega)) hS.co (by push_cast; omega) (by omega) (by decide) rfl ?_
      refine ax_iload_n dX3_cellsOfColour_42 rfl ?_
      refine ax_icmp_ne (tgt := 50) dX3_cellsOfColour_43 (by decide) (by have := hK.2.2.2.2.1 (y * K 0 + x) (by have := hxy (by omega); omega); omega) (by omega) (fun c43 => ?_) (fun c43 => ?_)
      · refine ax_iconst dX3_cellsOfColour_50 ?_
        refine ax_iadd dX3_cellsOfColour_51 ?_
        refine ax_istore_n dX3_cellsOfColour_52 rfl (by decide) ?_
        refine ax_iinc dX3_cellsOfColour_53 rfl rfl (by decide) ?_
        refine ax_goto (tgt := 19) dX3_cellsOfColour_56 (by decide) ?_
        refine ih (x + 1) _ (by omega) (by omega) ?_
        rw [show y * K 0 + (x + 1) = y * K 0 + x + 1 by omega, si_succ, ha]; congr 1
        unfold cfC
        have o1 := on_of (K := K) (x := x) (y := y) (by omega) hy (by omega) (by omega)
        first | rw [if_pos ⟨o1, by omega⟩] | rw [if_neg (by rintro ⟨-, h9⟩; omega)]
      · refine ax_iconst dX3_cellsOfColour_46 ?_
        refine ax_goto (tgt := 51) dX3_cellsOfColour_47 (by decide) ?_
        refine ax_iadd dX3_cellsOfColour_51 ?_
        refine ax_istore_n dX3_cellsOfColour_52 rfl (by decide) ?_
        refine ax_iinc dX3_cellsOfColour_53 rfl rfl (by decide) ?_
        refine ax_goto (tgt := 19) dX3_cellsOfColour_56 (by decide) ?_
        refine ih (x + 1) _ (by omega) (by omega) ?_
        rw [show y * K 0 + (x + 1) = y * K 0 + x + 1 by omega, si_succ, ha]; congr 1
        unfold cfC
        have o1 := on_of (K := K) (x := x) (y := y) (by omega) hy (by omega) (by omega)
        first | rw [if_pos ⟨o1, by omega⟩] | rw [if_neg (by rintro ⟨-, h9⟩; omega)]
theorem lo_cellsOfColour (hS : SA NC h b K) (hK : KI K) {c : Nat} (hc : c < 7) (kk : ∀ w : Value, Ex NC none M_X3_cellsOfColour 65 [.ref b, .int (I (c : Int)), .int (I (cntC K c)), .int (I (K 1 : Int)), w] [] h Q) : ∀ (n : Nat) (y : Nat) (acc : Int) (w : Value), y + n = K 1 → acc = si (cfC K c) (y * K 0) → Ex NC none M_X3_cellsOfColour 4 [.ref b, .int (I (c : Int)), .int (I acc), .int (I (y : Int)), w] [] h Q := by
  have k0 := hK.1
  intro n
  induction n with
  | zero =>
    intro y acc w hy ha
    refine ax_iload_n dX3_cellsOfColour_4 rfl ?_
    refine ax_aload_n dX3_cellsOfColour_5 rfl ?_
    refine ax_getf dX3_cellsOfColour_6 ck3 fl_X3_47 (by decide) hS.n0 hS.o rfl ?_
    refine ax_icmp_ge (tgt := 65) dX3_cellsOfColour_9 (by decide) (by omega) (by omega) (fun c9 => ?_) (fun c9 => ?_)
    · have e : y = K 1 := by omega
      subst e
      rw [ha, Nat.mul_comm (K 1) (K 0)]
      exact kk w
    · exfalso
      omega
  | succ n ih =>
    intro y acc w hy ha
    have hy9 : y < K 1 := by omega
    have k1 := hK.2.1 y (by omega)
    refine ax_iload_n dX3_cellsOfColour_4 rfl ?_
    refine ax_aload_n dX3_cellsOfColour_5 rfl ?_
    refine ax_getf dX3_cellsOfColour_6 ck3 fl_X3_47 (by decide) hS.n0 hS.o rfl ?_
    refine ax_icmp_ge (tgt := 65) dX3_cellsOfColour_9 (by decide) (by omega) (by omega) (fun c9 => ?_) (fun c9 => ?_)
    · exfalso
      omega
    · refine ax_aload_n dX3_cellsOfColour_12 rfl ?_
      refine ax_iload_n dX3_cellsOfColour_13 rfl ?_
      refine ax_cviP1 dX3_cellsOfColour_14 ln_X3_cellsOfColour_78 (Nat.le_of_ble_eq_true rfl) (Or.inl rfl) hS.n0 hS.o rfl (sp_firstX hS hK (by omega)) ?_
      refine ax_istore (L' := [.ref b, .int (I (c : Int)), .int (I acc), .int (I (y : Int)), .int (I ((K 0 / 2 - K (6 + y) : Nat) : Int))]) dX3_cellsOfColour_17 (by rw [show ((K 0 / 2 - K (6 + y) : Nat) : Int) = ((K 0 / 2 : Nat) : Int) - (K (6 + y) : Int) by omega]; rfl) (by decide) ?_
      refine li_cellsOfColour hS hK hc hy9 ?_ (K 0 / 2 + K (6 + y) + 1 - (K 0 / 2 - K (6 + y))) (K 0 / 2 - K (6 + y)) _ (by omega) (Nat.le_refl _) (by rw [rs1 hK (fun i h9 => by unfold cfC; rw [if_neg (by rw [h9]; simp)]) hy9, ha])
      refine ax_iinc dX3_cellsOfColour_59 rfl rfl (by decide) ?_
      refine ax_goto (tgt := 4) dX3_cellsOfColour_62 (by decide) ?_
      exact ih (y + 1) _ _ (by omega) (by rw [rs2 hK (fun i h9 => by unfold cfC; rw [if_neg (by rw [h9]; simp)]) hy9])
theorem sp_cellsOfColour (hS : SA NC h b K) (hK : KI K) {c : Nat} (hc : c < 7) : Cl NC M_X3_cellsOfColour [.ref b, .int (I (c : Int))] h (fun v h1 => v = .int (I (cntC K c)) ∧ h1 = h) := by
  refine ax_iconst dX3_cellsOfColour_0 ?_
  refine ax_istore_n dX3_cellsOfColour_1 rfl (by decide) ?_
  refine ax_iconst dX3_cellsOfColour_2 ?_
  refine ax_istore_n dX3_cellsOfColour_3 rfl (by decide) ?_
  refine lo_cellsOfColour hS hK hc (fun w => ?_) (K 1) 0 0 .null (by omega) (by rw [Nat.zero_mul]; rfl)
  refine ax_iload_n dX3_cellsOfColour_65 rfl ?_
  exact ax_iret dX3_cellsOfColour_66 rfl ⟨rfl, rfl⟩
end SM
