/-! the sail of the class: pairs, weights, patterns -/
theorem rs3 {K : Nat → Nat} {f : Nat → Int} (hK : KI K) (hf : ∀ i, on K i = false ∨ K 0 / 2 ≤ i % K 0 → f i = 0) {y : Nat} (hy : y < K 1) : si f ((y + 1) * K 0) = si f (y * K 0 + K 0 / 2) := by
  have k0 := hK.1
  have e : (y + 1) * K 0 = y * K 0 + K 0 := by rw [Nat.add_mul, Nat.one_mul]
  rw [e]
  refine si_skip (by omega) (fun k h1 h2 => hf k (Or.inr ?_))
  have := ci_mod (K := K) (x := k - y * K 0) (y := y) (by omega)
  rw [show y * K 0 + (k - y * K 0) = k by omega] at this
  omega
theorem mir_at {K : Nat → Nat} {x y : Nat} (hx : x < K 0) : mirN K (y * K 0 + x) = y * K 0 + (K 0 - 1 - x) := by
  unfold mirN; rw [ci_div hx, ci_mod hx]
theorem sd_at {K : Nat → Nat} {x y : Nat} (hx : x < K 0) : sdN K (y * K 0 + x) = sgz ((x : Int) - ((K 0 / 2 : Nat) : Int)) := by
  unfold sdN; rw [ci_mod hx]
theorem sgz_rg (z : Int) : -1 ≤ sgz z ∧ sgz z ≤ 1 := by
  unfold sgz; split
  · omega
  · split <;> omega
theorem cfG_rg {K : Nat → Nat} (hK : KI K) (sd : Int) : ∀ k, k < nC K → 0 ≤ cfG K sd k ∧ cfG K sd k ≤ 297 := by
  intro k hk
  have h1 := wg_le hK (i := k) (by have := nC_le hK; omega)
  unfold cfG; split <;> omega
theorem sidW_rg {K : Nat → Nat} (hK : KI K) (sd : Int) : 0 ≤ sidW K sd ∧ sidW K sd ≤ 60000 := si01 (nC_le hK) (cfG_rg hK sd)
section SM
variable {NC b : Nat} {h : hp} {K : Nat → Nat} {Q : qt}
theorem li_unlikePairs (hS : SA NC h b K) (hK : KI K) {y : Nat} (hy : y < K 1) (kk : Ex NC none M_X3_unlikePairs 69 [.ref b, .int (I (si (cfU K) (y * K 0 + (K 0 / 2)))), .int (I (y : Int)), .int (I ((K 0 / 2 : Nat) : Int))] [] h Q) : ∀ (n : Nat) (x : Nat) (acc : Int), x + n = K 0 / 2 → K 0 / 2 - K (6 + y) ≤ x → acc = si (cfU K) (y * K 0 + x) → Ex NC none M_X3_unlikePairs 18 [.ref b, .int (I acc), .int (I (y : Int)), .int (I (x : Int))] [] h Q := by
  have k0 := hK.1
  have k1 := hK.2.1 y (by omega)
  intro n
  induction n with
  | zero =>
    intro x acc hx hx0 ha
    have hxy : x < K 0 / 2 → y * K 0 + x < nC K ∧ nC K ≤ 180 := fun h9 => ⟨ci_lt hy (by omega), nC_le hK⟩
    refine ax_iload_n dX3_unlikePairs_18 rfl ?_
    refine ax_aload_n dX3_unlikePairs_19 rfl ?_
    refine ax_cviP0 dX3_unlikePairs_20 ln_X3_unlikePairs_74 (Nat.le_of_ble_eq_true rfl) (Or.inl rfl) hS.n0 hS.o rfl (sp_middle hS hK) ?_
    refine ax_icmp_ge (tgt := 69) dX3_unlikePairs_23 (by decide) (by omega) (by omega) (fun c23 => ?_) (fun c23 => ?_)
    · have e : x = K 0 / 2 := by omega
      subst e
      rw [ha]
      exact kk
    · exfalso
      omega
  | succ n ih =>
    intro x acc hx hx0 ha
    have hxy : x < K 0 / 2 → y * K 0 + x < nC K ∧ nC K ≤ 180 := fun h9 => ⟨ci_lt hy (by omega), nC_le hK⟩
    refine ax_iload_n dX3_unlikePairs_18 rfl ?_
    refine ax_aload_n dX3_unlikePairs_19 rfl ?_
    refine ax_cviP0 dX3_unlikePairs_20 ln_X3_unlikePairs_74 (Nat.le_of_ble_eq_true rfl) (Or.inl rfl) hS.n0 hS.o rfl (sp_middle hS hK) ?_
    refine ax_icmp_ge (tgt := 69) dX3_unlikePairs_23 (by decide) (by omega) (by omega) (fun c23 => ?_) (fun c23 => ?_)
    · exfalso
      omega
    · refine ax_iload_n dX3_unlikePairs_26 rfl ?_
      refine ax_aload_n dX3_unlikePairs_27 rfl ?_
      refine ax_getf dX3_unlikePairs_28 ck3 fl_X3_30 (by decide) hS.n0 hS.o rfl ?_
      refine ax_aload_n dX3_unlikePairs_31 rfl ?_
      refine ax_iload_n dX3_unlikePairs_32 rfl ?_
      refine ax_iload_n dX3_unlikePairs_33 rfl ?_
      refine ax_cviP2 dX3_unlikePairs_34 ln_X3_unlikePairs_99 (Nat.le_of_ble_eq_true rfl) (Or.inl rfl) hS.n0 hS.o rfl (sp_numberOf hS) ?_
      refine ax_ialr (j := (y * K 0 + x)) (w := (K (74 + (y * K 0 + x)) : Int)) dX3_unlikePairs_37 (hS.n 7 (by omega)) hS.co (by push_cast; omega) (by omega) (by decide) rfl ?_
      refine ax_aload_n dX3_unlikePairs_38 rfl ?_
      refine ax_getf dX3_unlikePairs_39 ck3 fl_X3_30 (by decide) hS.n0 hS.o rfl ?_
      refine ax_aload_n dX3_unlikePairs_42 rfl ?_
      refine ax_aload_n dX3_unlikePairs_43 rfl ?_
      refine ax_iload_n dX3_unlikePairs_44 rfl ?_
      refine ax_cviP1 dX3_unlikePairs_45 ln_X3_unlikePairs_102 (Nat.le_of_ble_eq_true rfl) (Or.inl rfl) hS.n0 hS.o rfl (sp_mirrorX hS) ?_
      refine ax_iload_n dX3_unlikePairs_48 rfl ?_
      refine ax_cviP2 dX3_unlikePairs_49 ln_X3_unlikePairs_99 (Nat.le_of_ble_eq_true rfl) (Or.inl rfl) hS.n0 hS.o rfl (sp_numberOf hS) ?_
      refine ax_ialr (j := (y * K 0 + (K 0 - 1 - x))) (w := (K (74 + (y * K 0 + (K 0 - 1 - x))) : Int)) dX3_unlikePairs_52 (hS.n 7 (by omega)) hS.co (by push_cast; omega) (by have := ci_lt (K := K) hy (x := K 0 - 1 - x) (by omega); have := nC_le hK; omega) (by decide) rfl ?_
      refine ax_icmp_eq (tgt := 60) dX3_unlikePairs_53 (by decide) (by have := hK.2.2.2.2.1 (y * K 0 + x) (by have := hxy (by omega); omega); omega) (by have := hK.2.2.2.2.1 (y * K 0 + (K 0 - 1 - x)) (by have := ci_lt (K := K) hy (x := K 0 - 1 - x) (by omega); have := nC_le hK; omega); omega) (fun c53 => ?_) (fun c53 => ?_)
      · refine ax_iconst dX3_unlikePairs_60 ?_
        refine ax_iadd dX3_unlikePairs_61 ?_
        refine ax_istore_n dX3_unlikePairs_62 rfl (by decide) ?_
        refine ax_iinc dX3_unlikePairs_63 rfl rfl (by decide) ?_
        refine ax_goto (tgt := 18) dX3_unlikePairs_66 (by decide) ?_
        refine ih (x + 1) _ (by omega) (by omega) ?_
        rw [show y * K 0 + (x + 1) = y * K 0 + x + 1 by omega, si_succ, ha]; congr 1
        unfold cfU
        have o1 := on_of (K := K) (x := x) (y := y) (by omega) hy (by omega) (by omega)
        rw [mir_at (by omega), ci_mod (by omega)]
        first | rw [if_pos ⟨o1, by omega, by omega⟩] | rw [if_neg (by rintro ⟨-, -, h9⟩; omega)]
      · refine ax_iconst dX3_unlikePairs_56 ?_
        refine ax_goto (tgt := 61) dX3_unlikePairs_57 (by decide) ?_
        refine ax_iadd dX3_unlikePairs_61 ?_
        refine ax_istore_n dX3_unlikePairs_62 rfl (by decide) ?_
        refine ax_iinc dX3_unlikePairs_63 rfl rfl (by decide) ?_
        refine ax_goto (tgt := 18) dX3_unlikePairs_66 (by decide) ?_
        refine ih (x + 1) _ (by omega) (by omega) ?_
        rw [show y * K 0 + (x + 1) = y * K 0 + x + 1 by omega, si_succ, ha]; congr 1
        unfold cfU
        have o1 := on_of (K := K) (x := x) (y := y) (by omega) hy (by omega) (by omega)
        rw [mir_at (by omega), ci_mod (by omega)]
        first | rw [if_pos ⟨o1, by omega, by omega⟩] | rw [if_neg (by rintro ⟨-, -, h9⟩; omega)]
theorem lo_unlikePairs (hS : SA NC h b K) (hK : KI K) (kk : ∀ w : Value, Ex NC none M_X3_unlikePairs 75 [.ref b, .int (I (unlC K)), .int (I (K 1 : Int)), w] [] h Q) : ∀ (n : Nat) (y : Nat) (acc : Int) (w : Value), y + n = K 1 → acc = si (cfU K) (y * K 0) → Ex NC none M_X3_unlikePairs 4 [.ref b, .int (I acc), .int (I (y : Int)), w] [] h Q := by
  have k0 := hK.1
  intro n
  induction n with
  | zero =>
    intro y acc w hy ha
    refine ax_iload_n dX3_unlikePairs_4 rfl ?_
    refine ax_aload_n dX3_unlikePairs_5 rfl ?_
    refine ax_getf dX3_unlikePairs_6 ck3 fl_X3_47 (by decide) hS.n0 hS.o rfl ?_
    refine ax_icmp_ge (tgt := 75) dX3_unlikePairs_9 (by decide) (by omega) (by omega) (fun c9 => ?_) (fun c9 => ?_)
    · have e : y = K 1 := by omega
      subst e
      rw [ha, Nat.mul_comm (K 1) (K 0)]
      exact kk w
    · exfalso
      omega
  | succ n ih =>
    intro y acc w hy ha
    have hy9 : y < K 1 := by omega
    have k1 := hK.2.1 y (by omega)
    refine ax_iload_n dX3_unlikePairs_4 rfl ?_
    refine ax_aload_n dX3_unlikePairs_5 rfl ?_
    refine ax_getf dX3_unlikePairs_6 ck3 fl_X3_47 (by decide) hS.n0 hS.o rfl ?_
    refine ax_icmp_ge (tgt := 75) dX3_unlikePairs_9 (by decide) (by omega) (by omega) (fun c9 => ?_) (fun c9 => ?_)
    · exfalso
      omega
    · refine ax_aload_n dX3_unlikePairs_12 rfl ?_
      refine ax_iload_n dX3_unlikePairs_13 rfl ?_
      refine ax_cviP1 dX3_unlikePairs_14 ln_X3_unlikePairs_78 (Nat.le_of_ble_eq_true rfl) (Or.inl rfl) hS.n0 hS.o rfl (sp_firstX hS hK (by omega)) ?_
      refine ax_istore_n (L' := [.ref b, .int (I acc), .int (I (y : Int)), .int (I ((K 0 / 2 - K (6 + y) : Nat) : Int))]) dX3_unlikePairs_17 (by rw [show ((K 0 / 2 - K (6 + y) : Nat) : Int) = ((K 0 / 2 : Nat) : Int) - (K (6 + y) : Int) by omega]; rfl) (by decide) ?_
      refine li_unlikePairs hS hK  hy9 ?_ (K 0 / 2 - (K 0 / 2 - K (6 + y))) (K 0 / 2 - K (6 + y)) _ (by omega) (Nat.le_refl _) (by rw [rs1 hK (fun i h9 => by unfold cfU; rw [if_neg (by rw [h9]; simp)]) hy9, ha])
      refine ax_iinc dX3_unlikePairs_69 rfl rfl (by decide) ?_
      refine ax_goto (tgt := 4) dX3_unlikePairs_72 (by decide) ?_
      exact ih (y + 1) _ _ (by omega) (by rw [rs3 hK (fun i h9 => by unfold cfU; rw [if_neg (by rintro ⟨z1, z2, -⟩; rcases h9 with h9 | h9 <;> first | (rw [h9] at z1; cases z1) | omega)]) hy9])
theorem sp_unlikePairs (hS : SA NC h b K) (hK : KI K) : Cl NC M_X3_unlikePairs [.ref b] h (fun v h1 => v = .int (I (unlC K)) ∧ h1 = h) := by
  refine ax_iconst dX3_unlikePairs_0 ?_
  refine ax_istore_n dX3_unlikePairs_1 rfl (by decide) ?_
  refine ax_iconst dX3_unlikePairs_2 ?_
  refine ax_istore_n dX3_unlikePairs_3 rfl (by decide) ?_
  refine lo_unlikePairs hS hK (fun w => ?_) (K 1) 0 0 .null (by omega) (by rw [Nat.zero_mul]; rfl)
  refine ax_iload_n dX3_unlikePairs_75 rfl ?_
  exact ax_iret dX3_unlikePairs_76 rfl ⟨rfl, rfl⟩
theorem li_weightOfSide (hS : SA NC h b K) (hK : KI K) {sd : Int} (hsd : -1 ≤ sd ∧ sd ≤ 1) {y : Nat} (hy : y < K 1) (kk : Ex NC none M_X3_weightOfSide 63 [.ref b, .int (I sd), .int (I (si (cfG K sd) (y * K 0 + (K 0 / 2 + K (6 + y) + 1)))), .int (I (y : Int)), .int (I ((K 0 / 2 + K (6 + y) + 1 : Nat) : Int))] [] h Q) : ∀ (n : Nat) (x : Nat) (acc : Int), x + n = K 0 / 2 + K (6 + y) + 1 → K 0 / 2 - K (6 + y) ≤ x → acc = si (cfG K sd) (y * K 0 + x) → Ex NC none M_X3_weightOfSide 19 [.ref b, .int (I sd), .int (I acc), .int (I (y : Int)), .int (I (x : Int))] [] h Q := by
  have k0 := hK.1
  have k1 := hK.2.1 y (by omega)
  intro n
  induction n with
  | zero =>
    intro x acc hx hx0 ha
    have hxy : x < K 0 / 2 + K (6 + y) + 1 → y * K 0 + x < nC K ∧ nC K ≤ 180 := fun h9 => ⟨ci_lt hy (by omega), nC_le hK⟩
    refine ax_iload dX3_weightOfSide_19 rfl ?_
    refine ax_aload_n dX3_weightOfSide_21 rfl ?_
    refine ax_iload_n dX3_weightOfSide_22 rfl ?_
    refine ax_cviP1 dX3_weightOfSide_23 ln_X3_weightOfSide_82 (Nat.le_of_ble_eq_true rfl) (Or.inl rfl) hS.n0 hS.o rfl (sp_lastX hS hK (by omega)) ?_
    refine ax_icmp_gt (tgt := 63) dX3_weightOfSide_26 (by decide) (by omega) (by omega) (fun c26 => ?_) (fun c26 => ?_)
    · have e : x = K 0 / 2 + K (6 + y) + 1 := by omega
      subst e
      rw [ha]
      exact kk
    · exfalso
      omega
  | succ n ih =>
    intro x acc hx hx0 ha
    have hxy : x < K 0 / 2 + K (6 + y) + 1 → y * K 0 + x < nC K ∧ nC K ≤ 180 := fun h9 => ⟨ci_lt hy (by omega), nC_le hK⟩
    refine ax_iload dX3_weightOfSide_19 rfl ?_
    refine ax_aload_n dX3_weightOfSide_21 rfl ?_
    refine ax_iload_n dX3_weightOfSide_22 rfl ?_
    refine ax_cviP1 dX3_weightOfSide_23 ln_X3_weightOfSide_82 (Nat.le_of_ble_eq_true rfl) (Or.inl rfl) hS.n0 hS.o rfl (sp_lastX hS hK (by omega)) ?_
    refine ax_icmp_gt (tgt := 63) dX3_weightOfSide_26 (by decide) (by omega) (by omega) (fun c26 => ?_) (fun c26 => ?_)
    · exfalso
      omega
    · refine ax_iload_n dX3_weightOfSide_29 rfl ?_
      refine ax_aload_n dX3_weightOfSide_30 rfl ?_
      refine ax_iload dX3_weightOfSide_31 rfl ?_
      refine ax_cviP1 dX3_weightOfSide_33 ln_X3_weightOfSide_105 (Nat.le_of_ble_eq_true rfl) (Or.inl rfl) hS.n0 hS.o rfl (sp_sideOf hS hK (by omega)) ?_
      refine ax_iload_n dX3_weightOfSide_36 rfl ?_
      refine ax_icmp_ne (tgt := 54) dX3_weightOfSide_37 (by decide) (by have := sgz_rg ((x : Int) - ((K 0 / 2 : Nat) : Int)); omega) (by omega) (fun c37 => ?_) (fun c37 => ?_)
      · refine ax_iconst dX3_weightOfSide_54 ?_
        refine ax_iadd dX3_weightOfSide_55 ?_
        refine ax_istore_n dX3_weightOfSide_56 rfl (by decide) ?_
        refine ax_iinc dX3_weightOfSide_57 rfl rfl (by decide) ?_
        refine ax_goto (tgt := 19) dX3_weightOfSide_60 (by decide) ?_
        refine ih (x + 1) _ (by omega) (by omega) ?_
        rw [show y * K 0 + (x + 1) = y * K 0 + x + 1 by omega, si_succ, ha]; congr 1
        unfold cfG
        have o1 := on_of (K := K) (x := x) (y := y) (by omega) hy (by omega) (by omega)
        rw [sd_at (by omega)]
        first | rw [if_pos ⟨o1, by omega⟩] | rw [if_neg (by rintro ⟨-, h9⟩; omega)]
      · refine ax_aload_n dX3_weightOfSide_40 rfl ?_
        refine ax_aload_n dX3_weightOfSide_41 rfl ?_
        refine ax_iload dX3_weightOfSide_42 rfl ?_
        refine ax_iload_n dX3_weightOfSide_44 rfl ?_
        refine ax_cviP2 dX3_weightOfSide_45 ln_X3_weightOfSide_99 (Nat.le_of_ble_eq_true rfl) (Or.inl rfl) hS.n0 hS.o rfl (sp_numberOf hS) ?_
        rw [show ((y : Int) * (K 0 : Int) + (x : Int)) = ((y * K 0 + x : Nat) : Int) by push_cast; omega]
        refine ax_cviP1 dX3_weightOfSide_48 ln_X3_weightOfSide_108 (Nat.le_of_ble_eq_true rfl) (Or.inl rfl) hS.n0 hS.o rfl (sp_weightAt hS hK (by have := hxy (by omega); omega)) ?_
        refine ax_goto (tgt := 55) dX3_weightOfSide_51 (by decide) ?_
        refine ax_iadd dX3_weightOfSide_55 ?_
        refine ax_istore_n dX3_weightOfSide_56 rfl (by decide) ?_
        refine ax_iinc dX3_weightOfSide_57 rfl rfl (by decide) ?_
        refine ax_goto (tgt := 19) dX3_weightOfSide_60 (by decide) ?_
        refine ih (x + 1) _ (by omega) (by omega) ?_
        rw [show y * K 0 + (x + 1) = y * K 0 + x + 1 by omega, si_succ, ha]; congr 1
        unfold cfG
        have o1 := on_of (K := K) (x := x) (y := y) (by omega) hy (by omega) (by omega)
        rw [sd_at (by omega)]
        first | rw [if_pos ⟨o1, by omega⟩] | rw [if_neg (by rintro ⟨-, h9⟩; omega)]
theorem lo_weightOfSide (hS : SA NC h b K) (hK : KI K) {sd : Int} (hsd : -1 ≤ sd ∧ sd ≤ 1) (kk : ∀ w : Value, Ex NC none M_X3_weightOfSide 69 [.ref b, .int (I sd), .int (I (sidW K sd)), .int (I (K 1 : Int)), w] [] h Q) : ∀ (n : Nat) (y : Nat) (acc : Int) (w : Value), y + n = K 1 → acc = si (cfG K sd) (y * K 0) → Ex NC none M_X3_weightOfSide 4 [.ref b, .int (I sd), .int (I acc), .int (I (y : Int)), w] [] h Q := by
  have k0 := hK.1
  intro n
  induction n with
  | zero =>
    intro y acc w hy ha
    refine ax_iload_n dX3_weightOfSide_4 rfl ?_
    refine ax_aload_n dX3_weightOfSide_5 rfl ?_
    refine ax_getf dX3_weightOfSide_6 ck3 fl_X3_47 (by decide) hS.n0 hS.o rfl ?_
    refine ax_icmp_ge (tgt := 69) dX3_weightOfSide_9 (by decide) (by omega) (by omega) (fun c9 => ?_) (fun c9 => ?_)
    · have e : y = K 1 := by omega
      subst e
      rw [ha, Nat.mul_comm (K 1) (K 0)]
      exact kk w
    · exfalso
      omega
  | succ n ih =>
    intro y acc w hy ha
    have hy9 : y < K 1 := by omega
    have k1 := hK.2.1 y (by omega)
    refine ax_iload_n dX3_weightOfSide_4 rfl ?_
    refine ax_aload_n dX3_weightOfSide_5 rfl ?_
    refine ax_getf dX3_weightOfSide_6 ck3 fl_X3_47 (by decide) hS.n0 hS.o rfl ?_
    refine ax_icmp_ge (tgt := 69) dX3_weightOfSide_9 (by decide) (by omega) (by omega) (fun c9 => ?_) (fun c9 => ?_)
    · exfalso
      omega
    · refine ax_aload_n dX3_weightOfSide_12 rfl ?_
      refine ax_iload_n dX3_weightOfSide_13 rfl ?_
      refine ax_cviP1 dX3_weightOfSide_14 ln_X3_weightOfSide_78 (Nat.le_of_ble_eq_true rfl) (Or.inl rfl) hS.n0 hS.o rfl (sp_firstX hS hK (by omega)) ?_
      refine ax_istore (L' := [.ref b, .int (I sd), .int (I acc), .int (I (y : Int)), .int (I ((K 0 / 2 - K (6 + y) : Nat) : Int))]) dX3_weightOfSide_17 (by rw [show ((K 0 / 2 - K (6 + y) : Nat) : Int) = ((K 0 / 2 : Nat) : Int) - (K (6 + y) : Int) by omega]; rfl) (by decide) ?_
      refine li_weightOfSide hS hK hsd hy9 ?_ (K 0 / 2 + K (6 + y) + 1 - (K 0 / 2 - K (6 + y))) (K 0 / 2 - K (6 + y)) _ (by omega) (Nat.le_refl _) (by rw [rs1 hK (fun i h9 => by unfold cfG; rw [if_neg (by rw [h9]; simp)]) hy9, ha])
      refine ax_iinc dX3_weightOfSide_63 rfl rfl (by decide) ?_
      refine ax_goto (tgt := 4) dX3_weightOfSide_66 (by decide) ?_
      exact ih (y + 1) _ _ (by omega) (by rw [rs2 hK (fun i h9 => by unfold cfG; rw [if_neg (by rw [h9]; simp)]) hy9])
theorem sp_weightOfSide (hS : SA NC h b K) (hK : KI K) {sd : Int} (hsd : -1 ≤ sd ∧ sd ≤ 1) : Cl NC M_X3_weightOfSide [.ref b, .int (I sd)] h (fun v h1 => v = .int (I (sidW K sd)) ∧ h1 = h) := by
  refine ax_iconst dX3_weightOfSide_0 ?_
  refine ax_istore_n dX3_weightOfSide_1 rfl (by decide) ?_
  refine ax_iconst dX3_weightOfSide_2 ?_
  refine ax_istore_n dX3_weightOfSide_3 rfl (by decide) ?_
  refine lo_weightOfSide hS hK hsd (fun w => ?_) (K 1) 0 0 .null (by omega) (by rw [Nat.zero_mul]; rfl)
  refine ax_iload_n dX3_weightOfSide_69 rfl ?_
  exact ax_iret dX3_weightOfSide_70 rfl ⟨rfl, rfl⟩
theorem sp_leftWeight (hS : SA NC h b K) (hK : KI K) : Cl NC M_X3_leftWeight [.ref b] h (fun v h1 => v = .int (I (sidW K (-1))) ∧ h1 = h) := by
  refine ax_aload_n dX3_leftWeight_0 rfl ?_
  refine ax_iconst dX3_leftWeight_1 ?_
  refine ax_cviP1 dX3_leftWeight_2 ln_X3_leftWeight_111 (Nat.le_of_ble_eq_true rfl) (Or.inl rfl) hS.n0 hS.o rfl (sp_weightOfSide hS hK (by omega)) ?_
  exact ax_iret dX3_leftWeight_5 rfl ⟨rfl, rfl⟩
theorem sp_rightWeight (hS : SA NC h b K) (hK : KI K) : Cl NC M_X3_rightWeight [.ref b] h (fun v h1 => v = .int (I (sidW K 1)) ∧ h1 = h) := by
  refine ax_aload_n dX3_rightWeight_0 rfl ?_
  refine ax_iconst dX3_rightWeight_1 ?_
  refine ax_cviP1 dX3_rightWeight_2 ln_X3_rightWeight_111 (Nat.le_of_ble_eq_true rfl) (Or.inl rfl) hS.n0 hS.o rfl (sp_weightOfSide hS hK (by omega)) ?_
  exact ax_iret dX3_rightWeight_5 rfl ⟨rfl, rfl⟩
theorem sp_wholeWeight (hS : SA NC h b K) (hK : KI K) : Cl NC M_X3_wholeWeight [.ref b] h (fun v h1 => v = .int (I (sidW K (-1) + sidW K 0 + sidW K 1)) ∧ h1 = h) := by
  refine ax_aload_n dX3_wholeWeight_0 rfl ?_
  refine ax_cviP0 dX3_wholeWeight_1 ln_X3_wholeWeight_114 (Nat.le_of_ble_eq_true rfl) (Or.inl rfl) hS.n0 hS.o rfl (sp_leftWeight hS hK) ?_
  refine ax_aload_n dX3_wholeWeight_4 rfl ?_
  refine ax_iconst dX3_wholeWeight_5 ?_
  refine ax_cviP1 dX3_wholeWeight_6 ln_X3_wholeWeight_111 (Nat.le_of_ble_eq_true rfl) (Or.inl rfl) hS.n0 hS.o rfl (sp_weightOfSide hS hK (by omega)) ?_
  refine ax_iadd dX3_wholeWeight_9 ?_
  refine ax_aload_n dX3_wholeWeight_10 rfl ?_
  refine ax_cviP0 dX3_wholeWeight_11 ln_X3_wholeWeight_117 (Nat.le_of_ble_eq_true rfl) (Or.inl rfl) hS.n0 hS.o rfl (sp_rightWeight hS hK) ?_
  refine ax_iadd dX3_wholeWeight_14 ?_
  exact ax_iret dX3_wholeWeight_15 rfl ⟨rfl, rfl⟩
theorem sp_balance (hS : SA NC h b K) (hK : KI K) : Cl NC M_X3_balance [.ref b] h (fun v h1 => v = .int (I (balW K)) ∧ h1 = h) := by
  refine ax_aload_n dX3_balance_0 rfl ?_
  refine ax_cviP0 dX3_balance_1 ln_X3_balance_117 (Nat.le_of_ble_eq_true rfl) (Or.inl rfl) hS.n0 hS.o rfl (sp_rightWeight hS hK) ?_
  refine ax_aload_n dX3_balance_4 rfl ?_
  refine ax_cviP0 dX3_balance_5 ln_X3_balance_114 (Nat.le_of_ble_eq_true rfl) (Or.inl rfl) hS.n0 hS.o rfl (sp_leftWeight hS hK) ?_
  refine ax_isub dX3_balance_8 ?_
  exact ax_iret dX3_balance_9 rfl ⟨rfl, rfl⟩
def ahN (K : Nat → Nat) (n m : Nat) : Prop := K (254 + m) < K (254 + n) ∨ K (254 + m) = K (254 + n) ∧ K (74 + m) < K (74 + n)
theorem sp_isAhead (hS : SA NC h b K) (hK : KI K) {n m : Nat} (hn : n < 180) (hm : m < 180) : Cl NC M_X3_isAhead [.ref b, .int (I (n : Int)), .int (I (m : Int))] h (fun v h1 => (v = .int (I 1) ∧ ahN K n m ∨ v = .int (I 0) ∧ ¬ ahN K n m) ∧ h1 = h) := by
  refine ax_aload_n dX3_isAhead_0 rfl ?_
  refine ax_getf dX3_isAhead_1 ck3 fl_X3_33 (by decide) hS.n0 hS.o rfl ?_
  refine ax_iload_n dX3_isAhead_4 rfl ?_
  refine ax_ialr (j := n) (w := (K (254 + n) : Int)) dX3_isAhead_5 (hS.n 8 (by omega)) hS.we (by omega) (by omega) (by decide) rfl ?_
  refine ax_aload_n dX3_isAhead_6 rfl ?_
  refine ax_getf dX3_isAhead_7 ck3 fl_X3_33 (by decide) hS.n0 hS.o rfl ?_
  refine ax_iload_n dX3_isAhead_10 rfl ?_
  refine ax_ialr (j := m) (w := (K (254 + m) : Int)) dX3_isAhead_11 (hS.n 8 (by omega)) hS.we (by omega) (by omega) (by decide) rfl ?_
  refine ax_icmp_eq (tgt := 36) dX3_isAhead_12 (by decide) (by have := hK.2.2.2.2.2.1 n hn; omega) (by have := hK.2.2.2.2.2.1 m hm; omega) (fun c12 => ?_) (fun c12 => ?_)
  · refine ax_aload_n dX3_isAhead_36 rfl ?_
    refine ax_getf dX3_isAhead_37 ck3 fl_X3_30 (by decide) hS.n0 hS.o rfl ?_
    refine ax_iload_n dX3_isAhead_40 rfl ?_
    refine ax_ialr (j := n) (w := (K (74 + n) : Int)) dX3_isAhead_41 (hS.n 7 (by omega)) hS.co (by omega) (by omega) (by decide) rfl ?_
    refine ax_aload_n dX3_isAhead_42 rfl ?_
    refine ax_getf dX3_isAhead_43 ck3 fl_X3_30 (by decide) hS.n0 hS.o rfl ?_
    refine ax_iload_n dX3_isAhead_46 rfl ?_
    refine ax_ialr (j := m) (w := (K (74 + m) : Int)) dX3_isAhead_47 (hS.n 7 (by omega)) hS.co (by omega) (by omega) (by decide) rfl ?_
    refine ax_icmp_le (tgt := 55) dX3_isAhead_48 (by decide) (by have := hK.2.2.2.2.1 n hn; omega) (by have := hK.2.2.2.2.1 m hm; omega) (fun c48 => ?_) (fun c48 => ?_)
    · refine ax_iconst dX3_isAhead_55 ?_
      exact ax_zret dX3_isAhead_56 rfl (by first | exact Or.inl rfl | exact Or.inr rfl) ⟨by first | exact Or.inl ⟨rfl, by unfold ahN; omega⟩ | exact Or.inr ⟨rfl, by unfold ahN; omega⟩, rfl⟩
    · refine ax_iconst dX3_isAhead_51 ?_
      refine ax_goto (tgt := 56) dX3_isAhead_52 (by decide) ?_
      exact ax_zret dX3_isAhead_56 rfl (by first | exact Or.inl rfl | exact Or.inr rfl) ⟨by first | exact Or.inl ⟨rfl, by unfold ahN; omega⟩ | exact Or.inr ⟨rfl, by unfold ahN; omega⟩, rfl⟩
  · refine ax_aload_n dX3_isAhead_15 rfl ?_
    refine ax_getf dX3_isAhead_16 ck3 fl_X3_33 (by decide) hS.n0 hS.o rfl ?_
    refine ax_iload_n dX3_isAhead_19 rfl ?_
    refine ax_ialr (j := n) (w := (K (254 + n) : Int)) dX3_isAhead_20 (hS.n 8 (by omega)) hS.we (by omega) (by omega) (by decide) rfl ?_
    refine ax_aload_n dX3_isAhead_21 rfl ?_
    refine ax_getf dX3_isAhead_22 ck3 fl_X3_33 (by decide) hS.n0 hS.o rfl ?_
    refine ax_iload_n dX3_isAhead_25 rfl ?_
    refine ax_ialr (j := m) (w := (K (254 + m) : Int)) dX3_isAhead_26 (hS.n 8 (by omega)) hS.we (by omega) (by omega) (by decide) rfl ?_
    refine ax_icmp_le (tgt := 34) dX3_isAhead_27 (by decide) (by have := hK.2.2.2.2.2.1 n hn; omega) (by have := hK.2.2.2.2.2.1 m hm; omega) (fun c27 => ?_) (fun c27 => ?_)
    · refine ax_iconst dX3_isAhead_34 ?_
      exact ax_zret dX3_isAhead_35 rfl (by first | exact Or.inl rfl | exact Or.inr rfl) ⟨by first | exact Or.inl ⟨rfl, by unfold ahN; omega⟩ | exact Or.inr ⟨rfl, by unfold ahN; omega⟩, rfl⟩
    · refine ax_iconst dX3_isAhead_30 ?_
      refine ax_goto (tgt := 35) dX3_isAhead_31 (by decide) ?_
      exact ax_zret dX3_isAhead_35 rfl (by first | exact Or.inl rfl | exact Or.inr rfl) ⟨by first | exact Or.inl ⟨rfl, by unfold ahN; omega⟩ | exact Or.inr ⟨rfl, by unfold ahN; omega⟩, rfl⟩
def pcN (K : Nat → Nat) (p i : Nat) : Int := if K (616 + 44 * p + i) = 0 then 0 else 1
/-- the digits that paint, line by line -/
def pntL (K : Nat → Nat) (p l : Nat) : Nat → Int := fun d => pcN K p (7 * l + d)
def pntC (K : Nat → Nat) (p : Nat) : Int := si (fun l => si (pntL K p l) (K (614 + 44 * p))) (K (615 + 44 * p))
theorem li_painting (hS : SA NC h b K) (hK : KI K) {p : Nat} (hp : p < 3) {l : Nat} (hl : l < 6) {a0 : Int} (kk : Ex NC none M_X3_paintingDigits 53 [.ref b, .int (I (p : Int)), .int (I (a0 + si (pntL K p l) (K (614 + 44 * p)))), .int (I (l : Int)), .int (I (K (614 + 44 * p) : Int))] [] h Q) : ∀ (n : Nat) (d : Nat) (acc : Int), d + n = K (614 + 44 * p) → acc = a0 + si (pntL K p l) d → Ex NC none M_X3_paintingDigits 17 [.ref b, .int (I (p : Int)), .int (I acc), .int (I (l : Int)), .int (I (d : Int))] [] h Q := by
  have kp := hK.2.2.2.2.2.2.2.2 p hp
  intro n
  induction n with
  | zero =>
    intro d acc hd ha
    refine ax_iload dX3_paintingDigits_17 rfl ?_
    refine ax_aload_n dX3_paintingDigits_19 rfl ?_
    refine ax_getf dX3_paintingDigits_20 ck3 fl_X3_24 (by decide) hS.n0 hS.o rfl ?_
    refine ax_iload_n dX3_paintingDigits_23 rfl ?_
    refine ax_ialr (j := p) (w := (K (614 + 44 * p) : Int)) dX3_paintingDigits_24 (hS.n 5 (by omega)) hS.pd (by omega) (by omega) (by decide) rfl ?_
    refine ax_icmp_ge (tgt := 53) dX3_paintingDigits_25 (by decide) (by omega) (by omega) (fun c25 => ?_) (fun c25 => ?_)
    · have e : d = K (614 + 44 * p) := by omega
      subst e
      rw [ha]
      exact kk
    · exfalso
      omega
  | succ n ih =>
    intro d acc hd ha
    refine ax_iload dX3_paintingDigits_17 rfl ?_
    refine ax_aload_n dX3_paintingDigits_19 rfl ?_
    refine ax_getf dX3_paintingDigits_20 ck3 fl_X3_24 (by decide) hS.n0 hS.o rfl ?_
    refine ax_iload_n dX3_paintingDigits_23 rfl ?_
    refine ax_ialr (j := p) (w := (K (614 + 44 * p) : Int)) dX3_paintingDigits_24 (hS.n 5 (by omega)) hS.pd (by omega) (by omega) (by decide) rfl ?_
    refine ax_icmp_ge (tgt := 53) dX3_paintingDigits_25 (by decide) (by omega) (by omega) (fun c25 => ?_) (fun c25 => ?_)
    · exfalso
      omega
    · refine ax_iload_n dX3_paintingDigits_28 rfl ?_
      refine ax_aload_n dX3_paintingDigits_29 rfl ?_
      refine ax_iload_n dX3_paintingDigits_30 rfl ?_
      refine ax_iload_n dX3_paintingDigits_31 rfl ?_
      refine ax_iload dX3_paintingDigits_32 rfl ?_
      refine ax_cviP3 dX3_paintingDigits_34 ln_X3_paintingDigits_120 (Nat.le_of_ble_eq_true rfl) (Or.inl rfl) hS.n0 hS.o rfl (sp_patternColour hS hK hp hl (by omega)) ?_
      refine ax_if_eq (tgt := 44) dX3_paintingDigits_37 (by decide) (by have := (hK.2.2.2.2.2.2.2.2 p hp).2.2 (7 * l + d) (by omega); omega) (fun c37 => ?_) (fun c37 => ?_)
      · refine ax_iconst dX3_paintingDigits_44 ?_
        refine ax_iadd dX3_paintingDigits_45 ?_
        refine ax_istore_n dX3_paintingDigits_46 rfl (by decide) ?_
        refine ax_iinc dX3_paintingDigits_47 rfl rfl (by decide) ?_
        refine ax_goto (tgt := 17) dX3_paintingDigits_50 (by decide) ?_
        refine ih (d + 1) _ (by omega) ?_
        rw [si_succ, ha, Int.add_assoc]; congr 2; unfold pntL pcN; first | rw [if_pos (by omega)] | rw [if_neg (by omega)]
      · refine ax_iconst dX3_paintingDigits_40 ?_
        refine ax_goto (tgt := 45) dX3_paintingDigits_41 (by decide) ?_
        refine ax_iadd dX3_paintingDigits_45 ?_
        refine ax_istore_n dX3_paintingDigits_46 rfl (by decide) ?_
        refine ax_iinc dX3_paintingDigits_47 rfl rfl (by decide) ?_
        refine ax_goto (tgt := 17) dX3_paintingDigits_50 (by decide) ?_
        refine ih (d + 1) _ (by omega) ?_
        rw [si_succ, ha, Int.add_assoc]; congr 2; unfold pntL pcN; first | rw [if_pos (by omega)] | rw [if_neg (by omega)]
theorem lo_painting (hS : SA NC h b K) (hK : KI K) {p : Nat} (hp : p < 3) (kk : ∀ w : Value, Ex NC none M_X3_paintingDigits 59 [.ref b, .int (I (p : Int)), .int (I (pntC K p)), .int (I (K (615 + 44 * p) : Int)), w] [] h Q) : ∀ (n : Nat) (l : Nat) (acc : Int) (w : Value), l + n = K (615 + 44 * p) → acc = si (fun l => si (pntL K p l) (K (614 + 44 * p))) l → Ex NC none M_X3_paintingDigits 4 [.ref b, .int (I (p : Int)), .int (I acc), .int (I (l : Int)), w] [] h Q := by
  have kp := hK.2.2.2.2.2.2.2.2 p hp
  intro n
  induction n with
  | zero =>
    intro l acc w hl ha
    refine ax_iload_n dX3_paintingDigits_4 rfl ?_
    refine ax_aload_n dX3_paintingDigits_5 rfl ?_
    refine ax_getf dX3_paintingDigits_6 ck3 fl_X3_21 (by decide) hS.n0 hS.o rfl ?_
    refine ax_iload_n dX3_paintingDigits_9 rfl ?_
    refine ax_ialr (j := p) (w := (K (615 + 44 * p) : Int)) dX3_paintingDigits_10 (hS.n 4 (by omega)) hS.pl (by omega) (by omega) (by decide) rfl ?_
    refine ax_icmp_ge (tgt := 59) dX3_paintingDigits_11 (by decide) (by omega) (by omega) (fun c11 => ?_) (fun c11 => ?_)
    · have e : l = K (615 + 44 * p) := by omega
      subst e
      rw [ha]
      exact kk w
    · exfalso
      omega
  | succ n ih =>
    intro l acc w hl ha
    refine ax_iload_n dX3_paintingDigits_4 rfl ?_
    refine ax_aload_n dX3_paintingDigits_5 rfl ?_
    refine ax_getf dX3_paintingDigits_6 ck3 fl_X3_21 (by decide) hS.n0 hS.o rfl ?_
    refine ax_iload_n dX3_paintingDigits_9 rfl ?_
    refine ax_ialr (j := p) (w := (K (615 + 44 * p) : Int)) dX3_paintingDigits_10 (hS.n 4 (by omega)) hS.pl (by omega) (by omega) (by decide) rfl ?_
    refine ax_icmp_ge (tgt := 59) dX3_paintingDigits_11 (by decide) (by omega) (by omega) (fun c11 => ?_) (fun c11 => ?_)
    · exfalso
      omega
    · refine ax_iconst dX3_paintingDigits_14 ?_
      refine ax_istore dX3_paintingDigits_15 rfl (by decide) ?_
      refine li_painting hS hK hp (by omega) (a0 := acc) ?_ (K (614 + 44 * p)) 0 acc (by omega) (by show acc = acc + 0; omega)
      refine ax_iinc dX3_paintingDigits_53 rfl rfl (by decide) ?_
      refine ax_goto (tgt := 4) dX3_paintingDigits_56 (by decide) ?_
      exact ih (l + 1) _ _ (by omega) (by rw [si_succ, ← ha])
theorem sp_paintingDigits (hS : SA NC h b K) (hK : KI K) {p : Nat} (hp : p < 3) : Cl NC M_X3_paintingDigits [.ref b, .int (I (p : Int))] h (fun v h1 => v = .int (I (pntC K p)) ∧ h1 = h) := by
  refine ax_iconst dX3_paintingDigits_0 ?_
  refine ax_istore_n dX3_paintingDigits_1 rfl (by decide) ?_
  refine ax_iconst dX3_paintingDigits_2 ?_
  refine ax_istore_n dX3_paintingDigits_3 rfl (by decide) ?_
  refine lo_painting hS hK hp (fun w => ?_) (K (615 + 44 * p)) 0 0 .null (by omega) rfl
  refine ax_iload_n dX3_paintingDigits_59 rfl ?_
  exact ax_iret dX3_paintingDigits_60 rfl ⟨rfl, rfl⟩
end SM
