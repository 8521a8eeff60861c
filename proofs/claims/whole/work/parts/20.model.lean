/-! the reference: its object at 112, its rows at 113 .. 130; s: the object's numbers by their places -/
def modF (s : Nat → Int) : List Value := [.int (I (s 0)), .ref 113, .int (I (s 2)), .int (I (s 3)), .int (I (s 4)), .int (I (s 5)), .int (I (s 6)), .int (I (s 7)), .ref 114, .ref 115, .ref 116, .ref 117, .int (I (s 12)), .int (I (s 13)), .int (I (s 14)), .int (I (s 15)), .ref 126, .ref 127, .ref 128, .ref 129, .ref 130]
def MD (h : hp) (s : Nat → Int) (K : Nat → Nat) : Prop := h 112 = .inr (6, modF s) ∧ row 0 (h 114) 746 (fun i => (K i : Int))
theorem abs_I {z : Int} (hz : -2147483648 < z ∧ z < 2147483648) : (if 0 ≤ I z then I z else -(I z)) = I (max z (-z)) := by
  rw [I_0, I_neg]
  simp only [I_le (show -2147483648 ≤ (0 : Int) ∧ (0 : Int) < 2147483648 by omega) (show -2147483648 ≤ z ∧ z < 2147483648 by omega)]
  by_cases h : 0 ≤ z
  · rw [if_pos h]; congr 1; omega
  · rw [if_neg h]; congr 1; omega
theorem sgn_I {z : Int} (hz : -2147483648 ≤ z ∧ z < 2147483648) : (if I z < 0 then (-1 : Int32) else if I z = 0 then 0 else 1) = I (sgz z) := by
  have := cmp_sgz hz (show -2147483648 ≤ (0 : Int) ∧ (0 : Int) < 2147483648 by omega)
  rw [← I_0, Int.sub_zero] at this
  exact this
def KS (K : Nat → Nat) : Prop := (K 0 % 2 = 1 ∧ K 0 ≤ 15 ∧ 1 ≤ K 1 ∧ K 1 ≤ 12) ∧ ∀ y, y < 12 → K (6 + y) ≤ K 0 / 2
theorem KI.ks {K : Nat → Nat} (hK : KI K) : KS K := ⟨by have := hK.1; omega, hK.2.1⟩
def blC (K : Nat → Nat) (c : Nat) : Int := blN K (c % K 0) (c / K 0)
theorem cd_eq {K : Nat → Nat} (c : Nat) : c / K 0 * K 0 + c % K 0 = c := by rw [Nat.mul_comm]; exact Nat.div_add_mod c (K 0)
section MM
variable {NC : Nat} {h : hp} {s : Nat → Int} {K : Nat → Nat} {Q : qt}
theorem s6_in {x lo hi : Int} (gx : -2147483648 ≤ x ∧ x < 2147483648) (glo : -2147483648 ≤ lo ∧ lo < 2147483648) (ghi : -2147483648 ≤ hi ∧ hi < 2147483648) : Cl NC M_X6_in [.int (I x), .int (I lo), .int (I hi)] h (fun v h1 => v = .int (I (if lo ≤ x ∧ x ≤ hi then 1 else 0)) ∧ h1 = h) := by
  refine ax_iload_n dX6_in_0 rfl ?_
  refine ax_iload_n dX6_in_1 rfl ?_
  refine ax_icmp_lt (tgt := 14) dX6_in_2 (by decide) gx glo (fun c2 => ?_) (fun c2 => ?_)
  · refine ax_iconst dX6_in_14 ?_
    exact ax_zret dX6_in_15 rfl (by first | exact Or.inl rfl | exact Or.inr rfl) ⟨by first | rw [if_pos (by omega)] | rw [if_neg (by omega)], rfl⟩
  · refine ax_iload_n dX6_in_5 rfl ?_
    refine ax_iload_n dX6_in_6 rfl ?_
    refine ax_icmp_gt (tgt := 14) dX6_in_7 (by decide) gx ghi (fun c7 => ?_) (fun c7 => ?_)
    · refine ax_iconst dX6_in_14 ?_
      exact ax_zret dX6_in_15 rfl (by first | exact Or.inl rfl | exact Or.inr rfl) ⟨by first | rw [if_pos (by omega)] | rw [if_neg (by omega)], rfl⟩
    · refine ax_iconst dX6_in_10 ?_
      refine ax_goto (tgt := 15) dX6_in_11 (by decide) ?_
      exact ax_zret dX6_in_15 rfl (by first | exact Or.inl rfl | exact Or.inr rfl) ⟨by first | rw [if_pos (by omega)] | rw [if_neg (by omega)], rfl⟩
theorem s6_max {x w : Int} (gx : -2147483648 ≤ x ∧ x < 2147483648) (gw : -2147483648 ≤ w ∧ w < 2147483648) : Cl NC M_X6_max [.int (I x), .int (I w)] h (fun v h1 => v = .int (I (max x w)) ∧ h1 = h) := by
  refine ax_iload_n dX6_max_0 rfl ?_
  refine ax_iload_n dX6_max_1 rfl ?_
  refine ax_icmp_le (tgt := 9) dX6_max_2 (by decide) gx gw (fun c2 => ?_) (fun c2 => ?_)
  · refine ax_iload_n dX6_max_9 rfl ?_
    exact ax_iret dX6_max_10 rfl ⟨iq (by omega), rfl⟩
  · refine ax_iload_n dX6_max_5 rfl ?_
    refine ax_goto (tgt := 10) dX6_max_6 (by decide) ?_
    exact ax_iret dX6_max_10 rfl ⟨iq (by omega), rfl⟩
theorem s6_min {x w : Int} (gx : -2147483648 ≤ x ∧ x < 2147483648) (gw : -2147483648 ≤ w ∧ w < 2147483648) : Cl NC M_X6_min [.int (I x), .int (I w)] h (fun v h1 => v = .int (I (min x w)) ∧ h1 = h) := by
  refine ax_iload_n dX6_min_0 rfl ?_
  refine ax_iload_n dX6_min_1 rfl ?_
  refine ax_icmp_ge (tgt := 9) dX6_min_2 (by decide) gx gw (fun c2 => ?_) (fun c2 => ?_)
  · refine ax_iload_n dX6_min_9 rfl ?_
    exact ax_iret dX6_min_10 rfl ⟨iq (by omega), rfl⟩
  · refine ax_iload_n dX6_min_5 rfl ?_
    refine ax_goto (tgt := 10) dX6_min_6 (by decide) ?_
    exact ax_iret dX6_min_10 rfl ⟨iq (by omega), rfl⟩
theorem s6_isSail {r : Nat} (hn : r < NC) (hr : row 0 (h r) 746 (fun i => (K i : Int))) (hK : KS K) {x y : Int} (gx : -2147483648 ≤ x ∧ x < 2147483648) (gy : -2147483648 ≤ y ∧ y < 2147483648) : Cl NC M_X6_isSail [.ref r, .int (I x), .int (I y)] h (fun v h1 => v = .int (I (if onZ K x y = true then 1 else 0)) ∧ h1 = h) := by
  have k0 := hK.1
  have fin0 : ∀ (L : List Value), ¬ onZ K x y = true → Ex NC none M_X6_isSail 49 L [] h (fun v h1 => v = .int (I (if onZ K x y = true then 1 else 0)) ∧ h1 = h) := by
    intro L hn
    refine ax_iconst dX6_isSail_49 ?_
    exact ax_zret dX6_isSail_50 rfl (Or.inl rfl) ⟨by rw [if_neg hn], rfl⟩
  refine ax_iload_n dX6_isSail_0 rfl ?_
  refine ax_iconst dX6_isSail_1 ?_
  refine ax_aload_n dX6_isSail_2 rfl ?_
  refine ax_iconst dX6_isSail_3 ?_
  refine ax_ialr (j := 1) (w := (K (1) : Int)) dX6_isSail_4 hn hr (by omega) (by omega) (by decide) rfl ?_
  refine ax_iconst dX6_isSail_5 ?_
  refine ax_isub dX6_isSail_6 ?_
  refine ax_csiP3 dX6_isSail_7 ln_X6_isSail_54 (Nat.le_of_ble_eq_true rfl) (Or.inr rfl) (s6_in gy (by omega) (by omega)) ?_
  refine ax_if_eq (tgt := 49) dX6_isSail_10 (by decide) (by split <;> omega) (fun c10 => ?_) (fun c10 => ?_)
  · have hc : ¬ (0 ≤ y ∧ y ≤ (K 1 : Int) - 1) := fun z => by rw [if_pos z] at c10; omega
    exact fin0 _ (by rw [onZ_iff]; omega)
  · have hc : 0 ≤ y ∧ y ≤ (K 1 : Int) - 1 := by by_cases z : 0 ≤ y ∧ y ≤ (K 1 : Int) - 1; exact z; rw [if_neg z] at c10; omega
    obtain ⟨j, rfl⟩ : ∃ j : Nat, y = (j : Int) := ⟨y.toNat, by omega⟩
    have k1 := hK.2 j (by omega)
    refine ax_iload_n dX6_isSail_13 rfl ?_
    refine ax_iconst dX6_isSail_14 ?_
    refine ax_aload_n dX6_isSail_15 rfl ?_
    refine ax_iconst dX6_isSail_16 ?_
    refine ax_ialr (j := 0) (w := (K (0) : Int)) dX6_isSail_17 hn hr (by omega) (by omega) (by decide) rfl ?_
    refine ax_iconst dX6_isSail_18 ?_
    refine ax_isub dX6_isSail_19 ?_
    refine ax_csiP3 dX6_isSail_20 ln_X6_isSail_54 (Nat.le_of_ble_eq_true rfl) (Or.inr rfl) (s6_in (by omega) (by omega) (by omega)) ?_
    refine ax_if_eq (tgt := 49) dX6_isSail_23 (by decide) (by split <;> omega) (fun c23 => ?_) (fun c23 => ?_)
    · have hd : ¬ (0 ≤ x ∧ x ≤ (K 0 : Int) - 1) := fun z => by rw [if_pos z] at c23; omega
      exact fin0 _ (by rw [onZ_iff]; rw [Int.toNat_natCast]; omega)
    · refine ax_iload_n dX6_isSail_26 rfl ?_
      refine ax_aload_n dX6_isSail_27 rfl ?_
      refine ax_iconst dX6_isSail_28 ?_
      refine ax_ialr (j := 0) (w := (K (0) : Int)) dX6_isSail_29 hn hr (by omega) (by omega) (by decide) rfl ?_
      refine ax_iconst dX6_isSail_30 ?_
      refine ax_idiv dX6_isSail_31 (by omega) (by omega) ?_
      refine ax_isub dX6_isSail_32 ?_
      refine ex_l_abs (by exact dX6_isSail_33) (by decide) (show 2 ≤ _ ∧ 50 ≤ _ from ⟨by decide, by decide⟩) (Nat.le_of_ble_eq_true rfl) ?_
      rw [abs_I (by omega)]
      refine ax_aload_n dX6_isSail_36 rfl ?_
      refine ax_bipush dX6_isSail_37 (by decide) ?_
      refine ax_iload_n dX6_isSail_39 rfl ?_
      refine ax_iadd dX6_isSail_40 ?_
      refine ax_ialr (j := (6 + j)) (w := (K ((6 + j)) : Int)) dX6_isSail_41 hn hr (by omega) (by omega) (by decide) rfl ?_
      refine ax_icmp_gt (tgt := 49) dX6_isSail_42 (by decide) (by omega) (by omega) (fun c42 => ?_) (fun c42 => ?_)
      · exact fin0 _ (by rw [onZ_iff]; rw [Int.toNat_natCast]; omega)
      · refine ax_iconst dX6_isSail_45 ?_
        refine ax_goto (tgt := 50) dX6_isSail_46 (by decide) ?_
        exact ax_zret dX6_isSail_50 rfl (by first | exact Or.inl rfl | exact Or.inr rfl) ⟨by rw [if_pos (by rw [onZ_iff, Int.toNat_natCast]; omega)], rfl⟩
theorem s6_cells (hN : 132 ≤ NC) (hM : MD h s K) (hK : KI K) : Cl NC M_X6_cells [.ref 112] h (fun v h1 => v = .int (I (nC K : Int)) ∧ h1 = h) := by
  refine ax_aload_n dX6_cells_0 rfl ?_
  refine ax_getf dX6_cells_1 ck6 fl_X6_17 (by decide) (by omega) hM.1 rfl ?_
  refine ax_iconst dX6_cells_4 ?_
  refine ax_ialr (j := 0) (w := (K (0) : Int)) dX6_cells_5 (by omega) hM.2 (by omega) (by omega) (by decide) rfl ?_
  refine ax_aload_n dX6_cells_6 rfl ?_
  refine ax_getf dX6_cells_7 ck6 fl_X6_17 (by decide) (by omega) hM.1 rfl ?_
  refine ax_iconst dX6_cells_10 ?_
  refine ax_ialr (j := 1) (w := (K (1) : Int)) dX6_cells_11 (by omega) hM.2 (by omega) (by omega) (by decide) rfl ?_
  refine ax_imul dX6_cells_12 ?_
  exact ax_iret dX6_cells_13 rfl ⟨iq (by unfold nC; push_cast; rfl), rfl⟩
theorem s6_xOf (hN : 132 ≤ NC) (hM : MD h s K) (hK : KI K) {c : Nat} (hc : c < 180) : Cl NC M_X6_xOf [.ref 112, .int (I (c : Int))] h (fun v h1 => v = .int (I ((c % K 0 : Nat) : Int)) ∧ h1 = h) := by
  have k0 := hK.1
  refine ax_iload_n dX6_xOf_0 rfl ?_
  refine ax_aload_n dX6_xOf_1 rfl ?_
  refine ax_getf dX6_xOf_2 ck6 fl_X6_17 (by decide) (by omega) hM.1 rfl ?_
  refine ax_iconst dX6_xOf_5 ?_
  refine ax_ialr (j := 0) (w := (K (0) : Int)) dX6_xOf_6 (by omega) hM.2 (by omega) (by omega) (by decide) rfl ?_
  refine ax_irem dX6_xOf_7 (by omega) (by omega) ?_
  exact ax_iret dX6_xOf_8 rfl ⟨iq (by push_cast; rfl), rfl⟩
theorem s6_yOf (hN : 132 ≤ NC) (hM : MD h s K) (hK : KI K) {c : Nat} (hc : c < 180) : Cl NC M_X6_yOf [.ref 112, .int (I (c : Int))] h (fun v h1 => v = .int (I ((c / K 0 : Nat) : Int)) ∧ h1 = h) := by
  have k0 := hK.1
  refine ax_iload_n dX6_yOf_0 rfl ?_
  refine ax_aload_n dX6_yOf_1 rfl ?_
  refine ax_getf dX6_yOf_2 ck6 fl_X6_17 (by decide) (by omega) hM.1 rfl ?_
  refine ax_iconst dX6_yOf_5 ?_
  refine ax_ialr (j := 0) (w := (K (0) : Int)) dX6_yOf_6 (by omega) hM.2 (by omega) (by omega) (by decide) rfl ?_
  refine ax_idiv dX6_yOf_7 (by omega) (by omega) ?_
  exact ax_iret dX6_yOf_8 rfl ⟨iq (by push_cast; rfl), rfl⟩
theorem s6_isOf (hN : 132 ≤ NC) (hM : MD h s K) (hK : KI K) {x y : Int} (gx : -2147483648 ≤ x ∧ x < 2147483648) (gy : -2147483648 ≤ y ∧ y < 2147483648) : Cl NC M_X6_isOf [.ref 112, .int (I x), .int (I y)] h (fun v h1 => v = .int (I (if onZ K x y = true then 1 else 0)) ∧ h1 = h) := by
  refine ax_aload_n dX6_isOf_0 rfl ?_
  refine ax_getf dX6_isOf_1 ck6 fl_X6_17 (by decide) (by omega) hM.1 rfl ?_
  refine ax_iload_n dX6_isOf_4 rfl ?_
  refine ax_iload_n dX6_isOf_5 rfl ?_
  refine ax_csiP3 dX6_isOf_6 ln_X6_isOf_136 (Nat.le_of_ble_eq_true rfl) (Or.inr rfl) (s6_isSail (by omega) hM.2 hK.ks gx gy) ?_
  exact ax_zret dX6_isOf_9 rfl (by split; exact Or.inr rfl; exact Or.inl rfl) ⟨rfl, rfl⟩
theorem s6_isCell (hN : 132 ≤ NC) (hM : MD h s K) (hK : KI K) {c : Nat} (hc : c < 180) : Cl NC M_X6_isCell [.ref 112, .int (I (c : Int))] h (fun v h1 => v = .int (I (if on K c = true then 1 else 0)) ∧ h1 = h) := by
  have k0 := hK.1
  have d1 : c % K 0 < 180 := Nat.lt_of_le_of_lt (Nat.mod_le _ _) hc
  have d2 : c / K 0 < 180 := Nat.lt_of_le_of_lt (Nat.div_le_self _ _) hc
  have d3 : (0 : Int) ≤ ((c / K 0 : Nat) : Int) := Int.natCast_nonneg _
  have d4 : (0 : Int) ≤ ((c % K 0 : Nat) : Int) := Int.natCast_nonneg _
  refine ax_aload_n dX6_isCell_0 rfl ?_
  refine ax_aload_n dX6_isCell_1 rfl ?_
  refine ax_iload_n dX6_isCell_2 rfl ?_
  refine ax_cviP1 dX6_isCell_3 ln_X6_isCell_192 (Nat.le_of_ble_eq_true rfl) (Or.inl rfl) (by omega) hM.1 rfl (s6_xOf hN hM hK hc) ?_
  refine ax_aload_n dX6_isCell_6 rfl ?_
  refine ax_iload_n dX6_isCell_7 rfl ?_
  refine ax_cviP1 dX6_isCell_8 ln_X6_isCell_195 (Nat.le_of_ble_eq_true rfl) (Or.inl rfl) (by omega) hM.1 rfl (s6_yOf hN hM hK hc) ?_
  refine ax_cviP2 dX6_isCell_11 ln_X6_isCell_198 (Nat.le_of_ble_eq_true rfl) (Or.inr rfl) (by omega) hM.1 rfl (s6_isOf hN hM hK (by omega) (by omega)) ?_
  exact ax_zret dX6_isCell_14 rfl (by split; exact Or.inr rfl; exact Or.inl rfl) ⟨rfl, rfl⟩
theorem s6_mirrorOf (hN : 132 ≤ NC) (hM : MD h s K) (hK : KI K) {c : Nat} (hc : c < 180) : Cl NC M_X6_mirrorOf [.ref 112, .int (I (c : Int))] h (fun v h1 => v = .int (I (mirN K c : Int)) ∧ h1 = h) := by
  have k0 := hK.1
  have d1 : c % K 0 < K 0 := Nat.mod_lt _ (by omega)
  refine ax_aload_n dX6_mirrorOf_0 rfl ?_
  refine ax_iload_n dX6_mirrorOf_1 rfl ?_
  refine ax_cviP1 dX6_mirrorOf_2 ln_X6_mirrorOf_195 (Nat.le_of_ble_eq_true rfl) (Or.inl rfl) (by omega) hM.1 rfl (s6_yOf hN hM hK hc) ?_
  refine ax_aload_n dX6_mirrorOf_5 rfl ?_
  refine ax_getf dX6_mirrorOf_6 ck6 fl_X6_17 (by decide) (by omega) hM.1 rfl ?_
  refine ax_iconst dX6_mirrorOf_9 ?_
  refine ax_ialr (j := 0) (w := (K (0) : Int)) dX6_mirrorOf_10 (by omega) hM.2 (by omega) (by omega) (by decide) rfl ?_
  refine ax_imul dX6_mirrorOf_11 ?_
  refine ax_aload_n dX6_mirrorOf_12 rfl ?_
  refine ax_getf dX6_mirrorOf_13 ck6 fl_X6_17 (by decide) (by omega) hM.1 rfl ?_
  refine ax_iconst dX6_mirrorOf_16 ?_
  refine ax_ialr (j := 0) (w := (K (0) : Int)) dX6_mirrorOf_17 (by omega) hM.2 (by omega) (by omega) (by decide) rfl ?_
  refine ax_iadd dX6_mirrorOf_18 ?_
  refine ax_iconst dX6_mirrorOf_19 ?_
  refine ax_isub dX6_mirrorOf_20 ?_
  refine ax_aload_n dX6_mirrorOf_21 rfl ?_
  refine ax_iload_n dX6_mirrorOf_22 rfl ?_
  refine ax_cviP1 dX6_mirrorOf_23 ln_X6_mirrorOf_192 (Nat.le_of_ble_eq_true rfl) (Or.inl rfl) (by omega) hM.1 rfl (s6_xOf hN hM hK hc) ?_
  refine ax_isub dX6_mirrorOf_26 ?_
  exact ax_iret dX6_mirrorOf_27 rfl ⟨iq (by unfold mirN; generalize c / K 0 = q; generalize c % K 0 = r at *; push_cast; omega), rfl⟩
theorem s6_mixOf (hN : 132 ≤ NC) (hM : MD h s K) (hK : KI K) {a c : Nat} (ha : a < 7) (hc : c < 7) : Cl NC M_X6_mixOf [.ref 112, .int (I (a : Int)), .int (I (c : Int))] h (fun v h1 => v = .int (I (mixN K a c : Int)) ∧ h1 = h) := by
  have k4 := hK.2.2.2.1 (a * 7 + c) (by omega)
  refine ax_aload_n dX6_mixOf_0 rfl ?_
  refine ax_getf dX6_mixOf_1 ck6 fl_X6_17 (by decide) (by omega) hM.1 rfl ?_
  refine ax_bipush dX6_mixOf_4 (by decide) ?_
  refine ax_bipush dX6_mixOf_6 (by decide) ?_
  refine ax_iload_n dX6_mixOf_8 rfl ?_
  refine ax_imul dX6_mixOf_9 ?_
  refine ax_iadd dX6_mixOf_10 ?_
  refine ax_iload_n dX6_mixOf_11 rfl ?_
  refine ax_iadd dX6_mixOf_12 ?_
  refine ax_ialr (j := (25 + (a * 7 + c))) (w := (K ((25 + (a * 7 + c))) : Int)) dX6_mixOf_13 (by omega) hM.2 (by omega) (by omega) (by decide) rfl ?_
  refine ax_istore_n dX6_mixOf_14 rfl (by decide) ?_
  refine ax_iload_n dX6_mixOf_15 rfl ?_
  refine ax_iload_n dX6_mixOf_16 rfl ?_
  refine ax_icmp_ne (tgt := 24) dX6_mixOf_17 (by decide) (by omega) (by omega) (fun c17 => ?_) (fun c17 => ?_)
  · refine ax_iload_n dX6_mixOf_24 rfl ?_
    refine ax_if_le (tgt := 32) dX6_mixOf_25 (by decide) (by omega) (fun c25 => ?_) (fun c25 => ?_)
    · refine ax_iload_n dX6_mixOf_32 rfl ?_
      refine ax_iload_n dX6_mixOf_33 rfl ?_
      refine ax_csiP2 dX6_mixOf_34 ln_X6_mixOf_202 (Nat.le_of_ble_eq_true rfl) (Or.inl rfl) (s6_max (by omega) (by omega)) ?_
      try rw [show max (a : Int) (c : Int) = ((max a c : Nat) : Int) by omega]
      exact ax_iret dX6_mixOf_37 rfl ⟨iq (by unfold mixN; first | (rw [if_pos (by omega)]; done) | rw [if_neg (by omega)]; first | rw [if_pos (by omega)] | rw [if_neg (by omega)]), rfl⟩
    · refine ax_iload_n dX6_mixOf_28 rfl ?_
      refine ax_goto (tgt := 37) dX6_mixOf_29 (by decide) ?_
      try rw [show max (a : Int) (c : Int) = ((max a c : Nat) : Int) by omega]
      exact ax_iret dX6_mixOf_37 rfl ⟨iq (by unfold mixN; first | (rw [if_pos (by omega)]; done) | rw [if_neg (by omega)]; first | rw [if_pos (by omega)] | rw [if_neg (by omega)]), rfl⟩
  · refine ax_iload_n dX6_mixOf_20 rfl ?_
    refine ax_goto (tgt := 37) dX6_mixOf_21 (by decide) ?_
    try rw [show max (a : Int) (c : Int) = ((max a c : Nat) : Int) by omega]
    exact ax_iret dX6_mixOf_37 rfl ⟨iq (by unfold mixN; first | (rw [if_pos (by omega)]; done) | rw [if_neg (by omega)]; first | rw [if_pos (by omega)] | rw [if_neg (by omega)]), rfl⟩
theorem l6_sailCells (hN : 132 ≤ NC) (hM : MD h s K) (hK : KI K) (kk : Ex NC none M_X6_sailCells 34 [.ref 112, .int (I (allC K)), .int (I (nC K : Int))] [] h Q) : ∀ (n : Nat) (c : Nat) (acc : Int), c + n = nC K → acc = si (cfA K) c → Ex NC none M_X6_sailCells 4 [.ref 112, .int (I (acc : Int)), .int (I (c : Int))] [] h Q := by
  have n0 := nC_le hK
  have k0 := hK.1
  intro n
  induction n with
  | zero =>
    intro c acc hc ha
    refine ax_iload_n dX6_sailCells_4 rfl ?_
    refine ax_aload_n dX6_sailCells_5 rfl ?_
    refine ax_cviP0 dX6_sailCells_6 ln_X6_sailCells_205 (Nat.le_of_ble_eq_true rfl) (Or.inl rfl) (by omega) hM.1 rfl (s6_cells hN hM hK) ?_
    refine ax_icmp_ge (tgt := 34) dX6_sailCells_9 (by decide) (by omega) (by omega) (fun c9 => ?_) (fun c9 => ?_)
    · have e : c = nC K := by omega
      subst e
      rw [ha]
      exact kk
    · exfalso
      omega
  | succ n ih =>
    intro c acc hc ha
    refine ax_iload_n dX6_sailCells_4 rfl ?_
    refine ax_aload_n dX6_sailCells_5 rfl ?_
    refine ax_cviP0 dX6_sailCells_6 ln_X6_sailCells_205 (Nat.le_of_ble_eq_true rfl) (Or.inl rfl) (by omega) hM.1 rfl (s6_cells hN hM hK) ?_
    refine ax_icmp_ge (tgt := 34) dX6_sailCells_9 (by decide) (by omega) (by omega) (fun c9 => ?_) (fun c9 => ?_)
    · exfalso
      omega
    · refine ax_iload_n dX6_sailCells_12 rfl ?_
      refine ax_aload_n dX6_sailCells_13 rfl ?_
      refine ax_iload_n dX6_sailCells_14 rfl ?_
      refine ax_cviP1 dX6_sailCells_15 ln_X6_sailCells_208 (Nat.le_of_ble_eq_true rfl) (Or.inr rfl) (by omega) hM.1 rfl (s6_isCell hN hM hK (by omega)) ?_
      refine ax_if_eq (tgt := 25) dX6_sailCells_18 (by decide) (by split <;> omega) (fun c18 => ?_) (fun c18 => ?_)
      · have hon : ¬ on K c = true := fun z => by rw [if_pos z] at c18; omega
        refine ax_iconst dX6_sailCells_25 ?_
        refine ax_iadd dX6_sailCells_26 ?_
        refine ax_istore_n dX6_sailCells_27 rfl (by decide) ?_
        refine ax_iinc dX6_sailCells_28 rfl rfl (by decide) ?_
        refine ax_goto (tgt := 4) dX6_sailCells_31 (by decide) ?_
        refine ih (c + 1) _ (by omega) ?_
        rw [si_succ, ha]; congr 1; unfold cfA; first | (rw [if_pos (hon)]; done) | rw [if_neg (hon)]
      · have hon : on K c = true := by by_cases z : on K c = true; exact z; rw [if_neg z] at c18; omega
        refine ax_iconst dX6_sailCells_21 ?_
        refine ax_goto (tgt := 26) dX6_sailCells_22 (by decide) ?_
        refine ax_iadd dX6_sailCells_26 ?_
        refine ax_istore_n dX6_sailCells_27 rfl (by decide) ?_
        refine ax_iinc dX6_sailCells_28 rfl rfl (by decide) ?_
        refine ax_goto (tgt := 4) dX6_sailCells_31 (by decide) ?_
        refine ih (c + 1) _ (by omega) ?_
        rw [si_succ, ha]; congr 1; unfold cfA; first | (rw [if_pos (hon)]; done) | rw [if_neg (hon)]
theorem s6_sailCells (hN : 132 ≤ NC) (hM : MD h s K) (hK : KI K) : Cl NC M_X6_sailCells [.ref 112] h (fun v h1 => v = .int (I (allC K)) ∧ h1 = h) := by
  refine ax_iconst dX6_sailCells_0 ?_
  refine ax_istore_n dX6_sailCells_1 rfl (by decide) ?_
  refine ax_iconst dX6_sailCells_2 ?_
  refine ax_istore_n dX6_sailCells_3 rfl (by decide) ?_
  refine l6_sailCells hN hM hK ?_ (nC K) 0 0 (by omega) rfl
  refine ax_iload_n dX6_sailCells_34 rfl ?_
  exact ax_iret dX6_sailCells_35 rfl ⟨rfl, rfl⟩
theorem s6_colourWeight (hN : 132 ≤ NC) (hM : MD h s K) (hK : KI K) {c : Nat} (hc : c < 7) : Cl NC M_X6_colourWeight [.ref 112, .int (I (c : Int))] h (fun v h1 => v = .int (I (K (18 + c) : Int)) ∧ h1 = h) := by
  have k0 := hK.1
  refine ax_iload_n dX6_colourWeight_0 rfl ?_
  refine ax_if_ne (tgt := 8) dX6_colourWeight_1 (by decide) (by omega) (fun c1 => ?_) (fun c1 => ?_)
  · refine ax_aload_n dX6_colourWeight_8 rfl ?_
    refine ax_getf dX6_colourWeight_9 ck6 fl_X6_17 (by decide) (by omega) hM.1 rfl ?_
    refine ax_bipush dX6_colourWeight_12 (by decide) ?_
    refine ax_iload_n dX6_colourWeight_14 rfl ?_
    refine ax_iadd dX6_colourWeight_15 ?_
    refine ax_ialr (j := (18 + c)) (w := (K ((18 + c)) : Int)) dX6_colourWeight_16 (by omega) hM.2 (by omega) (by omega) (by decide) rfl ?_
    exact ax_iret dX6_colourWeight_17 rfl ⟨iq (by first | rfl | (have e : c = 0 := (by omega); subst e; rw [Nat.add_zero]; have := k0.2.2.2.2.2.2.2; omega)), rfl⟩
  · refine ax_iconst dX6_colourWeight_4 ?_
    refine ax_goto (tgt := 17) dX6_colourWeight_5 (by decide) ?_
    exact ax_iret dX6_colourWeight_17 rfl ⟨iq (by first | rfl | (have e : c = 0 := (by omega); subst e; rw [Nat.add_zero]; have := k0.2.2.2.2.2.2.2; omega)), rfl⟩
theorem s6_weightOf (hN : 132 ≤ NC) (hM : MD h s K) (hK : KI K) {c : Nat} (hc : c < 180) : Cl NC M_X6_weightOf [.ref 112, .int (I (c : Int))] h (fun v h1 => v = .int (I (wgN K c : Int)) ∧ h1 = h) := by
  have k4 := hK.2.2.2.2.1 c hc
  refine ax_aload_n dX6_weightOf_0 rfl ?_
  refine ax_getf dX6_weightOf_1 ck6 fl_X6_17 (by decide) (by omega) hM.1 rfl ?_
  refine ax_iconst dX6_weightOf_4 ?_
  refine ax_ialr (j := 3) (w := (K (3) : Int)) dX6_weightOf_5 (by omega) hM.2 (by omega) (by omega) (by decide) rfl ?_
  refine ax_aload_n dX6_weightOf_6 rfl ?_
  refine ax_aload_n dX6_weightOf_7 rfl ?_
  refine ax_getf dX6_weightOf_8 ck6 fl_X6_17 (by decide) (by omega) hM.1 rfl ?_
  refine ax_bipush dX6_weightOf_11 (by decide) ?_
  refine ax_iload_n dX6_weightOf_13 rfl ?_
  refine ax_iadd dX6_weightOf_14 ?_
  refine ax_ialr (j := (74 + c)) (w := (K ((74 + c)) : Int)) dX6_weightOf_15 (by omega) hM.2 (by omega) (by omega) (by decide) rfl ?_
  refine ax_cviP1 dX6_weightOf_16 ln_X6_weightOf_211 (Nat.le_of_ble_eq_true rfl) (Or.inl rfl) (by omega) hM.1 rfl (s6_colourWeight hN hM hK (by omega)) ?_
  refine ax_iadd dX6_weightOf_19 ?_
  refine ax_aload_n dX6_weightOf_20 rfl ?_
  refine ax_getf dX6_weightOf_21 ck6 fl_X6_17 (by decide) (by omega) hM.1 rfl ?_
  refine ax_sipush dX6_weightOf_24 (by decide) ?_
  refine ax_iload_n dX6_weightOf_27 rfl ?_
  refine ax_iadd dX6_weightOf_28 ?_
  refine ax_ialr (j := (434 + c)) (w := (K ((434 + c)) : Int)) dX6_weightOf_29 (by omega) hM.2 (by omega) (by omega) (by decide) rfl ?_
  refine ax_aload_n dX6_weightOf_30 rfl ?_
  refine ax_getf dX6_weightOf_31 ck6 fl_X6_17 (by decide) (by omega) hM.1 rfl ?_
  refine ax_iconst dX6_weightOf_34 ?_
  refine ax_ialr (j := 4) (w := (K (4) : Int)) dX6_weightOf_35 (by omega) hM.2 (by omega) (by omega) (by decide) rfl ?_
  refine ax_imul dX6_weightOf_36 ?_
  refine ax_iadd dX6_weightOf_37 ?_
  exact ax_iret dX6_weightOf_38 rfl ⟨iq (by unfold wgN; push_cast; rfl), rfl⟩
theorem l6_weightAt (hN : 132 ≤ NC) (hM : MD h s K) (hK : KI K) {sd : Int} (hsd : -1 ≤ sd ∧ sd ≤ 1) (kk : Ex NC none M_X6_weightAt 59 [.ref 112, .int (I sd), .int (I (sidW K sd)), .int (I (nC K : Int))] [] h Q) : ∀ (n : Nat) (c : Nat) (acc : Int), c + n = nC K → acc = si (cfG K sd) c → Ex NC none M_X6_weightAt 4 [.ref 112, .int (I sd), .int (I (acc : Int)), .int (I (c : Int))] [] h Q := by
  have n0 := nC_le hK
  have k0 := hK.1
  intro n
  induction n with
  | zero =>
    intro c acc hc ha
    refine ax_iload_n dX6_weightAt_4 rfl ?_
    refine ax_aload_n dX6_weightAt_5 rfl ?_
    refine ax_cviP0 dX6_weightAt_6 ln_X6_weightAt_205 (Nat.le_of_ble_eq_true rfl) (Or.inl rfl) (by omega) hM.1 rfl (s6_cells hN hM hK) ?_
    refine ax_icmp_ge (tgt := 59) dX6_weightAt_9 (by decide) (by omega) (by omega) (fun c9 => ?_) (fun c9 => ?_)
    · have e : c = nC K := by omega
      subst e
      rw [ha]
      exact kk
    · exfalso
      omega
  | succ n ih =>
    intro c acc hc ha
    refine ax_iload_n dX6_weightAt_4 rfl ?_
    refine ax_aload_n dX6_weightAt_5 rfl ?_
    refine ax_cviP0 dX6_weightAt_6 ln_X6_weightAt_205 (Nat.le_of_ble_eq_true rfl) (Or.inl rfl) (by omega) hM.1 rfl (s6_cells hN hM hK) ?_
    refine ax_icmp_ge (tgt := 59) dX6_weightAt_9 (by decide) (by omega) (by omega) (fun c9 => ?_) (fun c9 => ?_)
    · exfalso
      omega
    · refine ax_iload_n dX6_weightAt_12 rfl ?_
      refine ax_aload_n dX6_weightAt_13 rfl ?_
      refine ax_iload_n dX6_weightAt_14 rfl ?_
      refine ax_cviP1 dX6_weightAt_15 ln_X6_weightAt_208 (Nat.le_of_ble_eq_true rfl) (Or.inr rfl) (by omega) hM.1 rfl (s6_isCell hN hM hK (by omega)) ?_
      refine ax_if_eq (tgt := 50) dX6_weightAt_18 (by decide) (by split <;> omega) (fun c18 => ?_) (fun c18 => ?_)
      · have hon : ¬ on K c = true := fun z => by rw [if_pos z] at c18; omega
        refine ax_iconst dX6_weightAt_50 ?_
        refine ax_iadd dX6_weightAt_51 ?_
        refine ax_istore_n dX6_weightAt_52 rfl (by decide) ?_
        refine ax_iinc dX6_weightAt_53 rfl rfl (by decide) ?_
        refine ax_goto (tgt := 4) dX6_weightAt_56 (by decide) ?_
        refine ih (c + 1) _ (by omega) ?_
        rw [si_succ, ha]; congr 1; unfold cfG sdN; first | (rw [if_pos (⟨hon, by push_cast; assumption⟩)]; done) | rw [if_neg (by rintro ⟨z1, z2⟩; first | exact hon z1 | (push_cast at z2; exact absurd z2 (by assumption)))]
      · have hon : on K c = true := by by_cases z : on K c = true; exact z; rw [if_neg z] at c18; omega
        refine ax_aload_n dX6_weightAt_21 rfl ?_
        refine ax_iload_n dX6_weightAt_22 rfl ?_
        refine ax_cviP1 dX6_weightAt_23 ln_X6_weightAt_192 (Nat.le_of_ble_eq_true rfl) (Or.inl rfl) (by omega) hM.1 rfl (s6_xOf hN hM hK (by omega)) ?_
        refine ax_aload_n dX6_weightAt_26 rfl ?_
        refine ax_getf dX6_weightAt_27 ck6 fl_X6_17 (by decide) (by omega) hM.1 rfl ?_
        refine ax_iconst dX6_weightAt_30 ?_
        refine ax_ialr (j := 0) (w := (K (0) : Int)) dX6_weightAt_31 (by omega) hM.2 (by omega) (by omega) (by decide) rfl ?_
        refine ax_iconst dX6_weightAt_32 ?_
        refine ax_idiv dX6_weightAt_33 (by omega) (by omega) ?_
        refine ax_isub dX6_weightAt_34 ?_
        refine ex_l_signum (by exact dX6_weightAt_35) (by decide) (show 2 ≤ _ ∧ 50 ≤ _ from ⟨by decide, by decide⟩) (Nat.le_of_ble_eq_true rfl) ?_
        rw [sgn_I (by have : c % K 0 ≤ c := Nat.mod_le _ _; omega)]
        refine ax_iload_n dX6_weightAt_38 rfl ?_
        refine ax_icmp_ne (tgt := 50) dX6_weightAt_39 (by decide) (by have := sgz_rg (((c % K 0 : Nat) : Int) - (K 0 : Int) / 2); omega) (by omega) (fun c39 => ?_) (fun c39 => ?_)
        · refine ax_iconst dX6_weightAt_50 ?_
          refine ax_iadd dX6_weightAt_51 ?_
          refine ax_istore_n dX6_weightAt_52 rfl (by decide) ?_
          refine ax_iinc dX6_weightAt_53 rfl rfl (by decide) ?_
          refine ax_goto (tgt := 4) dX6_weightAt_56 (by decide) ?_
          refine ih (c + 1) _ (by omega) ?_
          rw [si_succ, ha]; congr 1; unfold cfG sdN; first | (rw [if_pos (⟨hon, by push_cast; assumption⟩)]; done) | rw [if_neg (by rintro ⟨z1, z2⟩; first | exact hon z1 | (push_cast at z2; exact absurd z2 (by assumption)))]
        · refine ax_aload_n dX6_weightAt_42 rfl ?_
          refine ax_iload_n dX6_weightAt_43 rfl ?_
          refine ax_cviP1 dX6_weightAt_44 ln_X6_weightAt_219 (Nat.le_of_ble_eq_true rfl) (Or.inl rfl) (by omega) hM.1 rfl (s6_weightOf hN hM hK (by omega)) ?_
          refine ax_goto (tgt := 51) dX6_weightAt_47 (by decide) ?_
          refine ax_iadd dX6_weightAt_51 ?_
          refine ax_istore_n dX6_weightAt_52 rfl (by decide) ?_
          refine ax_iinc dX6_weightAt_53 rfl rfl (by decide) ?_
          refine ax_goto (tgt := 4) dX6_weightAt_56 (by decide) ?_
          refine ih (c + 1) _ (by omega) ?_
          rw [si_succ, ha]; congr 1; unfold cfG sdN; first | (rw [if_pos (⟨hon, by push_cast; assumption⟩)]; done) | rw [if_neg (by rintro ⟨z1, z2⟩; first | exact hon z1 | (push_cast at z2; exact absurd z2 (by assumption)))]
theorem s6_weightAt (hN : 132 ≤ NC) (hM : MD h s K) (hK : KI K) {sd : Int} (hsd : -1 ≤ sd ∧ sd ≤ 1) : Cl NC M_X6_weightAt [.ref 112, .int (I sd)] h (fun v h1 => v = .int (I (sidW K sd)) ∧ h1 = h) := by
  refine ax_iconst dX6_weightAt_0 ?_
  refine ax_istore_n dX6_weightAt_1 rfl (by decide) ?_
  refine ax_iconst dX6_weightAt_2 ?_
  refine ax_istore_n dX6_weightAt_3 rfl (by decide) ?_
  refine l6_weightAt hN hM hK hsd ?_ (nC K) 0 0 (by omega) rfl
  refine ax_iload_n dX6_weightAt_59 rfl ?_
  exact ax_iret dX6_weightAt_60 rfl ⟨rfl, rfl⟩
theorem s6_balance (hN : 132 ≤ NC) (hM : MD h s K) (hK : KI K) : Cl NC M_X6_balance [.ref 112] h (fun v h1 => v = .int (I (balW K)) ∧ h1 = h) := by
  refine ax_aload_n dX6_balance_0 rfl ?_
  refine ax_iconst dX6_balance_1 ?_
  refine ax_cviP1 dX6_balance_2 ln_X6_balance_222 (Nat.le_of_ble_eq_true rfl) (Or.inl rfl) (by omega) hM.1 rfl (s6_weightAt hN hM hK (by omega)) ?_
  refine ax_aload_n dX6_balance_5 rfl ?_
  refine ax_iconst dX6_balance_6 ?_
  refine ax_cviP1 dX6_balance_7 ln_X6_balance_222 (Nat.le_of_ble_eq_true rfl) (Or.inl rfl) (by omega) hM.1 rfl (s6_weightAt hN hM hK (by omega)) ?_
  refine ax_isub dX6_balance_10 ?_
  exact ax_iret dX6_balance_11 rfl ⟨rfl, rfl⟩
theorem l6_wetCells (hN : 132 ≤ NC) (hM : MD h s K) (hK : KI K) (kk : Ex NC none M_X6_wetCells 39 [.ref 112, .int (I (wetC K)), .int (I (nC K : Int))] [] h Q) : ∀ (n : Nat) (c : Nat) (acc : Int), c + n = nC K → acc = si (cfW K) c → Ex NC none M_X6_wetCells 4 [.ref 112, .int (I (acc : Int)), .int (I (c : Int))] [] h Q := by
  have n0 := nC_le hK
  have k0 := hK.1
  intro n
  induction n with
  | zero =>
    intro c acc hc ha
    refine ax_iload_n dX6_wetCells_4 rfl ?_
    refine ax_aload_n dX6_wetCells_5 rfl ?_
    refine ax_cviP0 dX6_wetCells_6 ln_X6_wetCells_205 (Nat.le_of_ble_eq_true rfl) (Or.inl rfl) (by omega) hM.1 rfl (s6_cells hN hM hK) ?_
    refine ax_icmp_ge (tgt := 39) dX6_wetCells_9 (by decide) (by omega) (by omega) (fun c9 => ?_) (fun c9 => ?_)
    · have e : c = nC K := by omega
      subst e
      rw [ha]
      exact kk
    · exfalso
      omega
  | succ n ih =>
    intro c acc hc ha
    refine ax_iload_n dX6_wetCells_4 rfl ?_
    refine ax_aload_n dX6_wetCells_5 rfl ?_
    refine ax_cviP0 dX6_wetCells_6 ln_X6_wetCells_205 (Nat.le_of_ble_eq_true rfl) (Or.inl rfl) (by omega) hM.1 rfl (s6_cells hN hM hK) ?_
    refine ax_icmp_ge (tgt := 39) dX6_wetCells_9 (by decide) (by omega) (by omega) (fun c9 => ?_) (fun c9 => ?_)
    · exfalso
      omega
    · refine ax_iload_n dX6_wetCells_12 rfl ?_
      refine ax_aload_n dX6_wetCells_13 rfl ?_
      refine ax_getf dX6_wetCells_14 ck6 fl_X6_17 (by decide) (by omega) hM.1 rfl ?_
      refine ax_sipush dX6_wetCells_17 (by decide) ?_
      refine ax_iload_n dX6_wetCells_20 rfl ?_
      refine ax_iadd dX6_wetCells_21 ?_
      refine ax_ialr (j := (254 + c)) (w := (K ((254 + c)) : Int)) dX6_wetCells_22 (by omega) hM.2 (by omega) (by omega) (by decide) rfl ?_
      refine ax_if_le (tgt := 30) dX6_wetCells_23 (by decide) (by have := hK.2.2.2.2.2.1 c (by omega); omega) (fun c23 => ?_) (fun c23 => ?_)
      · refine ax_iconst dX6_wetCells_30 ?_
        refine ax_iadd dX6_wetCells_31 ?_
        refine ax_istore_n dX6_wetCells_32 rfl (by decide) ?_
        refine ax_iinc dX6_wetCells_33 rfl rfl (by decide) ?_
        refine ax_goto (tgt := 4) dX6_wetCells_36 (by decide) ?_
        refine ih (c + 1) _ (by omega) ?_
        rw [si_succ, ha]; congr 1; unfold cfW; first | (rw [if_pos (by omega)]; done) | rw [if_neg (by omega)]
      · refine ax_iconst dX6_wetCells_26 ?_
        refine ax_goto (tgt := 31) dX6_wetCells_27 (by decide) ?_
        refine ax_iadd dX6_wetCells_31 ?_
        refine ax_istore_n dX6_wetCells_32 rfl (by decide) ?_
        refine ax_iinc dX6_wetCells_33 rfl rfl (by decide) ?_
        refine ax_goto (tgt := 4) dX6_wetCells_36 (by decide) ?_
        refine ih (c + 1) _ (by omega) ?_
        rw [si_succ, ha]; congr 1; unfold cfW; first | (rw [if_pos (by omega)]; done) | rw [if_neg (by omega)]
theorem s6_wetCells (hN : 132 ≤ NC) (hM : MD h s K) (hK : KI K) : Cl NC M_X6_wetCells [.ref 112] h (fun v h1 => v = .int (I (wetC K)) ∧ h1 = h) := by
  refine ax_iconst dX6_wetCells_0 ?_
  refine ax_istore_n dX6_wetCells_1 rfl (by decide) ?_
  refine ax_iconst dX6_wetCells_2 ?_
  refine ax_istore_n dX6_wetCells_3 rfl (by decide) ?_
  refine l6_wetCells hN hM hK ?_ (nC K) 0 0 (by omega) rfl
  refine ax_iload_n dX6_wetCells_39 rfl ?_
  exact ax_iret dX6_wetCells_40 rfl ⟨rfl, rfl⟩
theorem l6_wettest (hN : 132 ≤ NC) (hM : MD h s K) (hK : KI K) (kk : Ex NC none M_X6_wettest 33 [.ref 112, .int (I ((grtW K : Int))), .int (I (nC K : Int))] [] h Q) : ∀ (n : Nat) (c : Nat) (acc : Nat), c + n = nC K → acc = mxN (fun j => K (254 + j)) c → Ex NC none M_X6_wettest 4 [.ref 112, .int (I (acc : Int)), .int (I (c : Int))] [] h Q := by
  have n0 := nC_le hK
  have k0 := hK.1
  intro n
  induction n with
  | zero =>
    intro c acc hc ha
    refine ax_iload_n dX6_wettest_4 rfl ?_
    refine ax_aload_n dX6_wettest_5 rfl ?_
    refine ax_cviP0 dX6_wettest_6 ln_X6_wettest_205 (Nat.le_of_ble_eq_true rfl) (Or.inl rfl) (by omega) hM.1 rfl (s6_cells hN hM hK) ?_
    refine ax_icmp_ge (tgt := 33) dX6_wettest_9 (by decide) (by omega) (by omega) (fun c9 => ?_) (fun c9 => ?_)
    · have e : c = nC K := by omega
      subst e
      rw [ha]
      exact kk
    · exfalso
      omega
  | succ n ih =>
    intro c acc hc ha
    refine ax_iload_n dX6_wettest_4 rfl ?_
    refine ax_aload_n dX6_wettest_5 rfl ?_
    refine ax_cviP0 dX6_wettest_6 ln_X6_wettest_205 (Nat.le_of_ble_eq_true rfl) (Or.inl rfl) (by omega) hM.1 rfl (s6_cells hN hM hK) ?_
    refine ax_icmp_ge (tgt := 33) dX6_wettest_9 (by decide) (by omega) (by omega) (fun c9 => ?_) (fun c9 => ?_)
    · exfalso
      omega
    · refine ax_iload_n dX6_wettest_12 rfl ?_
      refine ax_aload_n dX6_wettest_13 rfl ?_
      refine ax_getf dX6_wettest_14 ck6 fl_X6_17 (by decide) (by omega) hM.1 rfl ?_
      refine ax_sipush dX6_wettest_17 (by decide) ?_
      refine ax_iload_n dX6_wettest_20 rfl ?_
      refine ax_iadd dX6_wettest_21 ?_
      refine ax_ialr (j := (254 + c)) (w := (K ((254 + c)) : Int)) dX6_wettest_22 (by omega) hM.2 (by omega) (by omega) (by decide) rfl ?_
      have k9 := hK.2.2.2.2.2.1 c (by omega)
      have k8 : acc ≤ 9 := by rw [ha]; exact mx_le (fun j hj => hK.2.2.2.2.2.1 j (by omega))
      refine ax_csiP2 dX6_wettest_23 ln_X6_wettest_202 (Nat.le_of_ble_eq_true rfl) (Or.inl rfl) (s6_max (by omega) (by omega)) ?_
      rw [show max (acc : Int) (K (254 + c) : Int) = ((max acc (K (254 + c)) : Nat) : Int) by omega]
      refine ax_istore_n dX6_wettest_26 rfl (by decide) ?_
      refine ax_iinc dX6_wettest_27 rfl rfl (by decide) ?_
      refine ax_goto (tgt := 4) dX6_wettest_30 (by decide) ?_
      refine ih (c + 1) (max acc (K (254 + c))) (by omega) ?_
      rw [ha]; rfl
theorem s6_wettest (hN : 132 ≤ NC) (hM : MD h s K) (hK : KI K) : Cl NC M_X6_wettest [.ref 112] h (fun v h1 => v = .int (I (grtW K : Int)) ∧ h1 = h) := by
  refine ax_iconst dX6_wettest_0 ?_
  refine ax_istore_n dX6_wettest_1 rfl (by decide) ?_
  refine ax_iconst dX6_wettest_2 ?_
  refine ax_istore_n dX6_wettest_3 rfl (by decide) ?_
  refine l6_wettest hN hM hK ?_ (nC K) 0 0 (by omega) rfl
  refine ax_iload_n dX6_wettest_33 rfl ?_
  exact ax_iret dX6_wettest_34 rfl ⟨rfl, rfl⟩
theorem l6_countOf (hN : 132 ≤ NC) (hM : MD h s K) (hK : KI K) {k : Nat} (hk : k < 7) (kk : Ex NC none M_X6_countOf 47 [.ref 112, .int (I (k : Int)), .int (I (cntC K k)), .int (I (nC K : Int))] [] h Q) : ∀ (n : Nat) (c : Nat) (acc : Int), c + n = nC K → acc = si (cfC K k) c → Ex NC none M_X6_countOf 4 [.ref 112, .int (I (k : Int)), .int (I (acc : Int)), .int (I (c : Int))] [] h Q := by
  have n0 := nC_le hK
  have k0 := hK.1
  intro n
  induction n with
  | zero =>
    intro c acc hc ha
    refine ax_iload_n dX6_countOf_4 rfl ?_
    refine ax_aload_n dX6_countOf_5 rfl ?_
    refine ax_cviP0 dX6_countOf_6 ln_X6_countOf_205 (Nat.le_of_ble_eq_true rfl) (Or.inl rfl) (by omega) hM.1 rfl (s6_cells hN hM hK) ?_
    refine ax_icmp_ge (tgt := 47) dX6_countOf_9 (by decide) (by omega) (by omega) (fun c9 => ?_) (fun c9 => ?_)
    · have e : c = nC K := by omega
      subst e
      rw [ha]
      exact kk
    · exfalso
      omega
  | succ n ih =>
    intro c acc hc ha
    refine ax_iload_n dX6_countOf_4 rfl ?_
    refine ax_aload_n dX6_countOf_5 rfl ?_
    refine ax_cviP0 dX6_countOf_6 ln_X6_countOf_205 (Nat.le_of_ble_eq_true rfl) (Or.inl rfl) (by omega) hM.1 rfl (s6_cells hN hM hK) ?_
    refine ax_icmp_ge (tgt := 47) dX6_countOf_9 (by decide) (by omega) (by omega) (fun c9 => ?_) (fun c9 => ?_)
    · exfalso
      omega
    · refine ax_iload_n dX6_countOf_12 rfl ?_
      refine ax_aload_n dX6_countOf_13 rfl ?_
      refine ax_iload_n dX6_countOf_14 rfl ?_
      refine ax_cviP1 dX6_countOf_15 ln_X6_countOf_208 (Nat.le_of_ble_eq_true rfl) (Or.inr rfl) (by omega) hM.1 rfl (s6_isCell hN hM hK (by omega)) ?_
      refine ax_if_eq (tgt := 38) dX6_countOf_18 (by decide) (by split <;> omega) (fun c18 => ?_) (fun c18 => ?_)
      · have hon : ¬ on K c = true := fun z => by rw [if_pos z] at c18; omega
        refine ax_iconst dX6_countOf_38 ?_
        refine ax_iadd dX6_countOf_39 ?_
        refine ax_istore_n dX6_countOf_40 rfl (by decide) ?_
        refine ax_iinc dX6_countOf_41 rfl rfl (by decide) ?_
        refine ax_goto (tgt := 4) dX6_countOf_44 (by decide) ?_
        refine ih (c + 1) _ (by omega) ?_
        rw [si_succ, ha]; congr 1; unfold cfC; first | (rw [if_pos (⟨hon, by omega⟩)]; done) | rw [if_neg (by rintro ⟨z1, z2⟩; first | exact hon z1 | omega)]
      · have hon : on K c = true := by by_cases z : on K c = true; exact z; rw [if_neg z] at c18; omega
        refine ax_aload_n dX6_countOf_21 rfl ?_
        refine ax_getf dX6_countOf_22 ck6 fl_X6_17 (by decide) (by omega) hM.1 rfl ?_
        refine ax_bipush dX6_countOf_25 (by decide) ?_
        refine ax_iload_n dX6_countOf_27 rfl ?_
        refine ax_iadd dX6_countOf_28 ?_
        refine ax_ialr (j := (74 + c)) (w := (K ((74 + c)) : Int)) dX6_countOf_29 (by omega) hM.2 (by omega) (by omega) (by decide) rfl ?_
        refine ax_iload_n dX6_countOf_30 rfl ?_
        refine ax_icmp_ne (tgt := 38) dX6_countOf_31 (by decide) (by have := hK.2.2.2.2.1 c (by omega); omega) (by omega) (fun c31 => ?_) (fun c31 => ?_)
        · refine ax_iconst dX6_countOf_38 ?_
          refine ax_iadd dX6_countOf_39 ?_
          refine ax_istore_n dX6_countOf_40 rfl (by decide) ?_
          refine ax_iinc dX6_countOf_41 rfl rfl (by decide) ?_
          refine ax_goto (tgt := 4) dX6_countOf_44 (by decide) ?_
          refine ih (c + 1) _ (by omega) ?_
          rw [si_succ, ha]; congr 1; unfold cfC; first | (rw [if_pos (⟨hon, by omega⟩)]; done) | rw [if_neg (by rintro ⟨z1, z2⟩; first | exact hon z1 | omega)]
        · refine ax_iconst dX6_countOf_34 ?_
          refine ax_goto (tgt := 39) dX6_countOf_35 (by decide) ?_
          refine ax_iadd dX6_countOf_39 ?_
          refine ax_istore_n dX6_countOf_40 rfl (by decide) ?_
          refine ax_iinc dX6_countOf_41 rfl rfl (by decide) ?_
          refine ax_goto (tgt := 4) dX6_countOf_44 (by decide) ?_
          refine ih (c + 1) _ (by omega) ?_
          rw [si_succ, ha]; congr 1; unfold cfC; first | (rw [if_pos (⟨hon, by omega⟩)]; done) | rw [if_neg (by rintro ⟨z1, z2⟩; first | exact hon z1 | omega)]
theorem s6_countOf (hN : 132 ≤ NC) (hM : MD h s K) (hK : KI K) {k : Nat} (hk : k < 7) : Cl NC M_X6_countOf [.ref 112, .int (I (k : Int))] h (fun v h1 => v = .int (I (cntC K k)) ∧ h1 = h) := by
  refine ax_iconst dX6_countOf_0 ?_
  refine ax_istore_n dX6_countOf_1 rfl (by decide) ?_
  refine ax_iconst dX6_countOf_2 ?_
  refine ax_istore_n dX6_countOf_3 rfl (by decide) ?_
  refine l6_countOf hN hM hK hk ?_ (nC K) 0 0 (by omega) rfl
  refine ax_iload_n dX6_countOf_47 rfl ?_
  exact ax_iret dX6_countOf_48 rfl ⟨rfl, rfl⟩
theorem l6_unlikeNow (hN : 132 ≤ NC) (hM : MD h s K) (hK : KI K) (kk : Ex NC none M_X6_unlikeNow 75 [.ref 112, .int (I (unlC K)), .int (I (nC K : Int))] [] h Q) : ∀ (n : Nat) (c : Nat) (acc : Int), c + n = nC K → acc = si (cfU K) c → Ex NC none M_X6_unlikeNow 4 [.ref 112, .int (I (acc : Int)), .int (I (c : Int))] [] h Q := by
  have n0 := nC_le hK
  have k0 := hK.1
  intro n
  induction n with
  | zero =>
    intro c acc hc ha
    refine ax_iload_n dX6_unlikeNow_4 rfl ?_
    refine ax_aload_n dX6_unlikeNow_5 rfl ?_
    refine ax_cviP0 dX6_unlikeNow_6 ln_X6_unlikeNow_205 (Nat.le_of_ble_eq_true rfl) (Or.inl rfl) (by omega) hM.1 rfl (s6_cells hN hM hK) ?_
    refine ax_icmp_ge (tgt := 75) dX6_unlikeNow_9 (by decide) (by omega) (by omega) (fun c9 => ?_) (fun c9 => ?_)
    · have e : c = nC K := by omega
      subst e
      rw [ha]
      exact kk
    · exfalso
      omega
  | succ n ih =>
    intro c acc hc ha
    refine ax_iload_n dX6_unlikeNow_4 rfl ?_
    refine ax_aload_n dX6_unlikeNow_5 rfl ?_
    refine ax_cviP0 dX6_unlikeNow_6 ln_X6_unlikeNow_205 (Nat.le_of_ble_eq_true rfl) (Or.inl rfl) (by omega) hM.1 rfl (s6_cells hN hM hK) ?_
    refine ax_icmp_ge (tgt := 75) dX6_unlikeNow_9 (by decide) (by omega) (by omega) (fun c9 => ?_) (fun c9 => ?_)
    · exfalso
      omega
    · refine ax_iload_n dX6_unlikeNow_12 rfl ?_
      refine ax_aload_n dX6_unlikeNow_13 rfl ?_
      refine ax_iload_n dX6_unlikeNow_14 rfl ?_
      refine ax_cviP1 dX6_unlikeNow_15 ln_X6_unlikeNow_208 (Nat.le_of_ble_eq_true rfl) (Or.inr rfl) (by omega) hM.1 rfl (s6_isCell hN hM hK (by omega)) ?_
      refine ax_if_eq (tgt := 66) dX6_unlikeNow_18 (by decide) (by split <;> omega) (fun c18 => ?_) (fun c18 => ?_)
      · have hon : ¬ on K c = true := fun z => by rw [if_pos z] at c18; omega
        refine ax_iconst dX6_unlikeNow_66 ?_
        refine ax_iadd dX6_unlikeNow_67 ?_
        refine ax_istore_n dX6_unlikeNow_68 rfl (by decide) ?_
        refine ax_iinc dX6_unlikeNow_69 rfl rfl (by decide) ?_
        refine ax_goto (tgt := 4) dX6_unlikeNow_72 (by decide) ?_
        refine ih (c + 1) _ (by omega) ?_
        rw [si_succ, ha]; congr 1; unfold cfU; first | (rw [if_pos (⟨hon, by omega, by omega⟩)]; done) | rw [if_neg (by rintro ⟨z1, z2, z3⟩; first | exact hon z1 | omega)]
      · have hon : on K c = true := by by_cases z : on K c = true; exact z; rw [if_neg z] at c18; omega
        refine ax_aload_n dX6_unlikeNow_21 rfl ?_
        refine ax_iload_n dX6_unlikeNow_22 rfl ?_
        refine ax_cviP1 dX6_unlikeNow_23 ln_X6_unlikeNow_192 (Nat.le_of_ble_eq_true rfl) (Or.inl rfl) (by omega) hM.1 rfl (s6_xOf hN hM hK (by omega)) ?_
        refine ax_aload_n dX6_unlikeNow_26 rfl ?_
        refine ax_getf dX6_unlikeNow_27 ck6 fl_X6_17 (by decide) (by omega) hM.1 rfl ?_
        refine ax_iconst dX6_unlikeNow_30 ?_
        refine ax_ialr (j := 0) (w := (K (0) : Int)) dX6_unlikeNow_31 (by omega) hM.2 (by omega) (by omega) (by decide) rfl ?_
        refine ax_iconst dX6_unlikeNow_32 ?_
        refine ax_idiv dX6_unlikeNow_33 (by omega) (by omega) ?_
        refine ax_icmp_ge (tgt := 66) dX6_unlikeNow_34 (by decide) (by have : c % K 0 ≤ c := Nat.mod_le _ _; omega) (by omega) (fun c34 => ?_) (fun c34 => ?_)
        · refine ax_iconst dX6_unlikeNow_66 ?_
          refine ax_iadd dX6_unlikeNow_67 ?_
          refine ax_istore_n dX6_unlikeNow_68 rfl (by decide) ?_
          refine ax_iinc dX6_unlikeNow_69 rfl rfl (by decide) ?_
          refine ax_goto (tgt := 4) dX6_unlikeNow_72 (by decide) ?_
          refine ih (c + 1) _ (by omega) ?_
          rw [si_succ, ha]; congr 1; unfold cfU; first | (rw [if_pos (⟨hon, by omega, by omega⟩)]; done) | rw [if_neg (by rintro ⟨z1, z2, z3⟩; first | exact hon z1 | omega)]
        · refine ax_aload_n dX6_unlikeNow_37 rfl ?_
          refine ax_getf dX6_unlikeNow_38 ck6 fl_X6_17 (by decide) (by omega) hM.1 rfl ?_
          refine ax_bipush dX6_unlikeNow_41 (by decide) ?_
          refine ax_iload_n dX6_unlikeNow_43 rfl ?_
          refine ax_iadd dX6_unlikeNow_44 ?_
          refine ax_ialr (j := (74 + c)) (w := (K ((74 + c)) : Int)) dX6_unlikeNow_45 (by omega) hM.2 (by omega) (by omega) (by decide) rfl ?_
          refine ax_aload_n dX6_unlikeNow_46 rfl ?_
          refine ax_getf dX6_unlikeNow_47 ck6 fl_X6_17 (by decide) (by omega) hM.1 rfl ?_
          refine ax_bipush dX6_unlikeNow_50 (by decide) ?_
          refine ax_aload_n dX6_unlikeNow_52 rfl ?_
          refine ax_iload_n dX6_unlikeNow_53 rfl ?_
          have mlt : mirN K c < 180 := by
            unfold mirN
            have q1 : c % K 0 < K 0 := Nat.mod_lt _ (by omega)
            have q2 := cd_eq (K := K) c
            have q3 := div_12 hK (j := c) (by omega)
            have q4 : (c / K 0 + 1) * K 0 ≤ 12 * 15 := Nat.mul_le_mul (by omega) (by omega)
            rw [Nat.add_mul, Nat.one_mul] at q4
            omega
          refine ax_cviP1 dX6_unlikeNow_54 ln_X6_unlikeNow_237 (Nat.le_of_ble_eq_true rfl) (Or.inl rfl) (by omega) hM.1 rfl (s6_mirrorOf hN hM hK (by omega)) ?_
          refine ax_iadd dX6_unlikeNow_57 ?_
          refine ax_ialr (j := (74 + mirN K c)) (w := (K ((74 + mirN K c)) : Int)) dX6_unlikeNow_58 (by omega) hM.2 (by omega) (by omega) (by decide) rfl ?_
          refine ax_icmp_eq (tgt := 66) dX6_unlikeNow_59 (by decide) (by have := hK.2.2.2.2.1 c (by omega); omega) (by have := hK.2.2.2.2.1 (mirN K c) (by omega); omega) (fun c59 => ?_) (fun c59 => ?_)
          · refine ax_iconst dX6_unlikeNow_66 ?_
            refine ax_iadd dX6_unlikeNow_67 ?_
            refine ax_istore_n dX6_unlikeNow_68 rfl (by decide) ?_
            refine ax_iinc dX6_unlikeNow_69 rfl rfl (by decide) ?_
            refine ax_goto (tgt := 4) dX6_unlikeNow_72 (by decide) ?_
            refine ih (c + 1) _ (by omega) ?_
            rw [si_succ, ha]; congr 1; unfold cfU; first | (rw [if_pos (⟨hon, by omega, by omega⟩)]; done) | rw [if_neg (by rintro ⟨z1, z2, z3⟩; first | exact hon z1 | omega)]
          · refine ax_iconst dX6_unlikeNow_62 ?_
            refine ax_goto (tgt := 67) dX6_unlikeNow_63 (by decide) ?_
            refine ax_iadd dX6_unlikeNow_67 ?_
            refine ax_istore_n dX6_unlikeNow_68 rfl (by decide) ?_
            refine ax_iinc dX6_unlikeNow_69 rfl rfl (by decide) ?_
            refine ax_goto (tgt := 4) dX6_unlikeNow_72 (by decide) ?_
            refine ih (c + 1) _ (by omega) ?_
            rw [si_succ, ha]; congr 1; unfold cfU; first | (rw [if_pos (⟨hon, by omega, by omega⟩)]; done) | rw [if_neg (by rintro ⟨z1, z2, z3⟩; first | exact hon z1 | omega)]
theorem s6_unlikeNow (hN : 132 ≤ NC) (hM : MD h s K) (hK : KI K) : Cl NC M_X6_unlikeNow [.ref 112] h (fun v h1 => v = .int (I (unlC K)) ∧ h1 = h) := by
  refine ax_iconst dX6_unlikeNow_0 ?_
  refine ax_istore_n dX6_unlikeNow_1 rfl (by decide) ?_
  refine ax_iconst dX6_unlikeNow_2 ?_
  refine ax_istore_n dX6_unlikeNow_3 rfl (by decide) ?_
  refine l6_unlikeNow hN hM hK ?_ (nC K) 0 0 (by omega) rfl
  refine ax_iload_n dX6_unlikeNow_75 rfl ?_
  exact ax_iret dX6_unlikeNow_76 rfl ⟨rfl, rfl⟩
theorem l6_spars (hN : 132 ≤ NC) (hM : MD h s K) (hK : KI K) (kk : Ex NC none M_X6_spars 31 [.ref 112, .int (I (sprC K)), .int (I (nC K : Int))] [] h Q) : ∀ (n : Nat) (c : Nat) (acc : Int), c + n = nC K → acc = si (cfS K) c → Ex NC none M_X6_spars 4 [.ref 112, .int (I (acc : Int)), .int (I (c : Int))] [] h Q := by
  have n0 := nC_le hK
  have k0 := hK.1
  intro n
  induction n with
  | zero =>
    intro c acc hc ha
    refine ax_iload_n dX6_spars_4 rfl ?_
    refine ax_aload_n dX6_spars_5 rfl ?_
    refine ax_cviP0 dX6_spars_6 ln_X6_spars_205 (Nat.le_of_ble_eq_true rfl) (Or.inl rfl) (by omega) hM.1 rfl (s6_cells hN hM hK) ?_
    refine ax_icmp_ge (tgt := 31) dX6_spars_9 (by decide) (by omega) (by omega) (fun c9 => ?_) (fun c9 => ?_)
    · have e : c = nC K := by omega
      subst e
      rw [ha]
      exact kk
    · exfalso
      omega
  | succ n ih =>
    intro c acc hc ha
    refine ax_iload_n dX6_spars_4 rfl ?_
    refine ax_aload_n dX6_spars_5 rfl ?_
    refine ax_cviP0 dX6_spars_6 ln_X6_spars_205 (Nat.le_of_ble_eq_true rfl) (Or.inl rfl) (by omega) hM.1 rfl (s6_cells hN hM hK) ?_
    refine ax_icmp_ge (tgt := 31) dX6_spars_9 (by decide) (by omega) (by omega) (fun c9 => ?_) (fun c9 => ?_)
    · exfalso
      omega
    · refine ax_iload_n dX6_spars_12 rfl ?_
      refine ax_aload_n dX6_spars_13 rfl ?_
      refine ax_getf dX6_spars_14 ck6 fl_X6_17 (by decide) (by omega) hM.1 rfl ?_
      refine ax_sipush dX6_spars_17 (by decide) ?_
      refine ax_iload_n dX6_spars_20 rfl ?_
      refine ax_iadd dX6_spars_21 ?_
      refine ax_ialr (j := (434 + c)) (w := (K ((434 + c)) : Int)) dX6_spars_22 (by omega) hM.2 (by omega) (by omega) (by decide) rfl ?_
      refine ax_iadd dX6_spars_23 ?_
      refine ax_istore_n dX6_spars_24 rfl (by decide) ?_
      refine ax_iinc dX6_spars_25 rfl rfl (by decide) ?_
      refine ax_goto (tgt := 4) dX6_spars_28 (by decide) ?_
      refine ih (c + 1) _ (by omega) ?_
      rw [si_succ, ha]; rfl
theorem s6_spars (hN : 132 ≤ NC) (hM : MD h s K) (hK : KI K) : Cl NC M_X6_spars [.ref 112] h (fun v h1 => v = .int (I (sprC K)) ∧ h1 = h) := by
  refine ax_iconst dX6_spars_0 ?_
  refine ax_istore_n dX6_spars_1 rfl (by decide) ?_
  refine ax_iconst dX6_spars_2 ?_
  refine ax_istore_n dX6_spars_3 rfl (by decide) ?_
  refine l6_spars hN hM hK ?_ (nC K) 0 0 (by omega) rfl
  refine ax_iload_n dX6_spars_31 rfl ?_
  exact ax_iret dX6_spars_32 rfl ⟨rfl, rfl⟩
end MM
