/-! the class: paint, strip, wash -/
section CA
variable {NC : Nat} {h : hp} {r T : Nat → Int} {K KS : Nat → Nat} {H : Nat → Nat → Nat} {d n : Nat} {e : Int} {Q : qt}
theorem sp_paint (hN : 112 ≤ NC) (hW : KO h e) (hS : SA NC h 1 K) (hK : KI K) (hC : CH NC h H d) {x : Int} (gx : -2147483648 ≤ x ∧ x < 2147483648) {y : Int} (gy : -2147483648 ≤ y ∧ y < 2147483648) {c : Int} (gc : -2147483648 ≤ c ∧ c < 2147483648) {w : Int} (gw : -2147483648 ≤ w ∧ w < 2147483648) {mi : Bool} (ho : onZ K x y = true) (hc : 1 ≤ c ∧ c ≤ 6) (hw : 1 ≤ w ∧ w ≤ 9) : Cl NC M_X5_paint [.ref 0, .int (I x), .int (I y), .int (I c), .int (I w), .int (I (if mi = true then 1 else 0))] h (fun v h1 => v = .int (I (balW (putC K x y c.toNat w.toNat mi))) ∧ SA NC h1 1 (putC K x y c.toNat w.toNat mi) ∧ CH NC h1 (psh K H) (min (d + 1) 8) ∧ ∀ b, (b < 1 ∨ 11 ≤ b) → (b < 21 ∨ 103 ≤ b) → h1 b = h b) := by
  obtain ⟨m0, m1, m2, hO, mr⟩ := hC
  have hC : CH NC h H d := ⟨m0, m1, m2, hO, mr⟩
  obtain ⟨c, rfl⟩ : ∃ m : Nat, c = (m : Int) := ⟨c.toNat, by omega⟩
  obtain ⟨w, rfl⟩ : ∃ m : Nat, w = (m : Int) := ⟨w.toNat, by omega⟩
  rw [Int.toNat_natCast, Int.toNat_natCast]
  refine ax_aload_n dX5_paint_0 rfl ?_
  refine ax_iload_n dX5_paint_1 rfl ?_
  refine ax_iload_n dX5_paint_2 rfl ?_
  refine ax_cvvP2 dX5_paint_3 ln_X5_paint_124 (Nat.le_of_ble_eq_true rfl) rfl (by omega) hW rfl (sp_cell hN hW hS hK gx gy ho) ?_
  refine ax_iload_n dX5_paint_6 rfl ?_
  refine ax_iconst dX5_paint_7 ?_
  refine ax_bipush dX5_paint_8 (by decide) ?_
  refine ax_csvP3 dX5_paint_10 ln_X5_paint_58 (Nat.le_of_ble_eq_true rfl) rfl (sp_range gc (by omega) (by omega) hc) ?_
  refine ax_iload dX5_paint_13 rfl ?_
  refine ax_iconst dX5_paint_15 ?_
  refine ax_bipush dX5_paint_16 (by decide) ?_
  refine ax_csvP3 dX5_paint_18 ln_X5_paint_58 (Nat.le_of_ble_eq_true rfl) rfl (sp_range gw (by omega) (by omega) hw) ?_
  refine ax_aload_n dX5_paint_21 rfl ?_
  refine ax_getf dX5_paint_22 ck5 fl_X5_22 (by decide) (by omega) hW rfl ?_
  refine ax_aload_n dX5_paint_25 rfl ?_
  refine ax_getf dX5_paint_26 ck5 fl_X5_12 (by decide) (by omega) hW rfl ?_
  refine ax_cvv1 dX5_paint_29 ln_X5_paint_69 (Nat.le_of_ble_eq_true rfl) rfl (by omega) hO rfl (sp_keep (b := 1) hN (by omega) hS hC) (fun g1 hq => ?_)
  obtain ⟨hC1, hF1⟩ := hq
  have hW1 : KO g1 e := (hF1 0 (by omega)).trans hW
  have hS1 : SA NC g1 1 K := hS.eq (fun a a1 a2 => hF1 a (by omega))
  refine ax_aload_n dX5_paint_32 rfl ?_
  refine ax_getf dX5_paint_33 ck5 fl_X5_12 (by decide) (by omega) hW1 rfl ?_
  refine ax_iload_n dX5_paint_36 rfl ?_
  refine ax_iload_n dX5_paint_37 rfl ?_
  refine ax_iload_n dX5_paint_38 rfl ?_
  refine ax_iload dX5_paint_39 rfl ?_
  refine ax_iload dX5_paint_41 rfl ?_
  refine ax_cvv5 dX5_paint_43 ln_X5_paint_201 (Nat.le_of_ble_eq_true rfl) rfl hS1.n0 hS1.o rfl (sp_putColour hS1 hK gx gy (c := c) (w := w) (mi := mi)) (fun g2 hq => ?_)
  obtain ⟨hS2, hF2⟩ := hq
  have hW2 : KO g2 e := (hF2 0 (by omega)).trans hW1
  refine ax_aload_n dX5_paint_46 rfl ?_
  refine ax_getf dX5_paint_47 ck5 fl_X5_12 (by decide) (by omega) hW2 rfl ?_
  refine ax_cviP0 dX5_paint_50 ln_X5_paint_105 (Nat.le_of_ble_eq_true rfl) (Or.inl rfl) hS2.n0 hS2.o rfl (sp_balance hS2 (hK.pC (by omega) (by omega))) ?_
  exact ax_iret dX5_paint_53 rfl ⟨rfl, hS2, hC1.eq (fun b b1 b2 => hF2 b (by omega)), fun b b1 b2 => (hF2 b (by omega)).trans (hF1 b b2)⟩
theorem sx_paint1 (hN : 112 ≤ NC) (hW : KO h e) (hS : SA NC h 1 K) (hK : KI K) {x : Int} (gx : -2147483648 ≤ x ∧ x < 2147483648) {y : Int} (gy : -2147483648 ≤ y ∧ y < 2147483648) {c : Int} (gc : -2147483648 ≤ c ∧ c < 2147483648) {w : Int} (gw : -2147483648 ≤ w ∧ w < 2147483648) {bz : Int} (ho : ¬ onZ K x y = true) : Ct NC "java/lang/IndexOutOfBoundsException" M_X5_paint [.ref 0, .int (I x), .int (I y), .int (I c), .int (I w), .int (I bz)] h (fun _ h1 => h1 = h) := by
  refine ax_aload_n dX5_paint_0 rfl ?_
  refine ax_iload_n dX5_paint_1 rfl ?_
  refine ax_iload_n dX5_paint_2 rfl ?_
  exact ax_cvx2 dX5_paint_3 ln_X5_paint_124 (Nat.le_of_ble_eq_true rfl) rfl (by omega) hW rfl (sx_cell hN hW hS hK gx gy ho) (fun h1 q => q)
theorem sx_paint2 (hN : 112 ≤ NC) (hW : KO h e) (hS : SA NC h 1 K) (hK : KI K) {x : Int} (gx : -2147483648 ≤ x ∧ x < 2147483648) {y : Int} (gy : -2147483648 ≤ y ∧ y < 2147483648) {c : Int} (gc : -2147483648 ≤ c ∧ c < 2147483648) {w : Int} (gw : -2147483648 ≤ w ∧ w < 2147483648) {bz : Int} (ho : onZ K x y = true) (hx : ¬ (1 ≤ c ∧ c ≤ 6 ∧ 1 ≤ w ∧ w ≤ 9)) : Ct NC "java/lang/IllegalArgumentException" M_X5_paint [.ref 0, .int (I x), .int (I y), .int (I c), .int (I w), .int (I bz)] h (fun _ h1 => h1 = h) := by
  refine ax_aload_n dX5_paint_0 rfl ?_
  refine ax_iload_n dX5_paint_1 rfl ?_
  refine ax_iload_n dX5_paint_2 rfl ?_
  refine ax_cvvP2 dX5_paint_3 ln_X5_paint_124 (Nat.le_of_ble_eq_true rfl) rfl (by omega) hW rfl (sp_cell hN hW hS hK gx gy ho) ?_
  refine ax_iload_n dX5_paint_6 rfl ?_
  refine ax_iconst dX5_paint_7 ?_
  refine ax_bipush dX5_paint_8 (by decide) ?_
  by_cases q : 1 ≤ c ∧ c ≤ 6
  · refine ax_csvP3 dX5_paint_10 ln_X5_paint_58 (Nat.le_of_ble_eq_true rfl) rfl (sp_range gc (by omega) (by omega) q) ?_
    refine ax_iload dX5_paint_13 rfl ?_
    refine ax_iconst dX5_paint_15 ?_
    refine ax_bipush dX5_paint_16 (by decide) ?_
    exact ax_csx3 dX5_paint_18 ln_X5_paint_58 (Nat.le_of_ble_eq_true rfl) rfl (sx_range gw (by omega) (by omega) (by omega)) (fun h1 q => q)
  · exact ax_csx3 dX5_paint_10 ln_X5_paint_58 (Nat.le_of_ble_eq_true rfl) rfl (sx_range gc (by omega) (by omega) q) (fun h1 q => q)
theorem sp_strip (hN : 112 ≤ NC) (hW : KO h e) (hS : SA NC h 1 K) (hK : KI K) (hC : CH NC h H d) {x : Int} (gx : -2147483648 ≤ x ∧ x < 2147483648) {y : Int} (gy : -2147483648 ≤ y ∧ y < 2147483648) (ho : onZ K x y = true) (hs : K (434 + (y.toNat * K 0 + x.toNat)) ≠ 0) : Cl NC M_X5_strip [.ref 0, .int (I x), .int (I y)] h (fun v h1 => v = .int (I (balW (upN K (434 + (y.toNat * K 0 + x.toNat)) 0))) ∧ SA NC h1 1 (upN K (434 + (y.toNat * K 0 + x.toNat)) 0) ∧ CH NC h1 (psh K H) (min (d + 1) 8) ∧ ∀ b, (b < 1 ∨ 11 ≤ b) → (b < 21 ∨ 103 ≤ b) → h1 b = h b) := by
  obtain ⟨m0, m1, m2, hO, mr⟩ := hC
  have hC : CH NC h H d := ⟨m0, m1, m2, hO, mr⟩
  obtain ⟨u, v, rfl, rfl, hu, hv, hl, n0, -⟩ := onZ_nat hK ho
  have ed : ((v : Int) * (K 0 : Int) + (u : Int)) = ((v * K 0 + u : Nat) : Int) := by push_cast; omega
  have hon : on K (v * K 0 + u) = true := by rw [on_at hu]; exact ho
  refine ax_aload_n dX5_strip_0 rfl ?_
  refine ax_iload_n dX5_strip_1 rfl ?_
  refine ax_iload_n dX5_strip_2 rfl ?_
  refine ax_cvvP2 dX5_strip_3 ln_X5_strip_124 (Nat.le_of_ble_eq_true rfl) rfl (by omega) hW rfl (sp_cell hN hW hS hK gx gy ho) ?_
  refine ax_aload_n dX5_strip_6 rfl ?_
  refine ax_getf dX5_strip_7 ck5 fl_X5_12 (by decide) (by omega) hW rfl ?_
  refine ax_iload_n dX5_strip_10 rfl ?_
  refine ax_iload_n dX5_strip_11 rfl ?_
  refine ax_cviP2 dX5_strip_12 ln_X5_strip_128 (Nat.le_of_ble_eq_true rfl) (Or.inl rfl) hS.n0 hS.o rfl (sp_numberOf hS) ?_
  rw [ed]
  refine ax_istore_n dX5_strip_15 rfl (by decide) ?_
  refine ax_aload_n dX5_strip_16 rfl ?_
  refine ax_getf dX5_strip_17 ck5 fl_X5_12 (by decide) (by omega) hW rfl ?_
  refine ax_getf dX5_strip_20 ck3 fl_X5_139 (by decide) hS.n0 hS.o rfl ?_
  refine ax_iload_n dX5_strip_23 rfl ?_
  refine ax_ialr (j := (v * K 0 + u)) (w := (K (434 + (v * K 0 + u)) : Int)) dX5_strip_24 (hS.n 9 (by omega)) hS.sp (by omega) (by omega) (by decide) rfl ?_
  refine ax_if_ne (tgt := 38) dX5_strip_25 (by decide) (by have := hK.2.2.2.2.2.2.1 (v * K 0 + u) (by omega); omega) (fun c25 => ?_) (fun c25 => ?_)
  · refine ax_aload_n dX5_strip_38 rfl ?_
    refine ax_getf dX5_strip_39 ck5 fl_X5_22 (by decide) (by omega) hW rfl ?_
    refine ax_aload_n dX5_strip_42 rfl ?_
    refine ax_getf dX5_strip_43 ck5 fl_X5_12 (by decide) (by omega) hW rfl ?_
    refine ax_cvv1 dX5_strip_46 ln_X5_strip_69 (Nat.le_of_ble_eq_true rfl) rfl (by omega) hO rfl (sp_keep (b := 1) hN (by omega) hS hC) (fun g1 hq => ?_)
    obtain ⟨hC1, hF1⟩ := hq
    have hW1 : KO g1 e := (hF1 0 (by omega)).trans hW
    have hS1 : SA NC g1 1 K := hS.eq (fun a a1 a2 => hF1 a (by omega))
    refine ax_aload_n dX5_strip_49 rfl ?_
    refine ax_getf dX5_strip_50 ck5 fl_X5_12 (by decide) (by omega) hW1 rfl ?_
    refine ax_getf dX5_strip_53 ck3 fl_X5_139 (by decide) hS1.n0 hS1.o rfl ?_
    refine ax_iload_n dX5_strip_56 rfl ?_
    refine ax_iconst dX5_strip_57 ?_
    refine ax_iasr (j := (v * K 0 + u)) dX5_strip_58 (hS1.n 9 (by omega)) hS1.sp (by omega) (by omega) (by decide) (fun e58 he58 => ?_)
    have hS2 := hS1.w9 (j := v * K 0 + u) (c := 0) (by omega) he58
    have hF2 : Fr g1 (va_up g1 (1 + 9) e58) 1 := Fr.rf.up (by decide)
    generalize va_up g1 (1 + 9) e58 = g2 at *
    have hW2 : KO g2 e := (hF2 0 (by omega)).trans hW1
    refine ax_aload_n dX5_strip_59 rfl ?_
    refine ax_getf dX5_strip_60 ck5 fl_X5_12 (by decide) (by omega) hW2 rfl ?_
    refine ax_cviP0 dX5_strip_63 ln_X5_strip_105 (Nat.le_of_ble_eq_true rfl) (Or.inl rfl) hS2.n0 hS2.o rfl (sp_balance hS2 (hK.upS hl hon (by omega))) ?_
    exact ax_iret dX5_strip_66 rfl ⟨rfl, hS2, hC1.eq (fun b b1 b2 => hF2 b (by omega)), fun b b1 b2 => (hF2 b (by omega)).trans (hF1 b b2)⟩
  · exfalso
    exact hs (by show K (434 + (v * K 0 + u)) = 0; omega)
theorem sx_strip2 (hN : 112 ≤ NC) (hW : KO h e) (hS : SA NC h 1 K) (hK : KI K) {x : Int} (gx : -2147483648 ≤ x ∧ x < 2147483648) {y : Int} (gy : -2147483648 ≤ y ∧ y < 2147483648) (ho : onZ K x y = true) (hs : K (434 + (y.toNat * K 0 + x.toNat)) = 0) : Ct NC "java/lang/IllegalStateException" M_X5_strip [.ref 0, .int (I x), .int (I y)] h (fun _ h1 => h1 = h) := by
  obtain ⟨u, v, rfl, rfl, hu, hv, hl, n0, -⟩ := onZ_nat hK ho
  have ed : ((v : Int) * (K 0 : Int) + (u : Int)) = ((v * K 0 + u : Nat) : Int) := by push_cast; omega
  have hon : on K (v * K 0 + u) = true := by rw [on_at hu]; exact ho
  refine ax_aload_n dX5_strip_0 rfl ?_
  refine ax_iload_n dX5_strip_1 rfl ?_
  refine ax_iload_n dX5_strip_2 rfl ?_
  refine ax_cvvP2 dX5_strip_3 ln_X5_strip_124 (Nat.le_of_ble_eq_true rfl) rfl (by omega) hW rfl (sp_cell hN hW hS hK gx gy ho) ?_
  refine ax_aload_n dX5_strip_6 rfl ?_
  refine ax_getf dX5_strip_7 ck5 fl_X5_12 (by decide) (by omega) hW rfl ?_
  refine ax_iload_n dX5_strip_10 rfl ?_
  refine ax_iload_n dX5_strip_11 rfl ?_
  refine ax_cviP2 dX5_strip_12 ln_X5_strip_128 (Nat.le_of_ble_eq_true rfl) (Or.inl rfl) hS.n0 hS.o rfl (sp_numberOf hS) ?_
  rw [ed]
  refine ax_istore_n dX5_strip_15 rfl (by decide) ?_
  refine ax_aload_n dX5_strip_16 rfl ?_
  refine ax_getf dX5_strip_17 ck5 fl_X5_12 (by decide) (by omega) hW rfl ?_
  refine ax_getf dX5_strip_20 ck3 fl_X5_139 (by decide) hS.n0 hS.o rfl ?_
  refine ax_iload_n dX5_strip_23 rfl ?_
  refine ax_ialr (j := (v * K 0 + u)) (w := (K (434 + (v * K 0 + u)) : Int)) dX5_strip_24 (hS.n 9 (by omega)) hS.sp (by omega) (by omega) (by decide) rfl ?_
  refine ax_if_ne (tgt := 38) dX5_strip_25 (by decide) (by have := hK.2.2.2.2.2.2.1 (v * K 0 + u) (by omega); omega) (fun c25 => ?_) (fun c25 => ?_)
  · exfalso
    have z : K (434 + (v * K 0 + u)) = 0 := hs
    omega
  · exact ex_thr (by decide) (by decide) (by decide) rfl
theorem sx_strip1 (hN : 112 ≤ NC) (hW : KO h e) (hS : SA NC h 1 K) (hK : KI K) {x : Int} (gx : -2147483648 ≤ x ∧ x < 2147483648) {y : Int} (gy : -2147483648 ≤ y ∧ y < 2147483648) (ho : ¬ onZ K x y = true) : Ct NC "java/lang/IndexOutOfBoundsException" M_X5_strip [.ref 0, .int (I x), .int (I y)] h (fun _ h1 => h1 = h) := by
  refine ax_aload_n dX5_strip_0 rfl ?_
  refine ax_iload_n dX5_strip_1 rfl ?_
  refine ax_iload_n dX5_strip_2 rfl ?_
  exact ax_cvx2 dX5_strip_3 ln_X5_strip_124 (Nat.le_of_ble_eq_true rfl) rfl (by omega) hW rfl (sx_cell hN hW hS hK gx gy ho) (fun h1 q => q)
theorem sp_wash (hN : 112 ≤ NC) (hW : KO h e) (hS : SA NC h 1 K) (hK : KI K) (hC : CH NC h H d) {n0 : Nat} (hF : FO h n0) (s7 : sh 0 (h 107) 180) (s8 : sh 0 (h 108) 180) (s9 : sh 0 (h 109) 180) {x : Int} (gx : -2147483648 ≤ x ∧ x < 2147483648) {y : Int} (gy : -2147483648 ≤ y ∧ y < 2147483648) (ho : onZ K x y = true) (hs : K (74 + (y.toNat * K 0 + x.toNat)) ≠ 0) : Cl NC M_X5_wash [.ref 0, .int (I x), .int (I y)] h (fun r h1 => ∃ (n : Nat) (N : Nat → Int), r = .int (I (n : Int)) ∧ (n : Int) = si N 180 - si (fun _ => 0) 180 ∧ mkEnd K (y.toNat * K 0 + x.toNat) (fun _ => 0) N ∧ SA NC h1 1 (wshK K N) ∧ CH NC h1 (psh K H) (min (d + 1) 8) ∧ (∃ n0, FO h1 n0) ∧ sh 0 (h1 107) 180 ∧ sh 0 (h1 108) 180 ∧ sh 0 (h1 109) 180 ∧ ∀ b, (b < 1 ∨ 11 ≤ b) → (b < 21 ∨ 103 ≤ b) → (b < 106 ∨ 109 < b) → h1 b = h b) := by
  obtain ⟨m0, m1, m2, hO, mr⟩ := hC
  have hC : CH NC h H d := ⟨m0, m1, m2, hO, mr⟩
  obtain ⟨u, v, rfl, rfl, hu, hv, hl, n0, -⟩ := onZ_nat hK ho
  have ed : ((v : Int) * (K 0 : Int) + (u : Int)) = ((v * K 0 + u : Nat) : Int) := by push_cast; omega
  have hon : on K (v * K 0 + u) = true := by rw [on_at hu]; exact ho
  refine ax_aload_n dX5_wash_0 rfl ?_
  refine ax_iload_n dX5_wash_1 rfl ?_
  refine ax_iload_n dX5_wash_2 rfl ?_
  refine ax_cvvP2 dX5_wash_3 ln_X5_wash_124 (Nat.le_of_ble_eq_true rfl) rfl (by omega) hW rfl (sp_cell hN hW hS hK gx gy ho) ?_
  refine ax_aload_n dX5_wash_6 rfl ?_
  refine ax_getf dX5_wash_7 ck5 fl_X5_12 (by decide) (by omega) hW rfl ?_
  refine ax_getf dX5_wash_10 ck3 fl_X5_132 (by decide) hS.n0 hS.o rfl ?_
  refine ax_aload_n dX5_wash_13 rfl ?_
  refine ax_getf dX5_wash_14 ck5 fl_X5_12 (by decide) (by omega) hW rfl ?_
  refine ax_iload_n dX5_wash_17 rfl ?_
  refine ax_iload_n dX5_wash_18 rfl ?_
  refine ax_cviP2 dX5_wash_19 ln_X5_wash_128 (Nat.le_of_ble_eq_true rfl) (Or.inl rfl) hS.n0 hS.o rfl (sp_numberOf hS) ?_
  rw [ed]
  refine ax_ialr (j := (v * K 0 + u)) (w := (K (74 + (v * K 0 + u)) : Int)) dX5_wash_22 (hS.n 7 (by omega)) hS.co (by omega) (by omega) (by decide) rfl ?_
  refine ax_if_ne (tgt := 36) dX5_wash_23 (by decide) (by have := hK.2.2.2.2.1 (v * K 0 + u) (by omega); omega) (fun c23 => ?_) (fun c23 => ?_)
  · refine ax_aload_n dX5_wash_36 rfl ?_
    refine ax_getf dX5_wash_37 ck5 fl_X5_22 (by decide) (by omega) hW rfl ?_
    refine ax_aload_n dX5_wash_40 rfl ?_
    refine ax_getf dX5_wash_41 ck5 fl_X5_12 (by decide) (by omega) hW rfl ?_
    refine ax_cvv1 dX5_wash_44 ln_X5_wash_69 (Nat.le_of_ble_eq_true rfl) rfl (by omega) hO rfl (sp_keep (b := 1) hN (by omega) hS hC) (fun g1 hq => ?_)
    obtain ⟨hC1, hF1⟩ := hq
    have hW1 : KO g1 e := (hF1 0 (by omega)).trans hW
    have hS1 : SA NC g1 1 K := hS.eq (fun a a1 a2 => hF1 a (by omega))
    refine ax_aload_n dX5_wash_47 rfl ?_
    refine ax_getf dX5_wash_48 ck5 fl_X5_36 (by decide) (by omega) hW1 rfl ?_
    refine ax_aload_n dX5_wash_51 rfl ?_
    refine ax_getf dX5_wash_52 ck5 fl_X5_12 (by decide) (by omega) hW1 rfl ?_
    refine ax_iload_n dX5_wash_55 rfl ?_
    refine ax_iload_n dX5_wash_56 rfl ?_
    refine ax_cvi3 dX5_wash_57 ln_X5_wash_156 (Nat.le_of_ble_eq_true rfl) (Or.inl rfl) (by omega) ((hF1 106 (by omega)).trans hF) rfl (sp_fillFrom (b := 1) hN (by omega) hS1 hK ((hF1 106 (by omega)).trans hF) (s7.mv (hF1 107 (by omega))) (s8.mv (hF1 108 (by omega))) (s9.mv (hF1 109 (by omega))) ho rfl) (fun r g2 hq => ?_)
    obtain ⟨n, N, X, Y, q, hv2, hn, hF2, hR2, hX2, hY2, hB2, hE2, hXY, x2⟩ := hq
    cases hv2
    have hW2 : KO g2 e := (x2 0 (by decide)).trans hW1
    have hS2 : SA NC g2 1 K := hS1.eq (fun a a1 a2 => x2 a (by simp; omega))
    refine ax_istore_n dX5_wash_60 rfl (by decide) ?_
    refine ax_aload_n dX5_wash_61 rfl ?_
    refine ax_getf dX5_wash_62 ck5 fl_X5_36 (by decide) (by omega) hW2 rfl ?_
    refine ax_aload_n dX5_wash_65 rfl ?_
    refine ax_getf dX5_wash_66 ck5 fl_X5_12 (by decide) (by omega) hW2 rfl ?_
    refine ax_cvv1 dX5_wash_69 ln_X5_wash_230 (Nat.le_of_ble_eq_true rfl) rfl (by omega) hF2 rfl (sp_bare (b := 1) hN (by omega) hS2 hK hX2 hY2 hF2 hn (fun k hk => (hB2.2.2.1 k hk).1) hXY) (fun g3 hq => ?_)
    obtain ⟨hS3, hF3⟩ := hq
    have hm : wshK K (mq q n) = wshK K N := wsh_cong (fun j hj => by rw [mq_iff, hB2.2.1 j hj]; exact ⟨fun z => Or.inr z, fun z => z.elim (fun z => absurd (show (0 : Int) = 1 from z) (by decide)) id⟩)
    rw [hm] at hS3
    refine ax_iload_n dX5_wash_72 rfl ?_
    exact ax_iret dX5_wash_73 rfl ⟨n, N, rfl, hB2.2.2.2, hE2, hS3, hC1.eq (fun b b1 b2 => (hF3 b (by omega)).trans (x2 b (by simp; omega))), ⟨n, (hF3 106 (by omega)).trans hF2⟩, ⟨_, hR2.mv (hF3 107 (by omega))⟩, ⟨_, hX2.mv (hF3 108 (by omega))⟩, ⟨_, hY2.mv (hF3 109 (by omega))⟩, fun b b1 b2 b3 => (hF3 b (by omega)).trans ((x2 b (by simp; omega)).trans (hF1 b b2))⟩
  · exfalso
    exact hs (by show K (74 + (v * K 0 + u)) = 0; omega)
theorem sx_wash2 (hN : 112 ≤ NC) (hW : KO h e) (hS : SA NC h 1 K) (hK : KI K) {x : Int} (gx : -2147483648 ≤ x ∧ x < 2147483648) {y : Int} (gy : -2147483648 ≤ y ∧ y < 2147483648) (ho : onZ K x y = true) (hs : K (74 + (y.toNat * K 0 + x.toNat)) = 0) : Ct NC "java/lang/IllegalStateException" M_X5_wash [.ref 0, .int (I x), .int (I y)] h (fun _ h1 => h1 = h) := by
  obtain ⟨u, v, rfl, rfl, hu, hv, hl, n0, -⟩ := onZ_nat hK ho
  have ed : ((v : Int) * (K 0 : Int) + (u : Int)) = ((v * K 0 + u : Nat) : Int) := by push_cast; omega
  have hon : on K (v * K 0 + u) = true := by rw [on_at hu]; exact ho
  refine ax_aload_n dX5_wash_0 rfl ?_
  refine ax_iload_n dX5_wash_1 rfl ?_
  refine ax_iload_n dX5_wash_2 rfl ?_
  refine ax_cvvP2 dX5_wash_3 ln_X5_wash_124 (Nat.le_of_ble_eq_true rfl) rfl (by omega) hW rfl (sp_cell hN hW hS hK gx gy ho) ?_
  refine ax_aload_n dX5_wash_6 rfl ?_
  refine ax_getf dX5_wash_7 ck5 fl_X5_12 (by decide) (by omega) hW rfl ?_
  refine ax_getf dX5_wash_10 ck3 fl_X5_132 (by decide) hS.n0 hS.o rfl ?_
  refine ax_aload_n dX5_wash_13 rfl ?_
  refine ax_getf dX5_wash_14 ck5 fl_X5_12 (by decide) (by omega) hW rfl ?_
  refine ax_iload_n dX5_wash_17 rfl ?_
  refine ax_iload_n dX5_wash_18 rfl ?_
  refine ax_cviP2 dX5_wash_19 ln_X5_wash_128 (Nat.le_of_ble_eq_true rfl) (Or.inl rfl) hS.n0 hS.o rfl (sp_numberOf hS) ?_
  rw [ed]
  refine ax_ialr (j := (v * K 0 + u)) (w := (K (74 + (v * K 0 + u)) : Int)) dX5_wash_22 (hS.n 7 (by omega)) hS.co (by omega) (by omega) (by decide) rfl ?_
  refine ax_if_ne (tgt := 36) dX5_wash_23 (by decide) (by have := hK.2.2.2.2.1 (v * K 0 + u) (by omega); omega) (fun c23 => ?_) (fun c23 => ?_)
  · exfalso
    have z : K (74 + (v * K 0 + u)) = 0 := hs
    omega
  · exact ex_thr (by decide) (by decide) (by decide) rfl
theorem sx_wash1 (hN : 112 ≤ NC) (hW : KO h e) (hS : SA NC h 1 K) (hK : KI K) {x : Int} (gx : -2147483648 ≤ x ∧ x < 2147483648) {y : Int} (gy : -2147483648 ≤ y ∧ y < 2147483648) (ho : ¬ onZ K x y = true) : Ct NC "java/lang/IndexOutOfBoundsException" M_X5_wash [.ref 0, .int (I x), .int (I y)] h (fun _ h1 => h1 = h) := by
  refine ax_aload_n dX5_wash_0 rfl ?_
  refine ax_iload_n dX5_wash_1 rfl ?_
  refine ax_iload_n dX5_wash_2 rfl ?_
  exact ax_cvx2 dX5_wash_3 ln_X5_wash_124 (Nat.le_of_ble_eq_true rfl) rfl (by omega) hW rfl (sx_cell hN hW hS hK gx gy ho) (fun h1 q => q)
end CA
