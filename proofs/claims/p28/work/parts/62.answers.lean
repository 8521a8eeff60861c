/-! the class: what it answers (fine, and thrown) -/
section CA
variable {NC : Nat} {h : hp} {r T : Nat → Int} {K KS : Nat → Nat} {H : Nat → Nat → Nat} {d n : Nat} {e : Int} {Q : qt}
theorem sp_errorOffset (hN : 112 ≤ NC) (hW : KO h e) : Cl NC M_X5_errorOffset [.ref 0] h (fun v h1 => v = .int (I (e)) ∧ h1 = h) := by
  refine ax_aload_n dX5_errorOffset_0 rfl ?_
  refine ax_getf dX5_errorOffset_1 ck5 fl_X5_47 (by decide) (by omega) hW rfl ?_
  exact ax_iret dX5_errorOffset_4 rfl ⟨rfl, rfl⟩
theorem sp_mix (hN : 112 ≤ NC) (hW : KO h e) (hS : SA NC h 1 K) (hK : KI K) {a : Int} (ga : -2147483648 ≤ a ∧ a < 2147483648) {c : Int} (gc : -2147483648 ≤ c ∧ c < 2147483648) (ha : 1 ≤ a ∧ a ≤ 6) (hc : 1 ≤ c ∧ c ≤ 6) : Cl NC M_X5_mix [.ref 0, .int (I a), .int (I c)] h (fun v h1 => v = .int (I ((mixN K a.toNat c.toNat : Nat) : Int)) ∧ h1 = h) := by
  obtain ⟨a, rfl⟩ : ∃ m : Nat, a = (m : Int) := ⟨a.toNat, by omega⟩
  obtain ⟨c, rfl⟩ : ∃ m : Nat, c = (m : Int) := ⟨c.toNat, by omega⟩
  refine ax_iload_n dX5_mix_0 rfl ?_
  refine ax_iconst dX5_mix_1 ?_
  refine ax_bipush dX5_mix_2 (by decide) ?_
  refine ax_csvP3 dX5_mix_4 ln_X5_mix_58 (Nat.le_of_ble_eq_true rfl) rfl (sp_range ga (by omega) (by omega) (by omega)) ?_
  refine ax_iload_n dX5_mix_7 rfl ?_
  refine ax_iconst dX5_mix_8 ?_
  refine ax_bipush dX5_mix_9 (by decide) ?_
  refine ax_csvP3 dX5_mix_11 ln_X5_mix_58 (Nat.le_of_ble_eq_true rfl) rfl (sp_range gc (by omega) (by omega) (by omega)) ?_
  refine ax_aload_n dX5_mix_14 rfl ?_
  refine ax_getf dX5_mix_15 ck5 fl_X5_12 (by decide) (by omega) hW rfl ?_
  refine ax_iload_n dX5_mix_18 rfl ?_
  refine ax_iload_n dX5_mix_19 rfl ?_
  refine ax_cviP2 dX5_mix_20 ln_X5_mix_150 (Nat.le_of_ble_eq_true rfl) (Or.inl rfl) hS.n0 hS.o rfl (sp_mixOf hS hK (by omega) (by omega)) ?_
  exact ax_iret dX5_mix_23 rfl ⟨rfl, rfl⟩
theorem sx_mix (hN : 112 ≤ NC) {a : Int} (ga : -2147483648 ≤ a ∧ a < 2147483648) {c : Int} (gc : -2147483648 ≤ c ∧ c < 2147483648) (hx : ¬ (1 ≤ a ∧ a ≤ 6 ∧ 1 ≤ c ∧ c ≤ 6)) : Ct NC "java/lang/IllegalArgumentException" M_X5_mix [.ref 0, .int (I a), .int (I c)] h (fun _ h1 => h1 = h) := by
  refine ax_iload_n dX5_mix_0 rfl ?_
  refine ax_iconst dX5_mix_1 ?_
  refine ax_bipush dX5_mix_2 (by decide) ?_
  by_cases q : 1 ≤ a ∧ a ≤ 6
  · refine ax_csvP3 dX5_mix_4 ln_X5_mix_58 (Nat.le_of_ble_eq_true rfl) rfl (sp_range ga (by omega) (by omega) q) ?_
    refine ax_iload_n dX5_mix_7 rfl ?_
    refine ax_iconst dX5_mix_8 ?_
    refine ax_bipush dX5_mix_9 (by decide) ?_
    exact ax_csx3 dX5_mix_11 ln_X5_mix_58 (Nat.le_of_ble_eq_true rfl) rfl (sx_range gc (by omega) (by omega) (by omega)) (fun h1 q => q)
  · exact ax_csx3 dX5_mix_4 ln_X5_mix_58 (Nat.le_of_ble_eq_true rfl) rfl (sx_range ga (by omega) (by omega) q) (fun h1 q => q)
theorem sp_count (hN : 112 ≤ NC) (hW : KO h e) (hS : SA NC h 1 K) (hK : KI K) {a : Int} (ga : -2147483648 ≤ a ∧ a < 2147483648) (ha : 0 ≤ a ∧ a ≤ 6) : Cl NC M_X5_count [.ref 0, .int (I a)] h (fun v h1 => v = .int (I (cntC K a.toNat)) ∧ h1 = h) := by
  obtain ⟨a, rfl⟩ : ∃ m : Nat, a = (m : Int) := ⟨a.toNat, by omega⟩
  refine ax_iload_n dX5_count_0 rfl ?_
  refine ax_iconst dX5_count_1 ?_
  refine ax_bipush dX5_count_2 (by decide) ?_
  refine ax_csvP3 dX5_count_4 ln_X5_count_58 (Nat.le_of_ble_eq_true rfl) rfl (sp_range ga (by omega) (by omega) (by omega)) ?_
  refine ax_aload_n dX5_count_7 rfl ?_
  refine ax_getf dX5_count_8 ck5 fl_X5_12 (by decide) (by omega) hW rfl ?_
  refine ax_iload_n dX5_count_11 rfl ?_
  refine ax_cviP1 dX5_count_12 ln_X5_count_92 (Nat.le_of_ble_eq_true rfl) (Or.inl rfl) hS.n0 hS.o rfl (sp_cellsOfColour hS hK (by omega)) ?_
  exact ax_iret dX5_count_15 rfl ⟨rfl, rfl⟩
theorem sx_count (hN : 112 ≤ NC) {a : Int} (ga : -2147483648 ≤ a ∧ a < 2147483648) (hx : ¬ (0 ≤ a ∧ a ≤ 6)) : Ct NC "java/lang/IllegalArgumentException" M_X5_count [.ref 0, .int (I a)] h (fun _ h1 => h1 = h) := by
  refine ax_iload_n dX5_count_0 rfl ?_
  refine ax_iconst dX5_count_1 ?_
  refine ax_bipush dX5_count_2 (by decide) ?_
  exact ax_csx3 dX5_count_4 ln_X5_count_58 (Nat.le_of_ble_eq_true rfl) rfl (sx_range ga (by omega) (by omega) (by omega)) (fun h1 q => q)
theorem sp_unlike (hN : 112 ≤ NC) (hW : KO h e) (hS : SA NC h 1 K) (hK : KI K) : Cl NC M_X5_unlike [.ref 0] h (fun v h1 => v = .int (I (unlC K)) ∧ h1 = h) := by
  refine ax_aload_n dX5_unlike_0 rfl ?_
  refine ax_getf dX5_unlike_1 ck5 fl_X5_12 (by decide) (by omega) hW rfl ?_
  refine ax_cviP0 dX5_unlike_4 ln_X5_unlike_153 (Nat.le_of_ble_eq_true rfl) (Or.inl rfl) hS.n0 hS.o rfl (sp_unlikePairs hS hK) ?_
  exact ax_iret dX5_unlike_7 rfl ⟨rfl, rfl⟩
theorem sp_bleeds (hN : 112 ≤ NC) (hW : KO h e) (hS : SA NC h 1 K) (hK : KI K) {x : Int} (gx : -2147483648 ≤ x ∧ x < 2147483648) {y : Int} (gy : -2147483648 ≤ y ∧ y < 2147483648) (ho : onZ K x y = true) : Cl NC M_X5_bleeds [.ref 0, .int (I x), .int (I y)] h (fun v h1 => v = .int (I (blN K x.toNat y.toNat)) ∧ h1 = h) := by
  obtain ⟨u, v, rfl, rfl, hu, hv, hl, -⟩ := onZ_nat hK ho
  refine ax_aload_n dX5_bleeds_0 rfl ?_
  refine ax_iload_n dX5_bleeds_1 rfl ?_
  refine ax_iload_n dX5_bleeds_2 rfl ?_
  refine ax_cvvP2 dX5_bleeds_3 ln_X5_bleeds_124 (Nat.le_of_ble_eq_true rfl) rfl (by omega) hW rfl (sp_cell hN hW hS hK gx gy ho) ?_
  refine ax_aload_n dX5_bleeds_6 rfl ?_
  refine ax_getf dX5_bleeds_7 ck5 fl_X5_12 (by decide) (by omega) hW rfl ?_
  refine ax_iload_n dX5_bleeds_10 rfl ?_
  refine ax_iload_n dX5_bleeds_11 rfl ?_
  refine ax_cviP2 dX5_bleeds_12 ln_X5_bleeds_164 (Nat.le_of_ble_eq_true rfl) (Or.inl rfl) hS.n0 hS.o rfl (sp_sourceOf hS hK ho) ?_
  exact ax_iret dX5_bleeds_15 rfl ⟨rfl, rfl⟩
theorem sx_bleeds (hN : 112 ≤ NC) (hW : KO h e) (hS : SA NC h 1 K) (hK : KI K) {x : Int} (gx : -2147483648 ≤ x ∧ x < 2147483648) {y : Int} (gy : -2147483648 ≤ y ∧ y < 2147483648) (ho : ¬ onZ K x y = true) : Ct NC "java/lang/IndexOutOfBoundsException" M_X5_bleeds [.ref 0, .int (I x), .int (I y)] h (fun _ h1 => h1 = h) := by
  refine ax_aload_n dX5_bleeds_0 rfl ?_
  refine ax_iload_n dX5_bleeds_1 rfl ?_
  refine ax_iload_n dX5_bleeds_2 rfl ?_
  exact ax_cvx2 dX5_bleeds_3 ln_X5_bleeds_124 (Nat.le_of_ble_eq_true rfl) rfl (by omega) hW rfl (sx_cell hN hW hS hK gx gy ho) (fun h1 q => q)
theorem sp_region (hN : 112 ≤ NC) (hW : KO h e) (hS : SA NC h 1 K) (hK : KI K) {n0 : Nat} (hF : FO h n0) (s7 : sh 0 (h 107) 180) (s8 : sh 0 (h 108) 180) (s9 : sh 0 (h 109) 180) {x : Int} (gx : -2147483648 ≤ x ∧ x < 2147483648) {y : Int} (gy : -2147483648 ≤ y ∧ y < 2147483648) (ho : onZ K x y = true) : Cl NC M_X5_region [.ref 0, .int (I x), .int (I y)] h (fun r h1 => ∃ (n : Nat) (N X Y : Nat → Int) (q : Nat → Nat), r = .int (I (n : Int)) ∧ n ≤ 180 ∧ FO h1 n ∧ row 0 (h1 107) 180 N ∧ row 0 (h1 108) 180 X ∧ row 0 (h1 109) 180 Y ∧ BI K (y.toNat * K 0 + x.toNat) (fun _ => 0) N q n ∧ mkEnd K (y.toNat * K 0 + x.toNat) (fun _ => 0) N ∧ XY K q X Y n ∧ EqX [106, 107, 108, 109] h h1) := by
  obtain ⟨u, v, rfl, rfl, hu, hv, hl, -⟩ := onZ_nat hK ho
  refine ax_aload_n dX5_region_0 rfl ?_
  refine ax_iload_n dX5_region_1 rfl ?_
  refine ax_iload_n dX5_region_2 rfl ?_
  refine ax_cvvP2 dX5_region_3 ln_X5_region_124 (Nat.le_of_ble_eq_true rfl) rfl (by omega) hW rfl (sp_cell hN hW hS hK gx gy ho) ?_
  refine ax_aload_n dX5_region_6 rfl ?_
  refine ax_getf dX5_region_7 ck5 fl_X5_36 (by decide) (by omega) hW rfl ?_
  refine ax_aload_n dX5_region_10 rfl ?_
  refine ax_getf dX5_region_11 ck5 fl_X5_12 (by decide) (by omega) hW rfl ?_
  refine ax_iload_n dX5_region_14 rfl ?_
  refine ax_iload_n dX5_region_15 rfl ?_
  refine ax_cvi3 dX5_region_16 ln_X5_region_156 (Nat.le_of_ble_eq_true rfl) (Or.inl rfl) (by omega) hF rfl (sp_fillFrom (b := 1) hN (by omega) hS hK hF s7 s8 s9 ho rfl) (fun r g1 hq => ?_)
  exact ax_iret dX5_region_19 rfl hq
theorem sx_region (hN : 112 ≤ NC) (hW : KO h e) (hS : SA NC h 1 K) (hK : KI K) {x : Int} (gx : -2147483648 ≤ x ∧ x < 2147483648) {y : Int} (gy : -2147483648 ≤ y ∧ y < 2147483648) (ho : ¬ onZ K x y = true) : Ct NC "java/lang/IndexOutOfBoundsException" M_X5_region [.ref 0, .int (I x), .int (I y)] h (fun _ h1 => h1 = h) := by
  refine ax_aload_n dX5_region_0 rfl ?_
  refine ax_iload_n dX5_region_1 rfl ?_
  refine ax_iload_n dX5_region_2 rfl ?_
  exact ax_cvx2 dX5_region_3 ln_X5_region_124 (Nat.le_of_ble_eq_true rfl) rfl (by omega) hW rfl (sx_cell hN hW hS hK gx gy ho) (fun h1 q => q)
theorem sp_regions (hN : 112 ≤ NC) (hW : KO h e) (hS : SA NC h 1 K) (hK : KI K) {n0 : Nat} (hF : FO h n0) (s7 : sh 0 (h 107) 180) (s8 : sh 0 (h 108) 180) (s9 : sh 0 (h 109) 180) {a : Int} (ga : -2147483648 ≤ a ∧ a < 2147483648) (ha : 0 ≤ a ∧ a ≤ 6) : Cl NC M_X5_regions [.ref 0, .int (I a)] h (fun r h1 => ∃ acc N, r = .int (I acc) ∧ RG K a.toNat (nC K) N acc ∧ sh 0 (h1 107) 180 ∧ (∃ n0, FO h1 n0) ∧ sh 0 (h1 108) 180 ∧ sh 0 (h1 109) 180 ∧ EqX [106, 107, 108, 109] h h1) := by
  obtain ⟨a, rfl⟩ : ∃ m : Nat, a = (m : Int) := ⟨a.toNat, by omega⟩
  refine ax_iload_n dX5_regions_0 rfl ?_
  refine ax_iconst dX5_regions_1 ?_
  refine ax_bipush dX5_regions_2 (by decide) ?_
  refine ax_csvP3 dX5_regions_4 ln_X5_regions_58 (Nat.le_of_ble_eq_true rfl) rfl (sp_range ga (by omega) (by omega) (by omega)) ?_
  refine ax_aload_n dX5_regions_7 rfl ?_
  refine ax_getf dX5_regions_8 ck5 fl_X5_36 (by decide) (by omega) hW rfl ?_
  refine ax_aload_n dX5_regions_11 rfl ?_
  refine ax_getf dX5_regions_12 ck5 fl_X5_12 (by decide) (by omega) hW rfl ?_
  refine ax_iload_n dX5_regions_15 rfl ?_
  refine ax_cvi2 dX5_regions_16 ln_X5_regions_160 (Nat.le_of_ble_eq_true rfl) (Or.inl rfl) (by omega) hF rfl (sp_ofColour (b := 1) hN (by omega) hS hK hF s7 s8 s9 (by omega)) (fun r g1 hq => ?_)
  exact ax_iret dX5_regions_19 rfl hq
theorem sx_regions (hN : 112 ≤ NC) {a : Int} (ga : -2147483648 ≤ a ∧ a < 2147483648) (hx : ¬ (0 ≤ a ∧ a ≤ 6)) : Ct NC "java/lang/IllegalArgumentException" M_X5_regions [.ref 0, .int (I a)] h (fun _ h1 => h1 = h) := by
  refine ax_iload_n dX5_regions_0 rfl ?_
  refine ax_iconst dX5_regions_1 ?_
  refine ax_bipush dX5_regions_2 (by decide) ?_
  exact ax_csx3 dX5_regions_4 ln_X5_regions_58 (Nat.le_of_ble_eq_true rfl) rfl (sx_range ga (by omega) (by omega) (by omega)) (fun h1 q => q)
theorem sp_undo (hN : 112 ≤ NC) (hW : KO h e) (hS : SA NC h 1 K) (hK : KI K) (hC : CH NC h H d) (hd : 0 < d) : Cl NC M_X5_undo [.ref 0] h (fun v h1 => v = .int (I ((d - 1 : Nat) : Int)) ∧ CH NC h1 (fun t => H (t + 1)) (d - 1) ∧ SA NC h1 1 (H 0) ∧ ∀ a, a ≠ 21 → (a < 1 ∨ 11 ≤ a) → h1 a = h a) := by
  obtain ⟨m0, m1, m2, hO, mr⟩ := hC
  have hC : CH NC h H d := ⟨m0, m1, m2, hO, mr⟩
  refine ax_aload_n dX5_undo_0 rfl ?_
  refine ax_getf dX5_undo_1 ck5 fl_X5_22 (by decide) (by omega) hW rfl ?_
  refine ax_getf dX5_undo_4 ck1 fl_X5_233 (by decide) (by omega) hO rfl ?_
  refine ax_if_ne (tgt := 12) dX5_undo_7 (by decide) (by omega) (fun c7 => ?_) (fun c7 => ?_)
  · refine ax_aload_n dX5_undo_12 rfl ?_
    refine ax_getf dX5_undo_13 ck5 fl_X5_22 (by decide) (by omega) hW rfl ?_
    refine ax_aload_n dX5_undo_16 rfl ?_
    refine ax_getf dX5_undo_17 ck5 fl_X5_12 (by decide) (by omega) hW rfl ?_
    refine ax_cvv1 dX5_undo_20 ln_X5_undo_236 (Nat.le_of_ble_eq_true rfl) rfl (by omega) hO rfl (sp_takeBack (b := 1) hN (by omega) hS hd hC) (fun g1 hq => ?_)
    obtain ⟨⟨k0, k1, k2, hO1, kr⟩, hS1, hF1⟩ := hq
    have hW1 : KO g1 e := (hF1 0 (by decide) (by omega)).trans hW
    refine ax_aload_n dX5_undo_23 rfl ?_
    refine ax_getf dX5_undo_24 ck5 fl_X5_22 (by decide) (by omega) hW1 rfl ?_
    refine ax_getf dX5_undo_27 ck1 fl_X5_233 (by decide) (by omega) hO1 rfl ?_
    exact ax_iret dX5_undo_30 rfl ⟨rfl, ⟨k0, k1, k2, hO1, kr⟩, hS1, hF1⟩
  · exfalso
    omega
theorem sp_undo0 (hN : 112 ≤ NC) (hW : KO h e) (hS : SA NC h 1 K) (hK : KI K) (hC : CH NC h H 0) : Cl NC M_X5_undo [.ref 0] h (fun v h1 => v = .int (I (-1)) ∧ h1 = h) := by
  obtain ⟨m0, m1, m2, hO, mr⟩ := hC
  refine ax_aload_n dX5_undo_0 rfl ?_
  refine ax_getf dX5_undo_1 ck5 fl_X5_22 (by decide) (by omega) hW rfl ?_
  refine ax_getf dX5_undo_4 ck1 fl_X5_233 (by decide) (by omega) hO rfl ?_
  refine ax_if_ne (tgt := 12) dX5_undo_7 (by decide) (by omega) (fun c7 => ?_) (fun c7 => ?_)
  · exfalso
    omega
  · refine ax_iconst dX5_undo_10 ?_
    exact ax_iret dX5_undo_11 rfl ⟨rfl, rfl⟩
theorem sp_pass (hN : 112 ≤ NC) (hW : KO h e) (hS : SA NC h 1 K) (hK : KI K) (hC : CH NC h H d) (hB : BO h) (s4 : sh 0 (h 104) 180) (s5 : sh 0 (h 105) 180) {a : Int} (ga : -2147483648 ≤ a ∧ a < 2147483648) (ha : 1 ≤ a ∧ a ≤ 20) : Cl NC M_X5_pass [.ref 0, .int (I a)] h (fun v h1 => v = .int (I (blI K a.toNat)) ∧ SA NC h1 1 (upN (twI K a.toNat) 2 (K 2 + a.toNat)) ∧ CH NC h1 (psh K H) (min (d + 1) 8) ∧ sh 0 (h1 104) 180 ∧ sh 0 (h1 105) 180 ∧ ∀ b, (b < 1 ∨ 11 ≤ b) → (b < 21 ∨ 103 ≤ b) → b ≠ 104 → b ≠ 105 → h1 b = h b) := by
  obtain ⟨m0, m1, m2, hO, mr⟩ := hC
  have hC : CH NC h H d := ⟨m0, m1, m2, hO, mr⟩
  obtain ⟨a, rfl⟩ : ∃ m : Nat, a = (m : Int) := ⟨a.toNat, by omega⟩
  refine ax_iload_n dX5_pass_0 rfl ?_
  refine ax_iconst dX5_pass_1 ?_
  refine ax_bipush dX5_pass_2 (by decide) ?_
  refine ax_csvP3 dX5_pass_4 ln_X5_pass_58 (Nat.le_of_ble_eq_true rfl) rfl (sp_range ga (by omega) (by omega) (by omega)) ?_
  refine ax_aload_n dX5_pass_7 rfl ?_
  refine ax_getf dX5_pass_8 ck5 fl_X5_22 (by decide) (by omega) hW rfl ?_
  refine ax_aload_n dX5_pass_11 rfl ?_
  refine ax_getf dX5_pass_12 ck5 fl_X5_12 (by decide) (by omega) hW rfl ?_
  refine ax_cvv1 dX5_pass_15 ln_X5_pass_69 (Nat.le_of_ble_eq_true rfl) rfl (by omega) hO rfl (sp_keep (b := 1) hN (by omega) hS hC) (fun g1 hq => ?_)
  obtain ⟨hC1, hF1⟩ := hq
  have hW1 : KO g1 e := (hF1 0 (by omega)).trans hW
  have hS1 : SA NC g1 1 K := hS.eq (fun a a1 a2 => hF1 a (by omega))
  have hB1 : BO g1 := (hF1 103 (by omega)).trans hB
  refine ax_aload_n dX5_pass_18 rfl ?_
  refine ax_getf dX5_pass_19 ck5 fl_X5_29 (by decide) (by omega) hW1 rfl ?_
  refine ax_aload_n dX5_pass_22 rfl ?_
  refine ax_getf dX5_pass_23 ck5 fl_X5_12 (by decide) (by omega) hW1 rfl ?_
  refine ax_iload_n dX5_pass_26 rfl ?_
  refine ax_cvi2 dX5_pass_27 ln_X5_pass_167 (Nat.le_of_ble_eq_true rfl) (Or.inl rfl) (by omega) hB1 rfl (sp_letPass (b := 1) hN (by omega) hS1 hK hB1 (s4.mv (hF1 104 (by omega))) (s5.mv (hF1 105 (by omega))) (by omega)) (fun r g2 hq => ?_)
  obtain ⟨hv, hS2, t4, t5, hF2⟩ := hq
  exact ax_iret dX5_pass_30 rfl ⟨hv, hS2, hC1.eq (fun b b1 b2 => hF2 b (by omega) (by omega) (by omega)), t4, t5, fun b b1 b2 b3 b4 => (hF2 b b3 b4 (by omega)).trans (hF1 b b2)⟩
theorem sx_pass (hN : 112 ≤ NC) {a : Int} (ga : -2147483648 ≤ a ∧ a < 2147483648) (hx : ¬ (1 ≤ a ∧ a ≤ 20)) : Ct NC "java/lang/IllegalArgumentException" M_X5_pass [.ref 0, .int (I a)] h (fun _ h1 => h1 = h) := by
  refine ax_iload_n dX5_pass_0 rfl ?_
  refine ax_iconst dX5_pass_1 ?_
  refine ax_bipush dX5_pass_2 (by decide) ?_
  exact ax_csx3 dX5_pass_4 ln_X5_pass_58 (Nat.le_of_ble_eq_true rfl) rfl (sx_range ga (by omega) (by omega) (by omega)) (fun h1 q => q)
end CA
