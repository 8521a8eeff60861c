/-! the class: bleeding -/
theorem SA.eq {NC b : Nat} {h g : hp} {K : Nat → Nat} (hS : SA NC h b K) (e : ∀ a, b ≤ a → a < b + 10 → g a = h a) : SA NC g b K :=
  ⟨hS.1, (e b (by omega) (by omega)).trans hS.o, hS.re.mv (e _ (by omega) (by omega)), hS.cw.mv (e _ (by omega) (by omega)), hS.mx.mv (e _ (by omega) (by omega)), hS.pl.mv (e _ (by omega) (by omega)), hS.pd.mv (e _ (by omega) (by omega)), hS.pc.mv (e _ (by omega) (by omega)), hS.co.mv (e _ (by omega) (by omega)), hS.we.mv (e _ (by omega) (by omega)), hS.sp.mv (e _ (by omega) (by omega))⟩
def BO (h : hp) : Prop := h 103 = .inr (0, [.ref 104, .ref 105])
def tikW (K : Nat → Nat) : Nat → Nat := fun j => if 74 ≤ j ∧ j < 254 then colT K (j - 74) else if 254 ≤ j ∧ j < 434 then wetT K (j - 254) else K j
def bpC (K : Nat → Nat) (i j : Nat) : Int := if j < i then (colT K j : Int) else (K (74 + j) : Int)
def hwT (K : Nat → Nat) (j : Nat) : Nat := if 0 ≤ blT K j then halT K j else K (254 + j)
def bpW (K : Nat → Nat) (i j : Nat) : Int := if j < i then (hwT K j : Int) else (K (254 + j) : Int)
theorem colT_off {K : Nat → Nat} {j : Nat} (h : on K j = false) : colT K j = K (74 + j) := by
  unfold colT; rw [if_neg (by rw [blT_off h]; omega)]
theorem hwT_off {K : Nat → Nat} {j : Nat} (h : on K j = false) : hwT K j = K (254 + j) := by
  unfold hwT; rw [if_neg (by rw [blT_off h]; omega)]
theorem pc_skip {K : Nat → Nat} {a b : Nat} (hab : a ≤ b) (h : ∀ k, a ≤ k → k < b → on K k = false) (j : Nat) : bpC K b j = bpC K a j := by
  unfold bpC
  by_cases q : j < a
  · rw [if_pos q, if_pos (by omega)]
  · by_cases q2 : j < b
    · rw [if_pos q2, if_neg q, colT_off (h j (by omega) q2)]
    · rw [if_neg q2, if_neg q]
theorem pw_skip {K : Nat → Nat} {a b : Nat} (hab : a ≤ b) (h : ∀ k, a ≤ k → k < b → on K k = false) (j : Nat) : bpW K b j = bpW K a j := by
  unfold bpW
  by_cases q : j < a
  · rw [if_pos q, if_pos (by omega)]
  · by_cases q2 : j < b
    · rw [if_pos q2, if_neg q, hwT_off (h j (by omega) q2)]
    · rw [if_neg q2, if_neg q]
/-- the cells of a row that are not of the sail -/
theorem row_off1 {K : Nat → Nat} (hK : KI K) {y : Nat} (hy : y < K 1) : ∀ k, y * K 0 ≤ k → k < y * K 0 + (K 0 / 2 - K (6 + y)) → on K k = false := by
  intro k h1 h2
  have k0 := hK.1
  have := off_of (K := K) (x := k - y * K 0) (y := y) (by omega) (by omega)
  rw [show y * K 0 + (k - y * K 0) = k by omega] at this
  exact this
theorem row_off2 {K : Nat → Nat} (hK : KI K) {y : Nat} (hy : y < K 1) : ∀ k, y * K 0 + (K 0 / 2 + K (6 + y) + 1) ≤ k → k < (y + 1) * K 0 → on K k = false := by
  intro k h1 h2
  have k0 := hK.1
  rw [Nat.add_mul, Nat.one_mul] at h2
  have := off_of (K := K) (x := k - y * K 0) (y := y) (by omega) (by omega)
  rw [show y * K 0 + (k - y * K 0) = k by omega] at this
  exact this
theorem row_le {K : Nat → Nat} (hK : KI K) {y : Nat} (hy : y < K 1) : y * K 0 + (K 0 / 2 + K (6 + y) + 1) ≤ (y + 1) * K 0 := by
  have k0 := hK.1
  have k1 := hK.2.1 y (by omega)
  rw [Nat.add_mul, Nat.one_mul]; omega
theorem cfB_off {K : Nat → Nat} : ∀ i, on K i = false → cfB K i = 0 := fun i h => by unfold cfB; rw [if_neg (by rw [blT_off h]; omega)]
theorem blT_at {K : Nat → Nat} {x y : Nat} (hx : x < K 0) (hon : on K (y * K 0 + x) = true) : blT K (y * K 0 + x) = blN K x y := by
  unfold blT blC; rw [if_pos hon, ci_div hx, ci_mod hx]
def bmN (K : Nat → Nat) (i q : Nat) : Nat := if K (74 + i) = 0 then K (74 + q) else mixN K (K (74 + i)) (K (74 + q))
section BL
variable {NC b : Nat} {h : hp} {K : Nat → Nat} {Q : qt}
theorem sp_bleedInto (hN : 112 ≤ NC) (hb : b + 10 ≤ 103) (hS : SA NC h b K) (hK : KI K) (hB : BO h) {i q : Nat} (hi : i < 180) (hq : q < 180) {N W : Nat → Int} (hN1 : row 0 (h 104) 180 N) (hN2 : row 0 (h 105) 180 W) : Cl NC M_X0_bleedInto [.ref 103, .ref b, .int (I (i : Int)), .int (I (q : Int))] h (fun _ h1 => row 0 (h1 104) 180 (upZ N i ((bmN K i q : Nat) : Int)) ∧ row 0 (h1 105) 180 (upZ W i (((K (254 + i) + K (254 + q)) / 2 : Nat) : Int)) ∧ EqX [104, 105] h h1) := by
  have c1 := hK.2.2.2.2.1 i hi
  have c2 := hK.2.2.2.2.1 q hq
  have w1 := hK.2.2.2.2.2.1 i hi
  have w2 := hK.2.2.2.2.2.1 q hq
  refine ax_aload_n dX0_bleedInto_0 rfl ?_
  refine ax_getf dX0_bleedInto_1 ck3 fl_X0_36 (by decide) hS.n0 hS.o rfl ?_
  refine ax_iload_n dX0_bleedInto_4 rfl ?_
  refine ax_ialr (j := i) (w := (K (74 + i) : Int)) dX0_bleedInto_5 (hS.n 7 (by omega)) hS.co (by omega) (by omega) (by decide) rfl ?_
  refine ax_istore dX0_bleedInto_6 rfl (by decide) ?_
  refine ax_aload_n dX0_bleedInto_8 rfl ?_
  refine ax_getf dX0_bleedInto_9 ck3 fl_X0_36 (by decide) hS.n0 hS.o rfl ?_
  refine ax_iload_n dX0_bleedInto_12 rfl ?_
  refine ax_ialr (j := q) (w := (K (74 + q) : Int)) dX0_bleedInto_13 (hS.n 7 (by omega)) hS.co (by omega) (by omega) (by decide) rfl ?_
  refine ax_istore dX0_bleedInto_14 rfl (by decide) ?_
  refine ax_aload_n dX0_bleedInto_16 rfl ?_
  refine ax_getf dX0_bleedInto_17 ck0 fl_X0_9 (by decide) (by omega) hB rfl ?_
  refine ax_iload_n dX0_bleedInto_20 rfl ?_
  refine ax_iload dX0_bleedInto_21 rfl ?_
  refine ax_if_ne (tgt := 31) dX0_bleedInto_23 (by decide) (by omega) (fun c23 => ?_) (fun c23 => ?_)
  · have ec : bmN K i q = mixN K (K (74 + i)) (K (74 + q)) := if_neg (by omega)
    refine ax_aload_n dX0_bleedInto_31 rfl ?_
    refine ax_iload dX0_bleedInto_32 rfl ?_
    refine ax_iload dX0_bleedInto_34 rfl ?_
    refine ax_cviP2 dX0_bleedInto_36 ln_X0_bleedInto_69 (Nat.le_of_ble_eq_true rfl) (Or.inl rfl) hS.n0 hS.o rfl (sp_mixOf hS hK (by omega) (by omega)) ?_
    first | rw [show I ((mixN K (K (74 + i)) (K (74 + q)) : Nat) : Int) = I ((bmN K i q : Nat) : Int) by rw [ec]] | rw [show I ((K (74 + q) : Nat) : Int) = I ((bmN K i q : Nat) : Int) by rw [ec]]
    refine ax_iasr (j := i) dX0_bleedInto_39 (by omega) hN1 (by omega) (by omega) (by decide) (fun e39 he39 => ?_)
    have hS1 : SA NC (va_up h 104 e39) b K := hS.eq (fun a h1 h2 => vu_ne (by omega))
    have hB1 : BO (va_up h 104 e39) := (vu_ne (by decide)).trans hB
    have hR1 : row 0 (va_up h 104 e39 105) 180 _ := hN2.mv (vu_ne (by decide))
    have hR0 : row 0 (va_up h 104 e39 104) 180 _ := he39.mv vu_eq
    have hX1 : EqX [104, 105] h (va_up h 104 e39) := EqX.rf.up (by decide)
    generalize va_up h 104 e39 = g at *
    refine ax_aload_n dX0_bleedInto_40 rfl ?_
    refine ax_getf dX0_bleedInto_41 ck0 fl_X0_15 (by decide) (by omega) hB1 rfl ?_
    refine ax_iload_n dX0_bleedInto_44 rfl ?_
    refine ax_aload_n dX0_bleedInto_45 rfl ?_
    refine ax_getf dX0_bleedInto_46 ck3 fl_X0_45 (by decide) hS1.n0 hS1.o rfl ?_
    refine ax_iload_n dX0_bleedInto_49 rfl ?_
    refine ax_ialr (j := i) (w := (K (254 + i) : Int)) dX0_bleedInto_50 (hS1.n 8 (by omega)) hS1.we (by omega) (by omega) (by decide) rfl ?_
    refine ax_aload_n dX0_bleedInto_51 rfl ?_
    refine ax_getf dX0_bleedInto_52 ck3 fl_X0_45 (by decide) hS1.n0 hS1.o rfl ?_
    refine ax_iload_n dX0_bleedInto_55 rfl ?_
    refine ax_ialr (j := q) (w := (K (254 + q) : Int)) dX0_bleedInto_56 (hS1.n 8 (by omega)) hS1.we (by omega) (by omega) (by decide) rfl ?_
    refine ax_iadd dX0_bleedInto_57 ?_
    refine ax_iconst dX0_bleedInto_58 ?_
    refine ax_idiv dX0_bleedInto_59 (by omega) (by omega) ?_
    rw [show ((K (254 + i) : Int) + (K (254 + q) : Int)) / 2 = (((K (254 + i) + K (254 + q)) / 2 : Nat) : Int) by omega]
    refine ax_iasr (j := i) dX0_bleedInto_60 (by omega) hR1 (by omega) (by omega) (by decide) (fun e60 he60 => ?_)
    have r0 : row 0 (va_up g 105 e60 104) 180 _ := hR0.mv (vu_ne (by decide))
    have r1 : row 0 (va_up g 105 e60 105) 180 _ := he60.mv vu_eq
    exact ax_vret dX0_bleedInto_61 rfl ⟨r0, r1, hX1.up (by decide)⟩
  · have ec : bmN K i q = K (74 + q) := if_pos (by omega)
    refine ax_iload dX0_bleedInto_26 rfl ?_
    refine ax_goto (tgt := 39) dX0_bleedInto_28 (by decide) ?_
    first | rw [show I ((mixN K (K (74 + i)) (K (74 + q)) : Nat) : Int) = I ((bmN K i q : Nat) : Int) by rw [ec]] | rw [show I ((K (74 + q) : Nat) : Int) = I ((bmN K i q : Nat) : Int) by rw [ec]]
    refine ax_iasr (j := i) dX0_bleedInto_39 (by omega) hN1 (by omega) (by omega) (by decide) (fun e39 he39 => ?_)
    have hS1 : SA NC (va_up h 104 e39) b K := hS.eq (fun a h1 h2 => vu_ne (by omega))
    have hB1 : BO (va_up h 104 e39) := (vu_ne (by decide)).trans hB
    have hR1 : row 0 (va_up h 104 e39 105) 180 _ := hN2.mv (vu_ne (by decide))
    have hR0 : row 0 (va_up h 104 e39 104) 180 _ := he39.mv vu_eq
    have hX1 : EqX [104, 105] h (va_up h 104 e39) := EqX.rf.up (by decide)
    generalize va_up h 104 e39 = g at *
    refine ax_aload_n dX0_bleedInto_40 rfl ?_
    refine ax_getf dX0_bleedInto_41 ck0 fl_X0_15 (by decide) (by omega) hB1 rfl ?_
    refine ax_iload_n dX0_bleedInto_44 rfl ?_
    refine ax_aload_n dX0_bleedInto_45 rfl ?_
    refine ax_getf dX0_bleedInto_46 ck3 fl_X0_45 (by decide) hS1.n0 hS1.o rfl ?_
    refine ax_iload_n dX0_bleedInto_49 rfl ?_
    refine ax_ialr (j := i) (w := (K (254 + i) : Int)) dX0_bleedInto_50 (hS1.n 8 (by omega)) hS1.we (by omega) (by omega) (by decide) rfl ?_
    refine ax_aload_n dX0_bleedInto_51 rfl ?_
    refine ax_getf dX0_bleedInto_52 ck3 fl_X0_45 (by decide) hS1.n0 hS1.o rfl ?_
    refine ax_iload_n dX0_bleedInto_55 rfl ?_
    refine ax_ialr (j := q) (w := (K (254 + q) : Int)) dX0_bleedInto_56 (hS1.n 8 (by omega)) hS1.we (by omega) (by omega) (by decide) rfl ?_
    refine ax_iadd dX0_bleedInto_57 ?_
    refine ax_iconst dX0_bleedInto_58 ?_
    refine ax_idiv dX0_bleedInto_59 (by omega) (by omega) ?_
    rw [show ((K (254 + i) : Int) + (K (254 + q) : Int)) / 2 = (((K (254 + i) + K (254 + q)) / 2 : Nat) : Int) by omega]
    refine ax_iasr (j := i) dX0_bleedInto_60 (by omega) hR1 (by omega) (by omega) (by decide) (fun e60 he60 => ?_)
    have r0 : row 0 (va_up g 105 e60 104) 180 _ := hR0.mv (vu_ne (by decide))
    have r1 : row 0 (va_up g 105 e60 105) 180 _ := he60.mv vu_eq
    exact ax_vret dX0_bleedInto_61 rfl ⟨r0, r1, hX1.up (by decide)⟩
theorem pc_st0 {K : Nat → Nat} {i : Nat} (hb : blT K i < 0) (j : Nat) : bpC K (i + 1) j = bpC K i j := by
  unfold bpC
  by_cases q : j < i
  · rw [if_pos q, if_pos (by omega)]
  · by_cases q2 : j = i
    · rw [q2, if_pos (by omega), if_neg (by omega)]; unfold colT; rw [if_neg (by omega)]
    · rw [if_neg (by omega), if_neg q]
theorem pw_st0 {K : Nat → Nat} {i : Nat} (hb : blT K i < 0) (j : Nat) : bpW K (i + 1) j = bpW K i j := by
  unfold bpW
  by_cases q : j < i
  · rw [if_pos q, if_pos (by omega)]
  · by_cases q2 : j = i
    · rw [q2, if_pos (by omega), if_neg (by omega)]; unfold hwT; rw [if_neg (by omega)]
    · rw [if_neg (by omega), if_neg q]
theorem pc_st1 {K : Nat → Nat} {i q : Nat} (hb : blT K i = (q : Int)) {N : Nat → Int} (hN : ∀ j, j < 180 → N j = bpC K i j) (j : Nat) (hj : j < 180) : upZ N i ((bmN K i q : Nat) : Int) j = bpC K (i + 1) j := by
  simp only [upZ]
  by_cases e : j = i
  · rw [if_pos e, e]
    unfold bpC
    rw [if_pos (by omega : i < i + 1)]
    unfold colT bmN
    rw [if_pos (by omega : 0 ≤ blT K i), hb, Int.toNat_natCast]
  · rw [if_neg e, hN j hj]
    unfold bpC
    by_cases q : j < i
    · rw [if_pos q, if_pos (by omega)]
    · rw [if_neg q, if_neg (by omega)]
theorem pw_st1 {K : Nat → Nat} {i q : Nat} (hb : blT K i = (q : Int)) {N : Nat → Int} (hN : ∀ j, j < 180 → N j = bpW K i j) (j : Nat) (hj : j < 180) : upZ N i (((K (254 + i) + K (254 + q)) / 2 : Nat) : Int) j = bpW K (i + 1) j := by
  simp only [upZ]
  by_cases e : j = i
  · rw [if_pos e, e]
    unfold bpW hwT halT
    rw [if_pos (by omega), if_pos (by omega), hb, Int.toNat_natCast]
  · rw [if_neg e, hN j hj]
    unfold bpW
    by_cases q : j < i
    · rw [if_pos q, if_pos (by omega)]
    · rw [if_neg q, if_neg (by omega)]
theorem li_bleed (hN : 112 ≤ NC) (hb : b + 10 ≤ 103) (hS : SA NC h b K) (hK : KI K) (hB : BO h) {y : Nat} (hy : y < K 1) (kk : ∀ (w : Value) (g : hp) (N W : Nat → Int), row 0 (g 104) 180 N → row 0 (g 105) 180 W → (∀ j, j < 180 → N j = bpC K (y * K 0 + (K 0 / 2 + K (6 + y) + 1)) j) → (∀ j, j < 180 → W j = bpW K (y * K 0 + (K 0 / 2 + K (6 + y) + 1)) j) → EqX [104, 105] h g → Ex NC none M_X0_bleedOnce 98 [.ref 103, .ref b, .int (I (si (cfB K) (y * K 0 + (K 0 / 2 + K (6 + y) + 1)))), .int (I (y : Int)), .int (I ((K 0 / 2 + K (6 + y) + 1 : Nat) : Int)), w] [] g Q) : ∀ (n : Nat) (x : Nat) (acc : Int) (w : Value) (g : hp) (N W : Nat → Int), x + n = K 0 / 2 + K (6 + y) + 1 → K 0 / 2 - K (6 + y) ≤ x → acc = si (cfB K) (y * K 0 + x) → row 0 (g 104) 180 N → row 0 (g 105) 180 W → (∀ j, j < 180 → N j = bpC K (y * K 0 + x) j) → (∀ j, j < 180 → W j = bpW K (y * K 0 + x) j) → EqX [104, 105] h g → Ex NC none M_X0_bleedOnce 51 [.ref 103, .ref b, .int (I acc), .int (I (y : Int)), .int (I (x : Int)), w] [] g Q := by
  have k0 := hK.1
  have k1 := hK.2.1 y (by omega)
  have n0 := nC_le hK
  have hS0 := hS
  have hB0 := hB
  intro n
  induction n with
  | zero =>
    intro x acc w g N W hx hx0 ha hN1 hW1 iN iW hX
    have hS : SA NC g b K := hS0.eq (fun a h1 h2 => hX a (by simp; omega))
    have hB : BO g := (hX 103 (by decide)).trans hB0
    refine ax_iload dX0_bleedOnce_51 rfl ?_
    refine ax_aload_n dX0_bleedOnce_53 rfl ?_
    refine ax_iload_n dX0_bleedOnce_54 rfl ?_
    refine ax_cviP1 dX0_bleedOnce_55 ln_X0_bleedOnce_55 (Nat.le_of_ble_eq_true rfl) (Or.inl rfl) hS.n0 hS.o rfl (sp_lastX hS hK (by omega)) ?_
    refine ax_icmp_gt (tgt := 98) dX0_bleedOnce_58 (by decide) (by omega) (by omega) (fun c58 => ?_) (fun c58 => ?_)
    · have e : x = K 0 / 2 + K (6 + y) + 1 := by omega
      subst e
      rw [ha]
      exact kk w g N W hN1 hW1 iN iW hX
    · exfalso
      omega
  | succ n ih =>
    intro x acc w g N W hx hx0 ha hN1 hW1 iN iW hX
    have hS : SA NC g b K := hS0.eq (fun a h1 h2 => hX a (by simp; omega))
    have hB : BO g := (hX 103 (by decide)).trans hB0
    refine ax_iload dX0_bleedOnce_51 rfl ?_
    refine ax_aload_n dX0_bleedOnce_53 rfl ?_
    refine ax_iload_n dX0_bleedOnce_54 rfl ?_
    refine ax_cviP1 dX0_bleedOnce_55 ln_X0_bleedOnce_55 (Nat.le_of_ble_eq_true rfl) (Or.inl rfl) hS.n0 hS.o rfl (sp_lastX hS hK (by omega)) ?_
    refine ax_icmp_gt (tgt := 98) dX0_bleedOnce_58 (by decide) (by omega) (by omega) (fun c58 => ?_) (fun c58 => ?_)
    · exfalso
      omega
    · have hon := on_of (K := K) (x := x) (y := y) (by omega) hy (by omega) (by omega)
      have eb := blT_at (K := K) (x := x) (y := y) (by omega) hon
      have gb := blT_rg hK (y * K 0 + x)
      have hlt := ci_lt (K := K) (x := x) hy (by omega)
      refine ax_aload_n dX0_bleedOnce_61 rfl ?_
      refine ax_iload dX0_bleedOnce_62 rfl ?_
      refine ax_iload_n dX0_bleedOnce_64 rfl ?_
      refine ax_cviP2 dX0_bleedOnce_65 ln_X0_bleedOnce_58 (Nat.le_of_ble_eq_true rfl) (Or.inl rfl) hS.n0 hS.o rfl (sp_sourceOf hS hK (by rw [← on_at (by omega)]; exact hon)) ?_
      rw [← eb]
      refine ax_istore dX0_bleedOnce_68 rfl (by decide) ?_
      refine ax_iload dX0_bleedOnce_70 rfl ?_
      refine ax_if_lt (tgt := 92) dX0_bleedOnce_72 (by decide) (by omega) (fun c72 => ?_) (fun c72 => ?_)
      · refine ax_iinc dX0_bleedOnce_92 rfl rfl (by decide) ?_
        refine ax_goto (tgt := 51) dX0_bleedOnce_95 (by decide) ?_
        exact ih (x + 1) _ _ g N W (by omega) (by omega) (by rw [show y * K 0 + (x + 1) = y * K 0 + x + 1 by omega, si_succ, show cfB K (y * K 0 + x) = 0 from if_neg (by omega), ha, Int.add_zero]) hN1 hW1 (fun j hj => by rw [show y * K 0 + (x + 1) = y * K 0 + x + 1 by omega, pc_st0 (by omega), iN j hj]) (fun j hj => by rw [show y * K 0 + (x + 1) = y * K 0 + x + 1 by omega, pw_st0 (by omega), iW j hj]) hX
      · obtain ⟨q, eq⟩ : ∃ q : Nat, blT K (y * K 0 + x) = (q : Int) := ⟨(blT K (y * K 0 + x)).toNat, by omega⟩
        rw [eq]
        refine ax_aload_n dX0_bleedOnce_75 rfl ?_
        refine ax_aload_n dX0_bleedOnce_76 rfl ?_
        refine ax_aload_n dX0_bleedOnce_77 rfl ?_
        refine ax_iload dX0_bleedOnce_78 rfl ?_
        refine ax_iload_n dX0_bleedOnce_80 rfl ?_
        refine ax_cviP2 dX0_bleedOnce_81 ln_X0_bleedOnce_62 (Nat.le_of_ble_eq_true rfl) (Or.inl rfl) hS.n0 hS.o rfl (sp_numberOf hS) ?_
        rw [show ((y : Int) * (K 0 : Int) + (x : Int)) = ((y * K 0 + x : Nat) : Int) by push_cast; omega]
        refine ax_iload dX0_bleedOnce_84 rfl ?_
        refine ax_cvv3 dX0_bleedOnce_86 ln_X0_bleedOnce_65 (Nat.le_of_ble_eq_true rfl) rfl (by omega) hB rfl (sp_bleedInto hN hb hS hK hB (i := y * K 0 + x) (q := q) (by omega) (by omega) hN1 hW1) (fun g1 hq1 => ?_)
        obtain ⟨hN2, hW2, hX2⟩ := hq1
        refine ax_iinc dX0_bleedOnce_89 rfl rfl (by decide) ?_
        refine ax_iinc dX0_bleedOnce_92 rfl rfl (by decide) ?_
        refine ax_goto (tgt := 51) dX0_bleedOnce_95 (by decide) ?_
        exact ih (x + 1) _ _ g1 _ _ (by omega) (by omega) (by rw [show y * K 0 + (x + 1) = y * K 0 + x + 1 by omega, si_succ, show cfB K (y * K 0 + x) = 1 from if_pos (by omega), ha]) hN2 hW2 (fun j hj => by rw [show y * K 0 + (x + 1) = y * K 0 + x + 1 by omega]; exact pc_st1 eq iN j hj) (fun j hj => by rw [show y * K 0 + (x + 1) = y * K 0 + x + 1 by omega]; exact pw_st1 eq iW j hj) (hX.tr hX2)
theorem lo_bleed (hN : 112 ≤ NC) (hb : b + 10 ≤ 103) (hS : SA NC h b K) (hK : KI K) (hB : BO h) (kk : ∀ (w4 w5 : Value) (g : hp) (N W : Nat → Int), row 0 (g 104) 180 N → row 0 (g 105) 180 W → (∀ j, j < 180 → N j = bpC K (nC K) j) → (∀ j, j < 180 → W j = bpW K (nC K) j) → EqX [104, 105] h g → Ex NC none M_X0_bleedOnce 104 [.ref 103, .ref b, .int (I (bleC K)), .int (I (K 1 : Int)), w4, w5] [] g Q) : ∀ (n : Nat) (y : Nat) (acc : Int) (w4 w5 : Value) (g : hp) (N W : Nat → Int), y + n = K 1 → acc = si (cfB K) (y * K 0) → row 0 (g 104) 180 N → row 0 (g 105) 180 W → (∀ j, j < 180 → N j = bpC K (y * K 0) j) → (∀ j, j < 180 → W j = bpW K (y * K 0) j) → EqX [104, 105] h g → Ex NC none M_X0_bleedOnce 36 [.ref 103, .ref b, .int (I acc), .int (I (y : Int)), w4, w5] [] g Q := by
  have k0 := hK.1
  have hS0 := hS
  have hB0 := hB
  intro n
  induction n with
  | zero =>
    intro y acc w4 w5 g N W hy ha hN1 hW1 iN iW hX
    have hS : SA NC g b K := hS0.eq (fun a h1 h2 => hX a (by simp; omega))
    have hB : BO g := (hX 103 (by decide)).trans hB0
    refine ax_iload_n dX0_bleedOnce_36 rfl ?_
    refine ax_aload_n dX0_bleedOnce_37 rfl ?_
    refine ax_getf dX0_bleedOnce_38 ck3 fl_X0_48 (by decide) hS.n0 hS.o rfl ?_
    refine ax_icmp_ge (tgt := 104) dX0_bleedOnce_41 (by decide) (by omega) (by omega) (fun c41 => ?_) (fun c41 => ?_)
    · have e : y = K 1 := by omega
      subst e
      rw [ha, Nat.mul_comm (K 1) (K 0)]
      refine kk _ _ g N W hN1 hW1 ?_ ?_ hX
      · intro j hj; rw [iN j hj, Nat.mul_comm (K 1) (K 0)]; rfl
      · intro j hj; rw [iW j hj, Nat.mul_comm (K 1) (K 0)]; rfl
    · exfalso
      omega
  | succ n ih =>
    intro y acc w4 w5 g N W hy ha hN1 hW1 iN iW hX
    have hS : SA NC g b K := hS0.eq (fun a h1 h2 => hX a (by simp; omega))
    have hB : BO g := (hX 103 (by decide)).trans hB0
    have hy9 : y < K 1 := by omega
    have k1 := hK.2.1 y (by omega)
    refine ax_iload_n dX0_bleedOnce_36 rfl ?_
    refine ax_aload_n dX0_bleedOnce_37 rfl ?_
    refine ax_getf dX0_bleedOnce_38 ck3 fl_X0_48 (by decide) hS.n0 hS.o rfl ?_
    refine ax_icmp_ge (tgt := 104) dX0_bleedOnce_41 (by decide) (by omega) (by omega) (fun c41 => ?_) (fun c41 => ?_)
    · exfalso
      omega
    · refine ax_aload_n dX0_bleedOnce_44 rfl ?_
      refine ax_iload_n dX0_bleedOnce_45 rfl ?_
      refine ax_cviP1 dX0_bleedOnce_46 ln_X0_bleedOnce_51 (Nat.le_of_ble_eq_true rfl) (Or.inl rfl) hS.n0 hS.o rfl (sp_firstX hS hK (by omega)) ?_
      refine ax_istore (L' := [.ref 103, .ref b, .int (I acc), .int (I (y : Int)), .int (I ((K 0 / 2 - K (6 + y) : Nat) : Int)), w5]) dX0_bleedOnce_49 (by rw [show ((K 0 / 2 - K (6 + y) : Nat) : Int) = ((K 0 / 2 : Nat) : Int) - (K (6 + y) : Int) by omega]; rfl) (by decide) ?_
      refine li_bleed (h := h) hN hb hS0 hK hB0 hy9 (fun w g1 N1 W1 hN3 hW3 iN3 iW3 hX3 => ?_) (K 0 / 2 + K (6 + y) + 1 - (K 0 / 2 - K (6 + y))) (K 0 / 2 - K (6 + y)) acc w5 g N W (by omega) (Nat.le_refl _) (by rw [rs1 hK cfB_off hy9, ha]) hN1 hW1 (fun j hj => by rw [pc_skip (by omega) (row_off1 hK hy9)]; exact iN j hj) (fun j hj => by rw [pw_skip (by omega) (row_off1 hK hy9)]; exact iW j hj) hX
      refine ax_iinc dX0_bleedOnce_98 rfl rfl (by decide) ?_
      refine ax_goto (tgt := 36) dX0_bleedOnce_101 (by decide) ?_
      exact ih (y + 1) _ _ w g1 N1 W1 (by omega) (by rw [rs2 hK cfB_off hy9]) hN3 hW3 (fun j hj => by rw [pc_skip (row_le hK hy9) (row_off2 hK hy9)]; exact iN3 j hj) (fun j hj => by rw [pw_skip (row_le hK hy9) (row_off2 hK hy9)]; exact iW3 j hj) hX3
end BL
