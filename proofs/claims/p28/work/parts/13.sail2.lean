/-! the sail of the class: what it answers -/
theorem nC_le {K : Nat → Nat} (hK : KI K) : nC K ≤ 180 := by
  have := hK.1
  exact Nat.le_trans (Nat.mul_le_mul (by omega) (by omega)) (by decide : 15 * 12 ≤ 180)
theorem ci_lt {K : Nat → Nat} {x y : Nat} (hy : y < K 1) (hx : x < K 0) : y * K 0 + x < nC K := by
  have h1 : (y + 1) * K 0 ≤ K 1 * K 0 := Nat.mul_le_mul_right _ hy
  rw [Nat.add_mul, Nat.one_mul] at h1
  unfold nC
  rw [Nat.mul_comm (K 0)]
  omega
theorem ci_div {K : Nat → Nat} {x y : Nat} (hx : x < K 0) : (y * K 0 + x) / K 0 = y := by
  rw [Nat.mul_comm, Nat.mul_add_div (by omega), Nat.div_eq_of_lt hx]; rfl
theorem ci_mod {K : Nat → Nat} {x y : Nat} (hx : x < K 0) : (y * K 0 + x) % K 0 = x := by
  rw [Nat.mul_comm, Nat.mul_add_mod, Nat.mod_eq_of_lt hx]
theorem on_at {K : Nat → Nat} {x y : Nat} (hx : x < K 0) : on K (y * K 0 + x) = onZ K (x : Int) (y : Int) := by
  unfold on; rw [ci_div hx, ci_mod hx]
theorem onZ_iff {K : Nat → Nat} {x y : Int} : onZ K x y = true ↔ 0 ≤ y ∧ y < K 1 ∧ ((K 0 / 2 : Nat) : Int) - K (6 + y.toNat) ≤ x ∧ x ≤ ((K 0 / 2 : Nat) : Int) + K (6 + y.toNat) := by
  unfold onZ; simp only [Bool.and_eq_true, decide_eq_true_eq, and_assoc]
theorem on_of {K : Nat → Nat} {x y : Nat} (hx : x < K 0) (hy : y < K 1) (h1 : K 0 / 2 ≤ x + K (6 + y)) (h2 : x ≤ K 0 / 2 + K (6 + y)) : on K (y * K 0 + x) = true := by
  rw [on_at hx, onZ_iff, Int.toNat_natCast]; omega
theorem off_of {K : Nat → Nat} {x y : Nat} (hx : x < K 0) (h : ¬ (K 0 / 2 ≤ x + K (6 + y) ∧ x ≤ K 0 / 2 + K (6 + y))) : on K (y * K 0 + x) = false := by
  rw [on_at hx]
  cases e : onZ K (x : Int) (y : Int) with
  | false => rfl
  | true => rw [onZ_iff, Int.toNat_natCast] at e; exfalso; omega
/-- a row of cells, in two steps -/
theorem rs1 {K : Nat → Nat} {f : Nat → Int} (hK : KI K) (hf : ∀ i, on K i = false → f i = 0) {y : Nat} (hy : y < K 1) : si f (y * K 0 + (K 0 / 2 - K (6 + y))) = si f (y * K 0) := by
  have k0 := hK.1
  refine si_skip (by omega) (fun k h1 h2 => hf k ?_)
  have := off_of (K := K) (x := k - y * K 0) (y := y) (by omega) (by omega)
  rw [show y * K 0 + (k - y * K 0) = k by omega] at this
  exact this
theorem rs2 {K : Nat → Nat} {f : Nat → Int} (hK : KI K) (hf : ∀ i, on K i = false → f i = 0) {y : Nat} (hy : y < K 1) : si f ((y + 1) * K 0) = si f (y * K 0 + (K 0 / 2 + K (6 + y) + 1)) := by
  have k0 := hK.1
  have k1 := hK.2.1 y (by omega)
  have e : (y + 1) * K 0 = y * K 0 + K 0 := by rw [Nat.add_mul, Nat.one_mul]
  rw [e]
  refine si_skip (by omega) (fun k h1 h2 => hf k ?_)
  have := off_of (K := K) (x := k - y * K 0) (y := y) (by omega) (by omega)
  rw [show y * K 0 + (k - y * K 0) = k by omega] at this
  exact this
/-- a sum over all 180 places is one over the cells of the kite -/
theorem si_all {K : Nat → Nat} {f : Nat → Int} (hK : KI K) (hf : ∀ i, i < 180 → nC K ≤ i → f i = 0) : si f 180 = si f (nC K) := si_skip (nC_le hK) (fun k h1 h2 => hf k h2 h1)
def cfA (K : Nat → Nat) : Nat → Int := fun i => if on K i = true then 1 else 0
def cfC (K : Nat → Nat) (c : Nat) : Nat → Int := fun i => if on K i = true ∧ K (74 + i) = c then 1 else 0
def cfS (K : Nat → Nat) : Nat → Int := fun i => K (434 + i)
def cfW (K : Nat → Nat) : Nat → Int := fun i => if 0 < K (254 + i) then 1 else 0
def mirN (K : Nat → Nat) (i : Nat) : Nat := i / K 0 * K 0 + (K 0 - 1 - i % K 0)
def cfU (K : Nat → Nat) : Nat → Int := fun i => if on K i = true ∧ i % K 0 < K 0 / 2 ∧ K (74 + i) ≠ K (74 + mirN K i) then 1 else 0
def cfO (K K' : Nat → Nat) : Nat → Int := fun i => if K (74 + i) ≠ K' (74 + i) then 1 else 0
def sgz (z : Int) : Int := if z < 0 then -1 else if z = 0 then 0 else 1
def sdN (K : Nat → Nat) (i : Nat) : Int := sgz (((i % K 0 : Nat) : Int) - ((K 0 / 2 : Nat) : Int))
def wgN (K : Nat → Nat) (i : Nat) : Nat := K 3 + K (18 + K (74 + i)) + K (434 + i) * K 4
def cfG (K : Nat → Nat) (sd : Int) : Nat → Int := fun i => if on K i = true ∧ sdN K i = sd then (wgN K i : Int) else 0
def mxN (f : Nat → Nat) : Nat → Nat
  | 0 => 0
  | n + 1 => max (mxN f n) (f n)
def allC (K : Nat → Nat) : Int := si (cfA K) (nC K)
def cntC (K : Nat → Nat) (c : Nat) : Int := si (cfC K c) (nC K)
def sprC (K : Nat → Nat) : Int := si (cfS K) (nC K)
def wetC (K : Nat → Nat) : Int := si (cfW K) (nC K)
def unlC (K : Nat → Nat) : Int := si (cfU K) (nC K)
def othC (K K' : Nat → Nat) : Int := si (cfO K K') (nC K)
def sidW (K : Nat → Nat) (sd : Int) : Int := si (cfG K sd) (nC K)
def balW (K : Nat → Nat) : Int := sidW K 1 - sidW K (-1)
def grtW (K : Nat → Nat) : Nat := mxN (fun i => K (254 + i)) (nC K)
theorem wg_le {K : Nat → Nat} (hK : KI K) {i : Nat} (hi : i < 180) : wgN K i ≤ 297 := by
  have k0 := hK.1
  have k1 := hK.2.2.1 (K (74 + i)) (by have := hK.2.2.2.2.1 i hi; omega)
  have k2 := hK.2.2.2.2.2.2.1 i hi
  unfold wgN
  have : K (434 + i) * K 4 ≤ 1 * 99 := Nat.mul_le_mul k2 (by omega)
  omega
theorem mx_le {f : Nat → Nat} {c : Nat} : ∀ {n : Nat}, (∀ i, i < n → f i ≤ c) → mxN f n ≤ c
  | 0, _ => Nat.zero_le _
  | n + 1, h => by
    have h1 := mx_le (n := n) (fun i hi => h i (by omega))
    have h2 := h n (by omega)
    show max _ _ ≤ c
    omega
/-- the cells of a row -/
theorem row_cnt {K : Nat → Nat} (hK : KI K) {y : Nat} (hy : y < K 1) : ∀ n : Nat, K 0 / 2 - K (6 + y) + n ≤ K 0 / 2 + K (6 + y) + 1 → si (cfA K) (y * K 0 + (K 0 / 2 - K (6 + y) + n)) = si (cfA K) (y * K 0) + n
  | 0, _ => by
    have := rs1 (f := cfA K) hK (fun i h => by unfold cfA; rw [if_neg (by rw [h]; decide)]) hy
    simpa using this
  | n + 1, h => by
    have k0 := hK.1
    have k1 := hK.2.1 y (by omega)
    have ih := row_cnt hK hy n (by omega)
    rw [show y * K 0 + (K 0 / 2 - K (6 + y) + (n + 1)) = y * K 0 + (K 0 / 2 - K (6 + y) + n) + 1 by omega, si_succ, ih]
    have : cfA K (y * K 0 + (K 0 / 2 - K (6 + y) + n)) = 1 := by
      unfold cfA
      rw [if_pos (on_of (by omega) hy (by omega) (by omega))]
    rw [this]; push_cast; omega
theorem row_all {K : Nat → Nat} (hK : KI K) {y : Nat} (hy : y < K 1) : si (cfA K) ((y + 1) * K 0) = si (cfA K) (y * K 0) + (2 * (K (6 + y) : Int) + 1) := by
  have k1 := hK.2.1 y (by have := hK.1; omega)
  rw [rs2 hK (fun i h => by unfold cfA; rw [if_neg (by rw [h]; decide)]) hy]
  have := row_cnt hK hy (2 * K (6 + y) + 1) (by omega)
  rw [show y * K 0 + (K 0 / 2 - K (6 + y) + (2 * K (6 + y) + 1)) = y * K 0 + (K 0 / 2 + K (6 + y) + 1) by omega] at this
  rw [this]; push_cast; omega
section SM
variable {NC b : Nat} {h : hp} {K : Nat → Nat} {Q : qt}
theorem cmp_sgz {x y : Int} (hx : -2147483648 ≤ x ∧ x < 2147483648) (hy : -2147483648 ≤ y ∧ y < 2147483648) : (if I x < I y then (-1 : Int32) else if I x = I y then 0 else 1) = I (sgz (x - y)) := by
  unfold sgz
  simp only [I_lt hx hy, I_eq hx hy]
  by_cases h1 : x < y
  · rw [if_pos h1, if_pos (by omega)]; decide
  · rw [if_neg h1, if_neg (by omega : ¬ x - y < 0)]
    by_cases h2 : x = y
    · rw [if_pos h2, if_pos (by omega : x - y = 0)]; decide
    · rw [if_neg h2, if_neg (by omega : ¬ x - y = 0)]; decide
theorem sp_holds (hS : SA NC h b K) (hK : KI K) {x y : Int} (hx : -2147483648 ≤ x ∧ x < 2147483648) (hy : -2147483648 ≤ y ∧ y < 2147483648) : Cl NC M_X3_holds [.ref b, .int (I x), .int (I y)] h (fun v h1 => v = .int (I (if onZ K x y = true then 1 else 0)) ∧ h1 = h) := by
  have k0 := hK.1
  have fin0 : ∀ (L : List Value), ¬ onZ K x y = true → Ex NC none M_X3_holds 34 L [] h (fun v h1 => v = .int (I (if onZ K x y = true then 1 else 0)) ∧ h1 = h) := by
    intro L hn
    refine ax_iconst dX3_holds_34 ?_
    exact ax_zret dX3_holds_35 rfl (Or.inl rfl) ⟨by rw [if_neg hn], rfl⟩
  refine ax_iload_n dX3_holds_0 rfl ?_
  refine ax_if_lt (tgt := 34) dX3_holds_1 (by decide) hy (fun c1 => fin0 _ (by rw [onZ_iff]; omega)) (fun c1 => ?_)
  refine ax_iload_n dX3_holds_4 rfl ?_
  refine ax_aload_n dX3_holds_5 rfl ?_
  refine ax_getf dX3_holds_6 ck3 fl_X3_47 (by decide) hS.n0 hS.o rfl ?_
  refine ax_icmp_ge (tgt := 34) dX3_holds_9 (by decide) hy (by omega) (fun c2 => fin0 _ (by rw [onZ_iff]; omega)) (fun c2 => ?_)
  obtain ⟨j, rfl⟩ : ∃ j : Nat, y = (j : Int) := ⟨y.toNat, by omega⟩
  have k1 := hK.2.1 j (by omega)
  refine ax_iload_n dX3_holds_12 rfl ?_
  refine ax_aload_n dX3_holds_13 rfl ?_
  refine ax_iload_n dX3_holds_14 rfl ?_
  refine ax_cviP1 dX3_holds_15 ln_X3_holds_78 (Nat.le_of_ble_eq_true rfl) (Or.inl rfl) hS.n0 hS.o rfl (sp_firstX hS hK (y := j) (by omega)) ?_
  refine ax_icmp_lt (tgt := 34) dX3_holds_18 (by decide) hx (by omega) (fun c3 => fin0 _ (by rw [onZ_iff, Int.toNat_natCast]; omega)) (fun c3 => ?_)
  refine ax_iload_n dX3_holds_21 rfl ?_
  refine ax_aload_n dX3_holds_22 rfl ?_
  refine ax_iload_n dX3_holds_23 rfl ?_
  refine ax_cviP1 dX3_holds_24 ln_X3_holds_82 (Nat.le_of_ble_eq_true rfl) (Or.inl rfl) hS.n0 hS.o rfl (sp_lastX hS hK (y := j) (by omega)) ?_
  refine ax_icmp_gt (tgt := 34) dX3_holds_27 (by decide) hx (by omega) (fun c4 => fin0 _ (by rw [onZ_iff, Int.toNat_natCast]; omega)) (fun c4 => ?_)
  refine ax_iconst dX3_holds_30 ?_
  refine ax_goto (tgt := 35) dX3_holds_31 (by decide) ?_
  exact ax_zret dX3_holds_35 rfl (Or.inr rfl) ⟨by rw [if_pos (by rw [onZ_iff, Int.toNat_natCast]; omega)], rfl⟩
theorem sp_numberOf (hS : SA NC h b K) {x y : Int} : Cl NC M_X3_numberOf [.ref b, .int (I x), .int (I y)] h (fun v h1 => v = .int (I (y * (K 0 : Int) + x)) ∧ h1 = h) := by
  refine ax_iload_n dX3_numberOf_0 rfl ?_
  refine ax_aload_n dX3_numberOf_1 rfl ?_
  refine ax_getf dX3_numberOf_2 ck3 fl_X3_43 (by decide) hS.n0 hS.o rfl ?_
  refine ax_imul dX3_numberOf_5 ?_
  refine ax_iload_n dX3_numberOf_6 rfl ?_
  refine ax_iadd dX3_numberOf_7 ?_
  exact ax_iret dX3_numberOf_8 rfl ⟨rfl, rfl⟩
theorem sp_mirrorX (hS : SA NC h b K) {x : Int} : Cl NC M_X3_mirrorX [.ref b, .int (I x)] h (fun v h1 => v = .int (I ((K 0 : Int) - 1 - x)) ∧ h1 = h) := by
  refine ax_aload_n dX3_mirrorX_0 rfl ?_
  refine ax_getf dX3_mirrorX_1 ck3 fl_X3_43 (by decide) hS.n0 hS.o rfl ?_
  refine ax_iconst dX3_mirrorX_4 ?_
  refine ax_isub dX3_mirrorX_5 ?_
  refine ax_iload_n dX3_mirrorX_6 rfl ?_
  refine ax_isub dX3_mirrorX_7 ?_
  exact ax_iret dX3_mirrorX_8 rfl ⟨rfl, rfl⟩
theorem sp_sideOf (hS : SA NC h b K) (hK : KI K) {x : Int} (hx : -2147483648 ≤ x ∧ x < 2147483648) : Cl NC M_X3_sideOf [.ref b, .int (I x)] h (fun v h1 => v = .int (I (sgz (x - ((K 0 / 2 : Nat) : Int)))) ∧ h1 = h) := by
  have k0 := hK.1
  refine ax_iload_n dX3_sideOf_0 rfl ?_
  refine ax_aload_n dX3_sideOf_1 rfl ?_
  refine ax_cviP0 dX3_sideOf_2 ln_X3_sideOf_74 (Nat.le_of_ble_eq_true rfl) (Or.inl rfl) hS.n0 hS.o rfl (sp_middle hS hK) ?_
  refine ex_l_compare (by exact dX3_sideOf_5) (by decide) (show 2 ≤ _ ∧ 50 ≤ _ from ⟨by decide, by decide⟩) (Nat.le_of_ble_eq_true rfl) ?_
  exact ax_iret dX3_sideOf_8 rfl ⟨by rw [cmp_sgz hx (by omega)], rfl⟩
theorem sp_toldMix (hS : SA NC h b K) (hK : KI K) {a c : Nat} (ha : a < 7) (hc : c < 7) : Cl NC M_X3_toldMix [.ref b, .int (I (a : Int)), .int (I (c : Int))] h (fun v h1 => v = .int (I (K (25 + (a * 7 + c)) : Int)) ∧ h1 = h) := by
  refine ax_aload_n dX3_toldMix_0 rfl ?_
  refine ax_getf dX3_toldMix_1 ck3 fl_X3_18 (by decide) hS.n0 hS.o rfl ?_
  refine ax_iload_n dX3_toldMix_4 rfl ?_
  refine ax_bipush dX3_toldMix_5 (by decide) ?_
  refine ax_imul dX3_toldMix_7 ?_
  refine ax_iload_n dX3_toldMix_8 rfl ?_
  refine ax_iadd dX3_toldMix_9 ?_
  refine ax_ialr (j := (a * 7 + c)) (w := (K (25 + (a * 7 + c)) : Int)) dX3_toldMix_10 (hS.n 3 (by omega)) hS.mx (by omega) (by omega) (by decide) rfl ?_
  exact ax_iret dX3_toldMix_11 rfl ⟨rfl, rfl⟩
def mixN (K : Nat → Nat) (a c : Nat) : Nat := if a = c then a else if K (25 + (a * 7 + c)) = 0 then max a c else K (25 + (a * 7 + c))
theorem max_I {x y : Int} (hx : -2147483648 ≤ x ∧ x < 2147483648) (hy : -2147483648 ≤ y ∧ y < 2147483648) : (if I x < I y then I y else I x) = I (max x y) := by
  simp only [I_lt hx hy]
  by_cases h : x < y
  · rw [if_pos h]; congr 1; omega
  · rw [if_neg h]; congr 1; omega
theorem min_I {x y : Int} (hx : -2147483648 ≤ x ∧ x < 2147483648) (hy : -2147483648 ≤ y ∧ y < 2147483648) : (if I x ≤ I y then I x else I y) = I (min x y) := by
  simp only [I_le hx hy]
  by_cases h : x ≤ y
  · rw [if_pos h]; congr 1; omega
  · rw [if_neg h]; congr 1; omega
theorem sp_mixOf (hS : SA NC h b K) (hK : KI K) {a c : Nat} (ha : a < 7) (hc : c < 7) : Cl NC M_X3_mixOf [.ref b, .int (I (a : Int)), .int (I (c : Int))] h (fun v h1 => v = .int (I (mixN K a c : Int)) ∧ h1 = h) := by
  have k4 := hK.2.2.2.1 (a * 7 + c) (by omega)
  refine ax_iload_n dX3_mixOf_0 rfl ?_
  refine ax_iload_n dX3_mixOf_1 rfl ?_
  refine ax_icmp_ne (tgt := 7) dX3_mixOf_2 (by decide) (by omega) (by omega) (fun c2 => ?_) (fun c2 => ?_)
  · refine ax_aload_n dX3_mixOf_7 rfl ?_
    refine ax_iload_n dX3_mixOf_8 rfl ?_
    refine ax_iload_n dX3_mixOf_9 rfl ?_
    refine ax_cviP2 dX3_mixOf_10 ln_X3_mixOf_91 (Nat.le_of_ble_eq_true rfl) (Or.inl rfl) hS.n0 hS.o rfl (sp_toldMix hS hK ha hc) ?_
    refine ax_istore_n dX3_mixOf_13 rfl (by decide) ?_
    refine ax_iload_n dX3_mixOf_14 rfl ?_
    refine ax_if_eq (tgt := 22) dX3_mixOf_15 (by decide) (by omega) (fun c15 => ?_) (fun c15 => ?_)
    · refine ax_iload_n dX3_mixOf_22 rfl ?_
      refine ax_iload_n dX3_mixOf_23 rfl ?_
      refine ex_l_max (by exact dX3_mixOf_24) (by decide) (show 2 ≤ _ ∧ 50 ≤ _ from ⟨by decide, by decide⟩) (Nat.le_of_ble_eq_true rfl) ?_
      rw [max_I (by omega) (by omega)]
      try rw [show max (a : Int) (c : Int) = ((max a c : Nat) : Int) by omega]
      exact ax_iret dX3_mixOf_27 rfl ⟨iq (by unfold mixN; rw [if_neg (by omega)]; first | rw [if_pos (by omega)] | rw [if_neg (by omega)]), rfl⟩
    · refine ax_iload_n dX3_mixOf_18 rfl ?_
      refine ax_goto (tgt := 27) dX3_mixOf_19 (by decide) ?_
      try rw [show max (a : Int) (c : Int) = ((max a c : Nat) : Int) by omega]
      exact ax_iret dX3_mixOf_27 rfl ⟨iq (by unfold mixN; rw [if_neg (by omega)]; first | rw [if_pos (by omega)] | rw [if_neg (by omega)]), rfl⟩
  · refine ax_iload_n dX3_mixOf_5 rfl ?_
    exact ax_iret dX3_mixOf_6 rfl ⟨iq (by unfold mixN; rw [if_pos (by omega)]), rfl⟩
theorem sp_weightAt (hS : SA NC h b K) (hK : KI K) {i : Nat} (hi : i < 180) : Cl NC M_X3_weightAt [.ref b, .int (I (i : Int))] h (fun v h1 => v = .int (I (wgN K i : Int)) ∧ h1 = h) := by
  have k4 := hK.2.2.2.2.1 i hi
  refine ax_aload_n dX3_weightAt_0 rfl ?_
  refine ax_getf dX3_weightAt_1 ck3 fl_X3_53 (by decide) hS.n0 hS.o rfl ?_
  refine ax_aload_n dX3_weightAt_4 rfl ?_
  refine ax_getf dX3_weightAt_5 ck3 fl_X3_15 (by decide) hS.n0 hS.o rfl ?_
  refine ax_aload_n dX3_weightAt_8 rfl ?_
  refine ax_getf dX3_weightAt_9 ck3 fl_X3_30 (by decide) hS.n0 hS.o rfl ?_
  refine ax_iload_n dX3_weightAt_12 rfl ?_
  refine ax_ialr (j := i) (w := (K (74 + i) : Int)) dX3_weightAt_13 (hS.n 7 (by omega)) hS.co (by omega) (by omega) (by decide) rfl ?_
  refine ax_ialr (j := (K (74 + i))) (w := (K (18 + (K (74 + i))) : Int)) dX3_weightAt_14 (hS.n 2 (by omega)) hS.cw (by omega) (by omega) (by decide) rfl ?_
  refine ax_iadd dX3_weightAt_15 ?_
  refine ax_aload_n dX3_weightAt_16 rfl ?_
  refine ax_getf dX3_weightAt_17 ck3 fl_X3_36 (by decide) hS.n0 hS.o rfl ?_
  refine ax_iload_n dX3_weightAt_20 rfl ?_
  refine ax_ialr (j := i) (w := (K (434 + i) : Int)) dX3_weightAt_21 (hS.n 9 (by omega)) hS.sp (by omega) (by omega) (by decide) rfl ?_
  refine ax_aload_n dX3_weightAt_22 rfl ?_
  refine ax_getf dX3_weightAt_23 ck3 fl_X3_56 (by decide) hS.n0 hS.o rfl ?_
  refine ax_imul dX3_weightAt_26 ?_
  refine ax_iadd dX3_weightAt_27 ?_
  exact ax_iret dX3_weightAt_28 rfl ⟨iq (by unfold wgN; push_cast; rfl), rfl⟩
theorem sp_patternColour (hS : SA NC h b K) (hK : KI K) {p l d : Nat} (hp : p < 3) (hl : l < 6) (hd : d < 7) : Cl NC M_X3_patternColour [.ref b, .int (I (p : Int)), .int (I (l : Int)), .int (I (d : Int))] h (fun v h1 => v = .int (I (K (616 + 44 * p + (7 * l + d)) : Int)) ∧ h1 = h) := by
  refine ax_aload_n dX3_patternColour_0 rfl ?_
  refine ax_getf dX3_patternColour_1 ck3 fl_X3_27 (by decide) hS.n0 hS.o rfl ?_
  refine ax_iload_n dX3_patternColour_4 rfl ?_
  refine ax_bipush dX3_patternColour_5 (by decide) ?_
  refine ax_imul dX3_patternColour_7 ?_
  refine ax_iload_n dX3_patternColour_8 rfl ?_
  refine ax_iadd dX3_patternColour_9 ?_
  refine ax_bipush dX3_patternColour_10 (by decide) ?_
  refine ax_imul dX3_patternColour_12 ?_
  refine ax_iload_n dX3_patternColour_13 rfl ?_
  refine ax_iadd dX3_patternColour_14 ?_
  refine ax_ialr (j := ((p * 6 + l) * 7 + d)) (w := (K (616 + 44 * p + (7 * l + d)) : Int)) dX3_patternColour_15 (hS.n 6 (by omega)) hS.pc (by omega) (by omega) (by decide) (congrArg (fun z => ((K z : Nat) : Int)) (by omega : 616 + 44 * (((p * 6 + l) * 7 + d) / 42) + ((p * 6 + l) * 7 + d) % 42 = 616 + 44 * p + (7 * l + d))) ?_
  exact ax_iret dX3_patternColour_16 rfl ⟨rfl, rfl⟩
theorem lp_allCells (hS : SA NC h b K) (hK : KI K) (kk : Ex NC none M_X3_allCells 31 [.ref b, .int (I (allC K)), .int (I (K 1 : Int))] [] h Q) : ∀ (n : Nat) (y : Nat) (acc : Int), y + n = K 1 → acc = si (cfA K) (y * K 0) → Ex NC none M_X3_allCells 4 [.ref b, .int (I acc), .int (I (y : Int))] [] h Q := by
  have k0 := hK.1
  intro n
  induction n with
  | zero =>
    intro y acc hy ha
    refine ax_iload_n dX3_allCells_4 rfl ?_
    refine ax_aload_n dX3_allCells_5 rfl ?_
    refine ax_getf dX3_allCells_6 ck3 fl_X3_47 (by decide) hS.n0 hS.o rfl ?_
    refine ax_icmp_ge (tgt := 31) dX3_allCells_9 (by decide) (by omega) (by omega) (fun c9 => ?_) (fun c9 => ?_)
    · have e : y = K 1 := by omega
      subst e
      rw [ha, Nat.mul_comm (K 1) (K 0)]
      exact kk
    · exfalso
      omega
  | succ n ih =>
    intro y acc hy ha
    refine ax_iload_n dX3_allCells_4 rfl ?_
    refine ax_aload_n dX3_allCells_5 rfl ?_
    refine ax_getf dX3_allCells_6 ck3 fl_X3_47 (by decide) hS.n0 hS.o rfl ?_
    refine ax_icmp_ge (tgt := 31) dX3_allCells_9 (by decide) (by omega) (by omega) (fun c9 => ?_) (fun c9 => ?_)
    · exfalso
      omega
    · refine ax_iload_n dX3_allCells_12 rfl ?_
      refine ax_iconst dX3_allCells_13 ?_
      refine ax_aload_n dX3_allCells_14 rfl ?_
      refine ax_getf dX3_allCells_15 ck3 fl_X3_9 (by decide) hS.n0 hS.o rfl ?_
      refine ax_iload_n dX3_allCells_18 rfl ?_
      refine ax_ialr (j := y) (w := (K (6 + y) : Int)) dX3_allCells_19 (hS.n 1 (by omega)) hS.re (by omega) (by omega) (by decide) rfl ?_
      refine ax_imul dX3_allCells_20 ?_
      refine ax_iconst dX3_allCells_21 ?_
      refine ax_iadd dX3_allCells_22 ?_
      refine ax_iadd dX3_allCells_23 ?_
      refine ax_istore_n dX3_allCells_24 rfl (by decide) ?_
      refine ax_iinc dX3_allCells_25 rfl rfl (by decide) ?_
      refine ax_goto (tgt := 4) dX3_allCells_28 (by decide) ?_
      exact ih (y + 1) _ (by omega) (by rw [row_all hK (by omega), ha])
theorem sp_allCells (hS : SA NC h b K) (hK : KI K) : Cl NC M_X3_allCells [.ref b] h (fun v h1 => v = .int (I (allC K)) ∧ h1 = h) := by
  refine ax_iconst dX3_allCells_0 ?_
  refine ax_istore_n dX3_allCells_1 rfl (by decide) ?_
  refine ax_iconst dX3_allCells_2 ?_
  refine ax_istore_n dX3_allCells_3 rfl (by decide) ?_
  refine lp_allCells hS hK ?_ (K 1) 0 0 (by omega) (by rw [Nat.zero_mul]; rfl)
  refine ax_iload_n dX3_allCells_31 rfl ?_
  exact ax_iret dX3_allCells_32 rfl ⟨rfl, rfl⟩
end SM
