/-! the reference: paint, strip, stroke, spar -/
theorem putB_eq {K : Nat → Nat} {u v c w : Nat} {mi : Bool} (hu : u < K 0) (ho : onZ K (u : Int) (v : Int) = true) : putB K (v * K 0 + u) c w mi = putC K (u : Int) (v : Int) c w mi := by
  unfold putB putC
  rw [if_pos ho, mir_at hu]
  rfl
theorem mir_lt {K : Nat → Nat} (hK : KI K) {u v : Nat} (hu : u < K 0) (hv : v < K 1) : mirN K (v * K 0 + u) < 180 := by
  rw [mir_at hu]
  have := ci_lt (K := K) (x := K 0 - 1 - u) (y := v) hv (by omega)
  have := nC_le hK
  omega
def posN (K : Nat → Nat) (x y : Int) : Int := if onZ K x y = true then y * (K 0 : Int) + x else -1
theorem pos_at {K : Nat → Nat} {u v : Nat} (ho : onZ K (u : Int) (v : Int) = true) : posN K (u : Int) (v : Int) = ((v * K 0 + u : Nat) : Int) := by
  unfold posN; rw [if_pos ho]; push_cast; omega
theorem pos_rg {K : Nat → Nat} (hK : KI K) (x y : Int) : -1 ≤ posN K x y ∧ posN K x y < 180 ∧ (posN K x y = -1 ↔ ¬ onZ K x y = true) := by
  by_cases ho : onZ K x y = true
  · obtain ⟨u, v, rfl, rfl, hu, hv, hl, n0, -⟩ := onZ_nat hK ho
    rw [pos_at ho]
    exact ⟨by omega, by omega, fun z => by omega, fun z => absurd ho z⟩
  · unfold posN; rw [if_neg ho]
    exact ⟨by omega, by omega, fun _ => ho, fun _ => rfl⟩
theorem bes_eq {K2 : Nat → Nat} {u v w j : Nat} (hw : K2 0 = w) (hu : u < w) : (if onZ K2 ((((v * w + u) % K2 0 : Nat) : Int) + dxW j) ((((v * w + u) / K2 0 : Nat) : Int) + dyW j) = true then ((((v * w + u) / K2 0 : Nat) : Int) + dyW j) * (K2 0 : Int) + ((((v * w + u) % K2 0 : Nat) : Int) + dxW j) else -1) = posN K2 ((u : Int) + dxW j) ((v : Int) + dyW j) := by
  subst hw
  rw [ci_mod hu, ci_div hu]
  rfl
section MP
variable {NC : Nat} {h : hp} {s : Nat → Int} {K : Nat → Nat} {H : Nat → Nat → Nat} {d : Nat} {Q : qt}
theorem s6_paint (hN : 132 ≤ NC) (hM : MD h s K) (hK : KI K) (hs : s 12 = (d : Int)) (hH : MH h H d) {x : Int} (gx : -2147483648 ≤ x ∧ x < 2147483648) {y : Int} (gy : -2147483648 ≤ y ∧ y < 2147483648) {c w : Nat} {mi : Bool} (ho : onZ K x y = true) (hc : 1 ≤ c ∧ c ≤ 6) (hw : 1 ≤ w ∧ w ≤ 9) : Cl NC M_X6_paint [.ref 112, .int (I x), .int (I y), .int (I (c : Int)), .int (I (w : Int)), .int (I (if mi = true then 1 else 0))] h (fun v h1 => v = .int (I (balW (putC K x y c w mi))) ∧ MD h1 (upZ (upZ s 0 0) 12 ((min (d + 1) 8 : Nat) : Int)) (putC K x y c w mi) ∧ MH h1 (psh K H) (min (d + 1) 8) ∧ ∀ a, a ≠ 112 → a ≠ 114 → ¬ (118 ≤ a ∧ a ≤ 125) → h1 a = h a) := by
  obtain ⟨u, v, rfl, rfl, hu, hv, hl, n0, -⟩ := onZ_nat hK ho
  have ed : ((v : Int) * (K 0 : Int) + (u : Int)) = ((v * K 0 + u : Nat) : Int) := by push_cast; omega
  have hon : on K (v * K 0 + u) = true := by rw [on_at hu]; exact ho
  refine ax_aload_n dX6_paint_0 rfl ?_
  refine ax_iconst dX6_paint_1 ?_
  refine ax_putf dX6_paint_2 ck6 fl_X6_51 (by decide) (by omega) hM.1 rfl (Or.inl rfl) (Nat.le_of_ble_eq_true rfl) rfl ?_
  generalize hg0 : va_up h 112 _ = g0
  have hM0 : MD g0 (upZ s 0 0) K := by rw [← hg0]; exact hM.s0
  have y0 : Y2 h g0 := fun a ha => by rw [← hg0]; exact vu_ne ha
  have z0 : upZ s 0 0 0 = 0 := rfl
  refine ax_aload_n dX6_paint_5 rfl ?_
  refine ax_iload_n dX6_paint_6 rfl ?_
  refine ax_iload_n dX6_paint_7 rfl ?_
  refine ax_cviP2 dX6_paint_8 ln_X6_paint_258 (Nat.le_of_ble_eq_true rfl) (Or.inr rfl) (by omega) hM0.1 rfl (s6_noCellF hN hM0 hK z0 gx gy ho) ?_
  refine ax_if_ne (tgt := 48) dX6_paint_11 (by decide) (by omega) (fun c11 => ?_) (fun c11 => ?_)
  · exfalso
    omega
  · refine ax_aload_n dX6_paint_14 rfl ?_
    refine ax_iload_n dX6_paint_15 rfl ?_
    refine ax_iconst dX6_paint_16 ?_
    refine ax_bipush dX6_paint_17 (by decide) ?_
    refine ax_csiP3 dX6_paint_19 ln_X6_paint_54 (Nat.le_of_ble_eq_true rfl) (Or.inr rfl) (s6_in (by omega) (by omega) (by omega)) ?_
    refine ax_if_eq (tgt := 36) dX6_paint_22 (by decide) (by split <;> omega) (fun c22 => ?_) (fun c22 => ?_)
    · exfalso
      rw [if_pos (by omega)] at c22
      first | exact absurd c22 (by decide) | exact c22 rfl
    · refine ax_iload dX6_paint_25 rfl ?_
      refine ax_iconst dX6_paint_27 ?_
      refine ax_bipush dX6_paint_28 (by decide) ?_
      refine ax_csiP3 dX6_paint_30 ln_X6_paint_54 (Nat.le_of_ble_eq_true rfl) (Or.inr rfl) (s6_in (by omega) (by omega) (by omega)) ?_
      refine ax_if_ne (tgt := 40) dX6_paint_33 (by decide) (by split <;> omega) (fun c33 => ?_) (fun c33 => ?_)
      · refine ax_iconst dX6_paint_40 ?_
        refine ax_iconst dX6_paint_41 ?_
        refine ax_cviP2 dX6_paint_42 ln_X6_paint_173 (Nat.le_of_ble_eq_true rfl) (Or.inr rfl) (by omega) hM0.1 rfl (s6_failsF hN hM0.1 z0) ?_
        refine ax_if_eq (tgt := 50) dX6_paint_45 (by decide) (by omega) (fun c45 => ?_) (fun c45 => ?_)
        · refine ax_aload_n dX6_paint_50 rfl ?_
          refine ax_cvv0 dX6_paint_51 ln_X6_paint_182 (Nat.le_of_ble_eq_true rfl) rfl (by omega) hM0.1 rfl (s6_remember hN hM0 (show upZ s 0 0 12 = (d : Int) from hs) (hH.mv (fun a a1 a2 => y0 a (by omega)))) (fun g1 hq => ?_)
          obtain ⟨hM1, hH1, x1⟩ := hq
          refine ax_aload_n dX6_paint_54 rfl ?_
          refine ax_aload_n dX6_paint_55 rfl ?_
          refine ax_iload_n dX6_paint_56 rfl ?_
          refine ax_iload_n dX6_paint_57 rfl ?_
          refine ax_cviP2 dX6_paint_58 ln_X6_paint_261 (Nat.le_of_ble_eq_true rfl) (Or.inl rfl) (by omega) hM1.1 rfl (s6_at hN hM1) ?_
          rw [ed]
          refine ax_iload_n dX6_paint_61 rfl ?_
          refine ax_iload dX6_paint_62 rfl ?_
          refine ax_iload dX6_paint_64 rfl ?_
          refine ax_cvv4 dX6_paint_66 ln_X6_paint_299 (Nat.le_of_ble_eq_true rfl) rfl (by omega) hM1.1 rfl (s6_putBoth hN hM1 hK (i := v * K 0 + u) (c := c) (w := w) (mi := mi) hl hon (mir_lt hK hu hv) (by omega) (by omega)) (fun g2 hq => ?_)
          obtain ⟨hM2, x2⟩ := hq
          rw [putB_eq hu ho] at hM2
          refine ax_aload_n dX6_paint_69 rfl ?_
          refine ax_cviP0 dX6_paint_70 ln_X6_paint_249 (Nat.le_of_ble_eq_true rfl) (Or.inl rfl) (by omega) hM2.1 rfl (s6_balance hN hM2 (hK.pC (by omega) (by omega))) ?_
          exact ax_iret dX6_paint_73 rfl ⟨rfl, hM2, hH1.mv (fun a a1 a2 => x2 a (by simp; omega)), fun a a1 a2 a3 => (x2 a (by simp; omega)).trans ((x1 a (by simp; omega)).trans (y0 a a1))⟩
        · exfalso
          omega
      · exfalso
        rw [if_pos (by omega)] at c33
        first | exact absurd c33 (by decide) | exact c33 rfl
theorem s6_paintT1 (hN : 132 ≤ NC) (hM : MD h s K) (hK : KI K) {x : Int} (gx : -2147483648 ≤ x ∧ x < 2147483648) {y : Int} (gy : -2147483648 ≤ y ∧ y < 2147483648) {v3 v4 v5 : Value} (ho : ¬ onZ K x y = true) : Cl NC M_X6_paint [.ref 112, .int (I x), .int (I y), v3, v4, v5] h (fun v h1 => v = .int (I (0)) ∧ MD h1 (upZ s 0 1) K ∧ Y2 h h1) := by
  refine ax_aload_n dX6_paint_0 rfl ?_
  refine ax_iconst dX6_paint_1 ?_
  refine ax_putf dX6_paint_2 ck6 fl_X6_51 (by decide) (by omega) hM.1 rfl (Or.inl rfl) (Nat.le_of_ble_eq_true rfl) rfl ?_
  generalize hg0 : va_up h 112 _ = g0
  have hM0 : MD g0 (upZ s 0 0) K := by rw [← hg0]; exact hM.s0
  have y0 : Y2 h g0 := fun a ha => by rw [← hg0]; exact vu_ne ha
  have z0 : upZ s 0 0 0 = 0 := rfl
  refine ax_aload_n dX6_paint_5 rfl ?_
  refine ax_iload_n dX6_paint_6 rfl ?_
  refine ax_iload_n dX6_paint_7 rfl ?_
  refine ax_cvi2 dX6_paint_8 ln_X6_paint_258 (Nat.le_of_ble_eq_true rfl) (Or.inr rfl) (by omega) hM0.1 rfl (s6_noCellT hN hM0 hK z0 gx gy ho) (fun r g1 hq => ?_)
  obtain ⟨hv, hM1, y1⟩ := hq
  cases hv
  refine ax_if_ne (tgt := 48) dX6_paint_11 (by decide) (by omega) (fun c11 => ?_) (fun c11 => ?_)
  · refine ax_iconst dX6_paint_48 ?_
    exact ax_iret dX6_paint_49 rfl ⟨rfl, (by rw [show upZ (upZ s 0 0) 0 1 = upZ s 0 1 from funext fun j => by unfold upZ; split <;> rfl] at hM1; exact hM1), y0.tr y1⟩
  · exfalso
    omega
theorem s6_paintT2 (hN : 132 ≤ NC) (hM : MD h s K) (hK : KI K) {x : Int} (gx : -2147483648 ≤ x ∧ x < 2147483648) {y : Int} (gy : -2147483648 ≤ y ∧ y < 2147483648) {c : Int} (gc : -2147483648 ≤ c ∧ c < 2147483648) {w : Int} (gw : -2147483648 ≤ w ∧ w < 2147483648) {v5 : Value} (ho : onZ K x y = true) (hx : ¬ ((1 ≤ c ∧ c ≤ 6) ∧ 1 ≤ w ∧ w ≤ 9)) : Cl NC M_X6_paint [.ref 112, .int (I x), .int (I y), .int (I c), .int (I w), v5] h (fun v h1 => v = .int (I (0)) ∧ MD h1 (upZ s 0 2) K ∧ Y2 h h1) := by
  refine ax_aload_n dX6_paint_0 rfl ?_
  refine ax_iconst dX6_paint_1 ?_
  refine ax_putf dX6_paint_2 ck6 fl_X6_51 (by decide) (by omega) hM.1 rfl (Or.inl rfl) (Nat.le_of_ble_eq_true rfl) rfl ?_
  generalize hg0 : va_up h 112 _ = g0
  have hM0 : MD g0 (upZ s 0 0) K := by rw [← hg0]; exact hM.s0
  have y0 : Y2 h g0 := fun a ha => by rw [← hg0]; exact vu_ne ha
  have z0 : upZ s 0 0 0 = 0 := rfl
  refine ax_aload_n dX6_paint_5 rfl ?_
  refine ax_iload_n dX6_paint_6 rfl ?_
  refine ax_iload_n dX6_paint_7 rfl ?_
  refine ax_cviP2 dX6_paint_8 ln_X6_paint_258 (Nat.le_of_ble_eq_true rfl) (Or.inr rfl) (by omega) hM0.1 rfl (s6_noCellF hN hM0 hK z0 gx gy ho) ?_
  refine ax_if_ne (tgt := 48) dX6_paint_11 (by decide) (by omega) (fun c11 => ?_) (fun c11 => ?_)
  · exfalso
    omega
  · refine ax_aload_n dX6_paint_14 rfl ?_
    refine ax_iload_n dX6_paint_15 rfl ?_
    refine ax_iconst dX6_paint_16 ?_
    refine ax_bipush dX6_paint_17 (by decide) ?_
    refine ax_csiP3 dX6_paint_19 ln_X6_paint_54 (Nat.le_of_ble_eq_true rfl) (Or.inr rfl) (s6_in gc (by omega) (by omega)) ?_
    refine ax_if_eq (tgt := 36) dX6_paint_22 (by decide) (by split <;> omega) (fun c22 => ?_) (fun c22 => ?_)
    · refine ax_iconst dX6_paint_36 ?_
      refine ax_goto (tgt := 41) dX6_paint_37 (by decide) ?_
      refine ax_iconst dX6_paint_41 ?_
      refine ax_cvi2 dX6_paint_42 ln_X6_paint_173 (Nat.le_of_ble_eq_true rfl) (Or.inr rfl) (by omega) hM0.1 rfl (s6_failsT hN hM0.1 z0 (by decide)) (fun r g1 hq => ?_)
      obtain ⟨hv, hO1, y1⟩ := hq
      cases hv
      have hM1 : MD g1 (upZ (upZ s 0 0) 0 2) K := ⟨hO1, hM0.2.mv (y1 114 (by decide))⟩
      refine ax_if_eq (tgt := 50) dX6_paint_45 (by decide) (by omega) (fun c45 => ?_) (fun c45 => ?_)
      · exfalso
        omega
      · refine ax_iconst dX6_paint_48 ?_
        exact ax_iret dX6_paint_49 rfl ⟨rfl, (by rw [show upZ (upZ s 0 0) 0 2 = upZ s 0 2 from funext fun j => by unfold upZ; split <;> rfl] at hM1; exact hM1), y0.tr y1⟩
    · refine ax_iload dX6_paint_25 rfl ?_
      refine ax_iconst dX6_paint_27 ?_
      refine ax_bipush dX6_paint_28 (by decide) ?_
      refine ax_csiP3 dX6_paint_30 ln_X6_paint_54 (Nat.le_of_ble_eq_true rfl) (Or.inr rfl) (s6_in gw (by omega) (by omega)) ?_
      refine ax_if_ne (tgt := 40) dX6_paint_33 (by decide) (by split <;> omega) (fun c33 => ?_) (fun c33 => ?_)
      · exfalso
        split at c22 <;> split at c33 <;> omega
      · refine ax_iconst dX6_paint_36 ?_
        refine ax_goto (tgt := 41) dX6_paint_37 (by decide) ?_
        refine ax_iconst dX6_paint_41 ?_
        refine ax_cvi2 dX6_paint_42 ln_X6_paint_173 (Nat.le_of_ble_eq_true rfl) (Or.inr rfl) (by omega) hM0.1 rfl (s6_failsT hN hM0.1 z0 (by decide)) (fun r g1 hq => ?_)
        obtain ⟨hv, hO1, y1⟩ := hq
        cases hv
        have hM1 : MD g1 (upZ (upZ s 0 0) 0 2) K := ⟨hO1, hM0.2.mv (y1 114 (by decide))⟩
        refine ax_if_eq (tgt := 50) dX6_paint_45 (by decide) (by omega) (fun c45 => ?_) (fun c45 => ?_)
        · exfalso
          omega
        · refine ax_iconst dX6_paint_48 ?_
          exact ax_iret dX6_paint_49 rfl ⟨rfl, (by rw [show upZ (upZ s 0 0) 0 2 = upZ s 0 2 from funext fun j => by unfold upZ; split <;> rfl] at hM1; exact hM1), y0.tr y1⟩
theorem s6_strip (hN : 132 ≤ NC) (hM : MD h s K) (hK : KI K) (hs : s 12 = (d : Int)) (hH : MH h H d) {x : Int} (gx : -2147483648 ≤ x ∧ x < 2147483648) {y : Int} (gy : -2147483648 ≤ y ∧ y < 2147483648) (ho : onZ K x y = true) (hs9 : K (434 + (y.toNat * K 0 + x.toNat)) ≠ 0) : Cl NC M_X6_strip [.ref 112, .int (I x), .int (I y)] h (fun v h1 => v = .int (I (balW (upN K (434 + (y.toNat * K 0 + x.toNat)) 0))) ∧ MD h1 (upZ (upZ s 0 0) 12 ((min (d + 1) 8 : Nat) : Int)) (upN K (434 + (y.toNat * K 0 + x.toNat)) 0) ∧ MH h1 (psh K H) (min (d + 1) 8) ∧ ∀ a, a ≠ 112 → a ≠ 114 → ¬ (118 ≤ a ∧ a ≤ 125) → h1 a = h a) := by
  obtain ⟨u, v, rfl, rfl, hu, hv, hl, n0, -⟩ := onZ_nat hK ho
  have ed : ((v : Int) * (K 0 : Int) + (u : Int)) = ((v * K 0 + u : Nat) : Int) := by push_cast; omega
  have hon : on K (v * K 0 + u) = true := by rw [on_at hu]; exact ho
  have s9 := hK.2.2.2.2.2.2.1 (v * K 0 + u) (by omega)
  refine ax_aload_n dX6_strip_0 rfl ?_
  refine ax_iconst dX6_strip_1 ?_
  refine ax_putf dX6_strip_2 ck6 fl_X6_51 (by decide) (by omega) hM.1 rfl (Or.inl rfl) (Nat.le_of_ble_eq_true rfl) rfl ?_
  generalize hg0 : va_up h 112 _ = g0
  have hM0 : MD g0 (upZ s 0 0) K := by rw [← hg0]; exact hM.s0
  have y0 : Y2 h g0 := fun a ha => by rw [← hg0]; exact vu_ne ha
  have z0 : upZ s 0 0 0 = 0 := rfl
  refine ax_aload_n dX6_strip_5 rfl ?_
  refine ax_iload_n dX6_strip_6 rfl ?_
  refine ax_iload_n dX6_strip_7 rfl ?_
  refine ax_cviP2 dX6_strip_8 ln_X6_strip_258 (Nat.le_of_ble_eq_true rfl) (Or.inr rfl) (by omega) hM0.1 rfl (s6_noCellF hN hM0 hK z0 gx gy ho) ?_
  refine ax_if_ne (tgt := 45) dX6_strip_11 (by decide) (by omega) (fun c11 => ?_) (fun c11 => ?_)
  · exfalso
    omega
  · refine ax_aload_n dX6_strip_14 rfl ?_
    refine ax_aload_n dX6_strip_15 rfl ?_
    refine ax_getf dX6_strip_16 ck6 fl_X6_17 (by decide) (by omega) hM0.1 rfl ?_
    refine ax_sipush dX6_strip_19 (by decide) ?_
    refine ax_aload_n dX6_strip_22 rfl ?_
    refine ax_iload_n dX6_strip_23 rfl ?_
    refine ax_iload_n dX6_strip_24 rfl ?_
    refine ax_cviP2 dX6_strip_25 ln_X6_strip_261 (Nat.le_of_ble_eq_true rfl) (Or.inl rfl) (by omega) hM0.1 rfl (s6_at hN hM0) ?_
    rw [ed]
    refine ax_iadd dX6_strip_28 ?_
    refine ax_ialr (j := (434 + (v * K 0 + u))) (w := (K (434 + (v * K 0 + u)) : Int)) dX6_strip_29 (by omega) hM0.2 (by omega) (by omega) (by decide) rfl ?_
    refine ax_if_ne (tgt := 37) dX6_strip_30 (by decide) (by omega) (fun c30 => ?_) (fun c30 => ?_)
    · refine ax_iconst dX6_strip_37 ?_
      refine ax_iconst dX6_strip_38 ?_
      refine ax_cviP2 dX6_strip_39 ln_X6_strip_173 (Nat.le_of_ble_eq_true rfl) (Or.inr rfl) (by omega) hM0.1 rfl (s6_failsF hN hM0.1 z0) ?_
      refine ax_if_eq (tgt := 47) dX6_strip_42 (by decide) (by omega) (fun c42 => ?_) (fun c42 => ?_)
      · refine ax_aload_n dX6_strip_47 rfl ?_
        refine ax_cvv0 dX6_strip_48 ln_X6_strip_182 (Nat.le_of_ble_eq_true rfl) rfl (by omega) hM0.1 rfl (s6_remember hN hM0 (show upZ s 0 0 12 = (d : Int) from hs) (hH.mv (fun a a1 a2 => y0 a (by omega)))) (fun g1 hq => ?_)
        obtain ⟨hM1, hH1, x1⟩ := hq
        refine ax_aload_n dX6_strip_51 rfl ?_
        refine ax_getf dX6_strip_52 ck6 fl_X6_17 (by decide) (by omega) hM1.1 rfl ?_
        refine ax_sipush dX6_strip_55 (by decide) ?_
        refine ax_aload_n dX6_strip_58 rfl ?_
        refine ax_iload_n dX6_strip_59 rfl ?_
        refine ax_iload_n dX6_strip_60 rfl ?_
        refine ax_cviP2 dX6_strip_61 ln_X6_strip_261 (Nat.le_of_ble_eq_true rfl) (Or.inl rfl) (by omega) hM1.1 rfl (s6_at hN hM1) ?_
        rw [ed]
        refine ax_iadd dX6_strip_64 ?_
        refine ax_iconst dX6_strip_65 ?_
        refine ax_iasr (j := (434 + (v * K 0 + u))) dX6_strip_66 (by omega) hM1.2 (by omega) (by omega) (by decide) (fun e66 he66 => ?_)
        have hM2 : MD (va_up g1 114 e66) (upZ (upZ s 0 0) 12 ((min (d + 1) 8 : Nat) : Int)) (upN K (434 + (v * K 0 + u)) 0) := hM1.w he66
        have x2 : EqX [114] g1 (va_up g1 114 e66) := EqX.rf.up (by decide)
        generalize va_up g1 114 e66 = g2 at *
        refine ax_aload_n dX6_strip_67 rfl ?_
        refine ax_cviP0 dX6_strip_68 ln_X6_strip_249 (Nat.le_of_ble_eq_true rfl) (Or.inl rfl) (by omega) hM2.1 rfl (s6_balance hN hM2 (hK.upS hl hon (by omega))) ?_
        exact ax_iret dX6_strip_71 rfl ⟨rfl, hM2, hH1.mv (fun a a1 a2 => x2 a (by simp; omega)), fun a a1 a2 a3 => (x2 a (by simp; omega)).trans ((x1 a (by simp; omega)).trans (y0 a a1))⟩
      · exfalso
        omega
    · exfalso
      exact hs9 (by show K (434 + (v * K 0 + u)) = 0; omega)
theorem s6_stripT1 (hN : 132 ≤ NC) (hM : MD h s K) (hK : KI K) {x : Int} (gx : -2147483648 ≤ x ∧ x < 2147483648) {y : Int} (gy : -2147483648 ≤ y ∧ y < 2147483648) (ho : ¬ onZ K x y = true) : Cl NC M_X6_strip [.ref 112, .int (I x), .int (I y)] h (fun v h1 => v = .int (I (0)) ∧ MD h1 (upZ s 0 1) K ∧ Y2 h h1) := by
  refine ax_aload_n dX6_strip_0 rfl ?_
  refine ax_iconst dX6_strip_1 ?_
  refine ax_putf dX6_strip_2 ck6 fl_X6_51 (by decide) (by omega) hM.1 rfl (Or.inl rfl) (Nat.le_of_ble_eq_true rfl) rfl ?_
  generalize hg0 : va_up h 112 _ = g0
  have hM0 : MD g0 (upZ s 0 0) K := by rw [← hg0]; exact hM.s0
  have y0 : Y2 h g0 := fun a ha => by rw [← hg0]; exact vu_ne ha
  have z0 : upZ s 0 0 0 = 0 := rfl
  refine ax_aload_n dX6_strip_5 rfl ?_
  refine ax_iload_n dX6_strip_6 rfl ?_
  refine ax_iload_n dX6_strip_7 rfl ?_
  refine ax_cvi2 dX6_strip_8 ln_X6_strip_258 (Nat.le_of_ble_eq_true rfl) (Or.inr rfl) (by omega) hM0.1 rfl (s6_noCellT hN hM0 hK z0 gx gy ho) (fun r g1 hq => ?_)
  obtain ⟨hv, hM1, y1⟩ := hq
  cases hv
  refine ax_if_ne (tgt := 45) dX6_strip_11 (by decide) (by omega) (fun c11 => ?_) (fun c11 => ?_)
  · refine ax_iconst dX6_strip_45 ?_
    exact ax_iret dX6_strip_46 rfl ⟨rfl, (by rw [show upZ (upZ s 0 0) 0 1 = upZ s 0 1 from funext fun j => by unfold upZ; split <;> rfl] at hM1; exact hM1), y0.tr y1⟩
  · exfalso
    omega
theorem s6_stripT2 (hN : 132 ≤ NC) (hM : MD h s K) (hK : KI K) {x : Int} (gx : -2147483648 ≤ x ∧ x < 2147483648) {y : Int} (gy : -2147483648 ≤ y ∧ y < 2147483648) (ho : onZ K x y = true) (hs9 : K (434 + (y.toNat * K 0 + x.toNat)) = 0) : Cl NC M_X6_strip [.ref 112, .int (I x), .int (I y)] h (fun v h1 => v = .int (I (0)) ∧ MD h1 (upZ s 0 2) K ∧ Y2 h h1) := by
  obtain ⟨u, v, rfl, rfl, hu, hv, hl, n0, -⟩ := onZ_nat hK ho
  have ed : ((v : Int) * (K 0 : Int) + (u : Int)) = ((v * K 0 + u : Nat) : Int) := by push_cast; omega
  have hon : on K (v * K 0 + u) = true := by rw [on_at hu]; exact ho
  have s9 := hK.2.2.2.2.2.2.1 (v * K 0 + u) (by omega)
  have hs0 : K (434 + (v * K 0 + u)) = 0 := hs9
  refine ax_aload_n dX6_strip_0 rfl ?_
  refine ax_iconst dX6_strip_1 ?_
  refine ax_putf dX6_strip_2 ck6 fl_X6_51 (by decide) (by omega) hM.1 rfl (Or.inl rfl) (Nat.le_of_ble_eq_true rfl) rfl ?_
  generalize hg0 : va_up h 112 _ = g0
  have hM0 : MD g0 (upZ s 0 0) K := by rw [← hg0]; exact hM.s0
  have y0 : Y2 h g0 := fun a ha => by rw [← hg0]; exact vu_ne ha
  have z0 : upZ s 0 0 0 = 0 := rfl
  refine ax_aload_n dX6_strip_5 rfl ?_
  refine ax_iload_n dX6_strip_6 rfl ?_
  refine ax_iload_n dX6_strip_7 rfl ?_
  refine ax_cviP2 dX6_strip_8 ln_X6_strip_258 (Nat.le_of_ble_eq_true rfl) (Or.inr rfl) (by omega) hM0.1 rfl (s6_noCellF hN hM0 hK z0 gx gy ho) ?_
  refine ax_if_ne (tgt := 45) dX6_strip_11 (by decide) (by omega) (fun c11 => ?_) (fun c11 => ?_)
  · exfalso
    omega
  · refine ax_aload_n dX6_strip_14 rfl ?_
    refine ax_aload_n dX6_strip_15 rfl ?_
    refine ax_getf dX6_strip_16 ck6 fl_X6_17 (by decide) (by omega) hM0.1 rfl ?_
    refine ax_sipush dX6_strip_19 (by decide) ?_
    refine ax_aload_n dX6_strip_22 rfl ?_
    refine ax_iload_n dX6_strip_23 rfl ?_
    refine ax_iload_n dX6_strip_24 rfl ?_
    refine ax_cviP2 dX6_strip_25 ln_X6_strip_261 (Nat.le_of_ble_eq_true rfl) (Or.inl rfl) (by omega) hM0.1 rfl (s6_at hN hM0) ?_
    rw [ed]
    refine ax_iadd dX6_strip_28 ?_
    refine ax_ialr (j := (434 + (v * K 0 + u))) (w := (K (434 + (v * K 0 + u)) : Int)) dX6_strip_29 (by omega) hM0.2 (by omega) (by omega) (by decide) rfl ?_
    refine ax_if_ne (tgt := 37) dX6_strip_30 (by decide) (by omega) (fun c30 => ?_) (fun c30 => ?_)
    · exfalso
      omega
    · refine ax_iconst dX6_strip_33 ?_
      refine ax_goto (tgt := 38) dX6_strip_34 (by decide) ?_
      refine ax_iconst dX6_strip_38 ?_
      refine ax_cvi2 dX6_strip_39 ln_X6_strip_173 (Nat.le_of_ble_eq_true rfl) (Or.inr rfl) (by omega) hM0.1 rfl (s6_failsT hN hM0.1 z0 (by decide)) (fun r g1 hq => ?_)
      obtain ⟨hv, hO1, y1⟩ := hq
      cases hv
      have hM1 : MD g1 (upZ (upZ s 0 0) 0 2) K := ⟨hO1, hM0.2.mv (y1 114 (by decide))⟩
      refine ax_if_eq (tgt := 47) dX6_strip_42 (by decide) (by omega) (fun c42 => ?_) (fun c42 => ?_)
      · exfalso
        omega
      · refine ax_iconst dX6_strip_45 ?_
        exact ax_iret dX6_strip_46 rfl ⟨rfl, (by rw [show upZ (upZ s 0 0) 0 2 = upZ s 0 2 from funext fun j => by unfold upZ; split <;> rfl] at hM1; exact hM1), y0.tr y1⟩
variable {h0 : hp} {x0 y0 : Value} {R1 : Int} {R2 : Nat → Nat}
theorem l6_stroke (hN : 132 ≤ NC) {wy len c : Nat} (hwy : wy < 4) (hlen : len ≤ 15) (hc : c ≤ 6) (kk : ∀ (w7 : Value) (g : hp), MD g s R2 → EqX [114] h0 g → Ex NC none M_X6_stroke 128 [.ref 112, x0, y0, .int (I (wy : Int)), .int (I (len : Int)), .int (I (c : Int)), .int (I (R1)), w7] [] g Q) : ∀ (n : Nat) (st x y : Int) (K : Nat → Nat) (g : hp), st + n = len → 0 ≤ st → MD g s K → KI K → EqX [114] h0 g → st + (strP c (dxW wy) (dyW wy) n K x y).1 = R1 → (strP c (dxW wy) (dyW wy) n K x y).2 = R2 → Ex NC none M_X6_stroke 75 [.ref 112, x0, y0, .int (I (wy : Int)), .int (I (len : Int)), .int (I (c : Int)), .int (I (st)), .int (I (posN K x y))] [] g Q := by
  intro n
  induction n with
  | zero =>
    intro st x y K g hst h0t hMg hK hX hR1 hR2
    have pr := pos_rg hK x y
    refine ax_iload dX6_stroke_75 rfl ?_
    refine ax_iload dX6_stroke_77 rfl ?_
    refine ax_icmp_ge (tgt := 128) dX6_stroke_79 (by decide) (by omega) (by omega) (fun c79 => ?_) (fun c79 => ?_)
    · have r1 : R1 = st := by rw [← hR1]; exact Int.add_zero st
      have r2 : R2 = K := hR2.symm
      have := kk (.int (I (posN K x y))) g (by rw [r2]; exact hMg) hX
      rw [r1] at this
      exact this
    · exfalso
      omega
  | succ n ih =>
    intro st x y K g hst h0t hMg hK hX hR1 hR2
    have pr := pos_rg hK x y
    refine ax_iload dX6_stroke_75 rfl ?_
    refine ax_iload dX6_stroke_77 rfl ?_
    refine ax_icmp_ge (tgt := 128) dX6_stroke_79 (by decide) (by omega) (by omega) (fun c79 => ?_) (fun c79 => ?_)
    · exfalso
      omega
    · refine ax_iload dX6_stroke_82 rfl ?_
      refine ax_iconst dX6_stroke_84 ?_
      refine ax_icmp_eq (tgt := 128) dX6_stroke_85 (by decide) (by omega) (by omega) (fun c85 => ?_) (fun c85 => ?_)
      · rw [str_f (fun z => (pr.2.2.mp c85) z.1)] at hR1 hR2
        have r1 : R1 = st := by rw [← hR1]; exact Int.add_zero st
        have r2 : R2 = K := hR2.symm
        have := kk (.int (I (posN K x y))) g (by rw [r2]; exact hMg) hX
        rw [r1] at this
        exact this
      · have ho : onZ K x y = true := by
          by_cases q : onZ K x y = true
          · exact q
          · exact absurd (pr.2.2.mpr q) c85
        obtain ⟨u, v, rfl, rfl, hu, hv, hl, n0, -⟩ := onZ_nat hK ho
        have hon : on K (v * K 0 + u) = true := by rw [on_at hu]; exact ho
        rw [pos_at ho]
        have s9 := hK.2.2.2.2.2.2.1 (v * K 0 + u) (by omega)
        refine ax_aload_n dX6_stroke_88 rfl ?_
        refine ax_getf dX6_stroke_89 ck6 fl_X6_17 (by decide) (by omega) hMg.1 rfl ?_
        refine ax_sipush dX6_stroke_92 (by decide) ?_
        refine ax_iload dX6_stroke_95 rfl ?_
        refine ax_iadd dX6_stroke_97 ?_
        refine ax_ialr (j := (434 + (v * K 0 + u))) (w := (K (434 + (v * K 0 + u)) : Int)) dX6_stroke_98 (by omega) hMg.2 (by omega) (by omega) (by decide) rfl ?_
        refine ax_if_ne (tgt := 128) dX6_stroke_99 (by decide) (by omega) (fun c99 => ?_) (fun c99 => ?_)
        · rw [str_f (fun z => c99 (by have z2 : K (434 + (v * K 0 + u)) = 0 := z.2; omega))] at hR1 hR2
          have r1 : R1 = st := by rw [← hR1]; exact Int.add_zero st
          have r2 : R2 = K := hR2.symm
          have := kk (.int (I ((v * K 0 + u : Nat) : Int))) g (by rw [r2]; exact hMg) hX
          rw [r1] at this
          exact this
        · refine ax_aload_n dX6_stroke_102 rfl ?_
          refine ax_iload dX6_stroke_103 rfl ?_
          refine ax_iload dX6_stroke_105 rfl ?_
          refine ax_bipush dX6_stroke_107 (by decide) ?_
          refine ax_iconst dX6_stroke_109 ?_
          refine ax_cvv4 dX6_stroke_110 ln_X6_stroke_299 (Nat.le_of_ble_eq_true rfl) rfl (by omega) hMg.1 rfl (s6_putBoth hN hMg hK (i := v * K 0 + u) (c := c) (w := 6) (mi := true) hl hon (mir_lt hK hu hv) hc (by omega)) (fun g2 hq => ?_)
          obtain ⟨hM2, x2⟩ := hq
          rw [putB_eq hu ho] at hM2
          have hw9 := dw_rg wy
          refine ax_iinc dX6_stroke_113 rfl rfl (by decide) ?_
          refine ax_aload_n dX6_stroke_116 rfl ?_
          refine ax_iload dX6_stroke_117 rfl ?_
          refine ax_iload_n dX6_stroke_119 rfl ?_
          refine ax_cviP2 dX6_stroke_120 ln_X6_stroke_225 (Nat.le_of_ble_eq_true rfl) (Or.inl rfl) (by omega) hM2.1 rfl (s6_beside hN hM2 (hK.pC hc (by omega)) (c := v * K 0 + u) (j := wy) (by omega) (by omega)) ?_
          rw [bes_eq (putC_0 (by decide)) hu]
          refine ax_istore dX6_stroke_123 rfl (by decide) ?_
          refine ax_goto (tgt := 75) dX6_stroke_125 (by decide) ?_
          rw [str_t ⟨ho, by show K (434 + (v * K 0 + u)) = 0; omega⟩] at hR1 hR2
          refine ih (st + 1) ((u : Int) + dxW wy) ((v : Int) + dyW wy) _ g2 (by omega) (by omega) hM2 (hK.pC hc (by omega)) (hX.tr x2) ?_ hR2
          rw [← hR1]
          show st + 1 + (strP c (dxW wy) (dyW wy) n (putC K (u : Int) (v : Int) c 6 true) ((u : Int) + dxW wy) ((v : Int) + dyW wy)).1 = st + ((strP c (dxW wy) (dyW wy) n (putC K (u : Int) (v : Int) c 6 true) ((u : Int) + dxW wy) ((v : Int) + dyW wy)).1 + 1)
          omega
theorem s6_stroke (hN : 132 ≤ NC) (hM : MD h s K) (hK : KI K) (hs : s 12 = (d : Int)) (hH : MH h H d) {x : Int} (gx : -2147483648 ≤ x ∧ x < 2147483648) {y : Int} (gy : -2147483648 ≤ y ∧ y < 2147483648) {wy len c : Nat} (ho : onZ K x y = true) (hwy : wy ≤ 3) (hlen : 1 ≤ len ∧ len ≤ 15) (hc : 1 ≤ c ∧ c ≤ 6) : Cl NC M_X6_stroke [.ref 112, .int (I x), .int (I y), .int (I (wy : Int)), .int (I (len : Int)), .int (I (c : Int))] h (fun v h1 => v = .int (I ((strP c (dxW wy) (dyW wy) len K x y).1)) ∧ MD h1 (upZ (upZ s 0 0) 12 ((min (d + 1) 8 : Nat) : Int)) ((strP c (dxW wy) (dyW wy) len K x y).2) ∧ MH h1 (psh K H) (min (d + 1) 8) ∧ ∀ a, a ≠ 112 → a ≠ 114 → ¬ (118 ≤ a ∧ a ≤ 125) → h1 a = h a) := by
  obtain ⟨u, v, rfl, rfl, hu, hv, hl, n0, -⟩ := onZ_nat hK ho
  have ed : ((v : Int) * (K 0 : Int) + (u : Int)) = ((v * K 0 + u : Nat) : Int) := by push_cast; omega
  have hon : on K (v * K 0 + u) = true := by rw [on_at hu]; exact ho
  refine ax_aload_n dX6_stroke_0 rfl ?_
  refine ax_iconst dX6_stroke_1 ?_
  refine ax_putf dX6_stroke_2 ck6 fl_X6_51 (by decide) (by omega) hM.1 rfl (Or.inl rfl) (Nat.le_of_ble_eq_true rfl) rfl ?_
  generalize hg0 : va_up h 112 _ = g0
  have hM0 : MD g0 (upZ s 0 0) K := by rw [← hg0]; exact hM.s0
  have y0 : Y2 h g0 := fun a ha => by rw [← hg0]; exact vu_ne ha
  have z0 : upZ s 0 0 0 = 0 := rfl
  refine ax_aload_n dX6_stroke_5 rfl ?_
  refine ax_iload_n dX6_stroke_6 rfl ?_
  refine ax_iload_n dX6_stroke_7 rfl ?_
  refine ax_cviP2 dX6_stroke_8 ln_X6_stroke_258 (Nat.le_of_ble_eq_true rfl) (Or.inr rfl) (by omega) hM0.1 rfl (s6_noCellF hN hM0 hK z0 gx gy ho) ?_
  refine ax_if_ne (tgt := 58) dX6_stroke_11 (by decide) (by omega) (fun c11 => ?_) (fun c11 => ?_)
  · exfalso
    omega
  · refine ax_aload_n dX6_stroke_14 rfl ?_
    refine ax_iload_n dX6_stroke_15 rfl ?_
    refine ax_iconst dX6_stroke_16 ?_
    refine ax_iconst dX6_stroke_17 ?_
    refine ax_csiP3 dX6_stroke_18 ln_X6_stroke_54 (Nat.le_of_ble_eq_true rfl) (Or.inr rfl) (s6_in (by omega) (by omega) (by omega)) ?_
    refine ax_if_eq (tgt := 46) dX6_stroke_21 (by decide) (by split <;> omega) (fun c21 => ?_) (fun c21 => ?_)
    · exfalso
      rw [if_pos (by omega)] at c21
      first | exact absurd c21 (by decide) | exact c21 rfl
    · refine ax_iload dX6_stroke_24 rfl ?_
      refine ax_iconst dX6_stroke_26 ?_
      refine ax_bipush dX6_stroke_27 (by decide) ?_
      refine ax_csiP3 dX6_stroke_29 ln_X6_stroke_54 (Nat.le_of_ble_eq_true rfl) (Or.inr rfl) (s6_in (by omega) (by omega) (by omega)) ?_
      refine ax_if_eq (tgt := 46) dX6_stroke_32 (by decide) (by split <;> omega) (fun c32 => ?_) (fun c32 => ?_)
      · exfalso
        rw [if_pos (by omega)] at c32
        first | exact absurd c32 (by decide) | exact c32 rfl
      · refine ax_iload dX6_stroke_35 rfl ?_
        refine ax_iconst dX6_stroke_37 ?_
        refine ax_bipush dX6_stroke_38 (by decide) ?_
        refine ax_csiP3 dX6_stroke_40 ln_X6_stroke_54 (Nat.le_of_ble_eq_true rfl) (Or.inr rfl) (s6_in (by omega) (by omega) (by omega)) ?_
        refine ax_if_ne (tgt := 50) dX6_stroke_43 (by decide) (by split <;> omega) (fun c43 => ?_) (fun c43 => ?_)
        · refine ax_iconst dX6_stroke_50 ?_
          refine ax_iconst dX6_stroke_51 ?_
          refine ax_cviP2 dX6_stroke_52 ln_X6_stroke_173 (Nat.le_of_ble_eq_true rfl) (Or.inr rfl) (by omega) hM0.1 rfl (s6_failsF hN hM0.1 z0) ?_
          refine ax_if_eq (tgt := 60) dX6_stroke_55 (by decide) (by omega) (fun c55 => ?_) (fun c55 => ?_)
          · refine ax_aload_n dX6_stroke_60 rfl ?_
            refine ax_cvv0 dX6_stroke_61 ln_X6_stroke_182 (Nat.le_of_ble_eq_true rfl) rfl (by omega) hM0.1 rfl (s6_remember hN hM0 (show upZ s 0 0 12 = (d : Int) from hs) (hH.mv (fun a a1 a2 => y0 a (by omega)))) (fun g1 hq => ?_)
            obtain ⟨hM1, hH1, x1⟩ := hq
            refine ax_iconst dX6_stroke_64 ?_
            refine ax_istore dX6_stroke_65 rfl (by decide) ?_
            refine ax_aload_n dX6_stroke_67 rfl ?_
            refine ax_iload_n dX6_stroke_68 rfl ?_
            refine ax_iload_n dX6_stroke_69 rfl ?_
            refine ax_cviP2 dX6_stroke_70 ln_X6_stroke_261 (Nat.le_of_ble_eq_true rfl) (Or.inl rfl) (by omega) hM1.1 rfl (s6_at hN hM1) ?_
            rw [show (v : Int) * (K 0 : Int) + (u : Int) = posN K (u : Int) (v : Int) by rw [pos_at ho, ed]]
            refine ax_istore dX6_stroke_73 rfl (by decide) ?_
            refine l6_stroke (h0 := g1) (R1 := (strP c (dxW wy) (dyW wy) len K (u : Int) (v : Int)).1) (R2 := (strP c (dxW wy) (dyW wy) len K (u : Int) (v : Int)).2) hN (by omega) (by omega) (by omega) (fun w7 g2 hM2 x2 => ?_) len 0 (u : Int) (v : Int) K g1 (by omega) (by omega) hM1 hK EqX.rf (by omega) rfl
            refine ax_iload dX6_stroke_128 rfl ?_
            exact ax_iret dX6_stroke_130 rfl ⟨rfl, hM2, hH1.mv (fun a a1 a2 => x2 a (by simp; omega)), fun a a1 a2 a3 => (x2 a (by simp; omega)).trans ((x1 a (by simp; omega)).trans (y0 a a1))⟩
          · exfalso
            omega
        · exfalso
          rw [if_pos (by omega)] at c43
          first | exact absurd c43 (by decide) | exact c43 rfl
theorem s6_strokeT1 (hN : 132 ≤ NC) (hM : MD h s K) (hK : KI K) {x : Int} (gx : -2147483648 ≤ x ∧ x < 2147483648) {y : Int} (gy : -2147483648 ≤ y ∧ y < 2147483648) {v3 v4 v5 : Value} (ho : ¬ onZ K x y = true) : Cl NC M_X6_stroke [.ref 112, .int (I x), .int (I y), v3, v4, v5] h (fun v h1 => v = .int (I (0)) ∧ MD h1 (upZ s 0 1) K ∧ Y2 h h1) := by
  refine ax_aload_n dX6_stroke_0 rfl ?_
  refine ax_iconst dX6_stroke_1 ?_
  refine ax_putf dX6_stroke_2 ck6 fl_X6_51 (by decide) (by omega) hM.1 rfl (Or.inl rfl) (Nat.le_of_ble_eq_true rfl) rfl ?_
  generalize hg0 : va_up h 112 _ = g0
  have hM0 : MD g0 (upZ s 0 0) K := by rw [← hg0]; exact hM.s0
  have y0 : Y2 h g0 := fun a ha => by rw [← hg0]; exact vu_ne ha
  have z0 : upZ s 0 0 0 = 0 := rfl
  refine ax_aload_n dX6_stroke_5 rfl ?_
  refine ax_iload_n dX6_stroke_6 rfl ?_
  refine ax_iload_n dX6_stroke_7 rfl ?_
  refine ax_cvi2 dX6_stroke_8 ln_X6_stroke_258 (Nat.le_of_ble_eq_true rfl) (Or.inr rfl) (by omega) hM0.1 rfl (s6_noCellT hN hM0 hK z0 gx gy ho) (fun r g1 hq => ?_)
  obtain ⟨hv, hM1, y1⟩ := hq
  cases hv
  refine ax_if_ne (tgt := 58) dX6_stroke_11 (by decide) (by omega) (fun c11 => ?_) (fun c11 => ?_)
  · refine ax_iconst dX6_stroke_58 ?_
    exact ax_iret dX6_stroke_59 rfl ⟨rfl, (by rw [show upZ (upZ s 0 0) 0 1 = upZ s 0 1 from funext fun j => by unfold upZ; split <;> rfl] at hM1; exact hM1), y0.tr y1⟩
  · exfalso
    omega
theorem s6_strokeT2 (hN : 132 ≤ NC) (hM : MD h s K) (hK : KI K) {x : Int} (gx : -2147483648 ≤ x ∧ x < 2147483648) {y : Int} (gy : -2147483648 ≤ y ∧ y < 2147483648) {a : Int} (ga : -2147483648 ≤ a ∧ a < 2147483648) {z : Int} (gz : -2147483648 ≤ z ∧ z < 2147483648) {w : Int} (gw : -2147483648 ≤ w ∧ w < 2147483648) (ho : onZ K x y = true) (hx : ¬ ((0 ≤ a ∧ a ≤ 3) ∧ (1 ≤ z ∧ z ≤ 15) ∧ 1 ≤ w ∧ w ≤ 6)) : Cl NC M_X6_stroke [.ref 112, .int (I x), .int (I y), .int (I a), .int (I z), .int (I w)] h (fun v h1 => v = .int (I (0)) ∧ MD h1 (upZ s 0 2) K ∧ Y2 h h1) := by
  refine ax_aload_n dX6_stroke_0 rfl ?_
  refine ax_iconst dX6_stroke_1 ?_
  refine ax_putf dX6_stroke_2 ck6 fl_X6_51 (by decide) (by omega) hM.1 rfl (Or.inl rfl) (Nat.le_of_ble_eq_true rfl) rfl ?_
  generalize hg0 : va_up h 112 _ = g0
  have hM0 : MD g0 (upZ s 0 0) K := by rw [← hg0]; exact hM.s0
  have y0 : Y2 h g0 := fun a ha => by rw [← hg0]; exact vu_ne ha
  have z0 : upZ s 0 0 0 = 0 := rfl
  refine ax_aload_n dX6_stroke_5 rfl ?_
  refine ax_iload_n dX6_stroke_6 rfl ?_
  refine ax_iload_n dX6_stroke_7 rfl ?_
  refine ax_cviP2 dX6_stroke_8 ln_X6_stroke_258 (Nat.le_of_ble_eq_true rfl) (Or.inr rfl) (by omega) hM0.1 rfl (s6_noCellF hN hM0 hK z0 gx gy ho) ?_
  refine ax_if_ne (tgt := 58) dX6_stroke_11 (by decide) (by omega) (fun c11 => ?_) (fun c11 => ?_)
  · exfalso
    omega
  · refine ax_aload_n dX6_stroke_14 rfl ?_
    refine ax_iload_n dX6_stroke_15 rfl ?_
    refine ax_iconst dX6_stroke_16 ?_
    refine ax_iconst dX6_stroke_17 ?_
    refine ax_csiP3 dX6_stroke_18 ln_X6_stroke_54 (Nat.le_of_ble_eq_true rfl) (Or.inr rfl) (s6_in ga (by omega) (by omega)) ?_
    refine ax_if_eq (tgt := 46) dX6_stroke_21 (by decide) (by split <;> omega) (fun c21 => ?_) (fun c21 => ?_)
    · refine ax_iconst dX6_stroke_46 ?_
      refine ax_goto (tgt := 51) dX6_stroke_47 (by decide) ?_
      refine ax_iconst dX6_stroke_51 ?_
      refine ax_cvi2 dX6_stroke_52 ln_X6_stroke_173 (Nat.le_of_ble_eq_true rfl) (Or.inr rfl) (by omega) hM0.1 rfl (s6_failsT hN hM0.1 z0 (by decide)) (fun r g1 hq => ?_)
      obtain ⟨hv, hO1, y1⟩ := hq
      cases hv
      have hM1 : MD g1 (upZ (upZ s 0 0) 0 2) K := ⟨hO1, hM0.2.mv (y1 114 (by decide))⟩
      refine ax_if_eq (tgt := 60) dX6_stroke_55 (by decide) (by omega) (fun c55 => ?_) (fun c55 => ?_)
      · exfalso
        omega
      · refine ax_iconst dX6_stroke_58 ?_
        exact ax_iret dX6_stroke_59 rfl ⟨rfl, (by rw [show upZ (upZ s 0 0) 0 2 = upZ s 0 2 from funext fun j => by unfold upZ; split <;> rfl] at hM1; exact hM1), y0.tr y1⟩
    · refine ax_iload dX6_stroke_24 rfl ?_
      refine ax_iconst dX6_stroke_26 ?_
      refine ax_bipush dX6_stroke_27 (by decide) ?_
      refine ax_csiP3 dX6_stroke_29 ln_X6_stroke_54 (Nat.le_of_ble_eq_true rfl) (Or.inr rfl) (s6_in gz (by omega) (by omega)) ?_
      refine ax_if_eq (tgt := 46) dX6_stroke_32 (by decide) (by split <;> omega) (fun c32 => ?_) (fun c32 => ?_)
      · refine ax_iconst dX6_stroke_46 ?_
        refine ax_goto (tgt := 51) dX6_stroke_47 (by decide) ?_
        refine ax_iconst dX6_stroke_51 ?_
        refine ax_cvi2 dX6_stroke_52 ln_X6_stroke_173 (Nat.le_of_ble_eq_true rfl) (Or.inr rfl) (by omega) hM0.1 rfl (s6_failsT hN hM0.1 z0 (by decide)) (fun r g1 hq => ?_)
        obtain ⟨hv, hO1, y1⟩ := hq
        cases hv
        have hM1 : MD g1 (upZ (upZ s 0 0) 0 2) K := ⟨hO1, hM0.2.mv (y1 114 (by decide))⟩
        refine ax_if_eq (tgt := 60) dX6_stroke_55 (by decide) (by omega) (fun c55 => ?_) (fun c55 => ?_)
        · exfalso
          omega
        · refine ax_iconst dX6_stroke_58 ?_
          exact ax_iret dX6_stroke_59 rfl ⟨rfl, (by rw [show upZ (upZ s 0 0) 0 2 = upZ s 0 2 from funext fun j => by unfold upZ; split <;> rfl] at hM1; exact hM1), y0.tr y1⟩
      · refine ax_iload dX6_stroke_35 rfl ?_
        refine ax_iconst dX6_stroke_37 ?_
        refine ax_bipush dX6_stroke_38 (by decide) ?_
        refine ax_csiP3 dX6_stroke_40 ln_X6_stroke_54 (Nat.le_of_ble_eq_true rfl) (Or.inr rfl) (s6_in gw (by omega) (by omega)) ?_
        refine ax_if_ne (tgt := 50) dX6_stroke_43 (by decide) (by split <;> omega) (fun c43 => ?_) (fun c43 => ?_)
        · exfalso
          split at c21 <;> split at c32 <;> split at c43 <;> omega
        · refine ax_iconst dX6_stroke_46 ?_
          refine ax_goto (tgt := 51) dX6_stroke_47 (by decide) ?_
          refine ax_iconst dX6_stroke_51 ?_
          refine ax_cvi2 dX6_stroke_52 ln_X6_stroke_173 (Nat.le_of_ble_eq_true rfl) (Or.inr rfl) (by omega) hM0.1 rfl (s6_failsT hN hM0.1 z0 (by decide)) (fun r g1 hq => ?_)
          obtain ⟨hv, hO1, y1⟩ := hq
          cases hv
          have hM1 : MD g1 (upZ (upZ s 0 0) 0 2) K := ⟨hO1, hM0.2.mv (y1 114 (by decide))⟩
          refine ax_if_eq (tgt := 60) dX6_stroke_55 (by decide) (by omega) (fun c55 => ?_) (fun c55 => ?_)
          · exfalso
            omega
          · refine ax_iconst dX6_stroke_58 ?_
            exact ax_iret dX6_stroke_59 rfl ⟨rfl, (by rw [show upZ (upZ s 0 0) 0 2 = upZ s 0 2 from funext fun j => by unfold upZ; split <;> rfl] at hM1; exact hM1), y0.tr y1⟩
theorem l6_spar_true (hN : 132 ≤ NC) {len : Nat} (hlen : len ≤ 15) (kk : ∀ (w6 w7 : Value) (g : hp), MD g s R2 → EqX [114] h0 g → Ex NC none M_X6_spar 124 [.ref 112, x0, y0, .int (I 1), .int (I (len : Int)), .int (I (R1)), w6, w7] [] g Q) : ∀ (n : Nat) (st acc x y : Int) (K : Nat → Nat) (g : hp), st + n = len → 0 ≤ st → MD g s K → KI K → EqX [114] h0 g → acc + (spaP (sdx true) (sdy true) n K x y).1 = R1 → (spaP (sdx true) (sdy true) n K x y).2 = R2 → Ex NC none M_X6_spar 58 [.ref 112, x0, y0, .int (I 1), .int (I (len : Int)), .int (I (acc)), .int (I (posN K x y)), .int (I st)] [] g Q := by
  intro n
  induction n with
  | zero =>
    intro st acc x y K g hst h0t hMg hK hX hR1 hR2
    have pr := pos_rg hK x y
    refine ax_iload dX6_spar_58 rfl ?_
    refine ax_iload dX6_spar_60 rfl ?_
    refine ax_icmp_ge (tgt := 124) dX6_spar_62 (by decide) (by omega) (by omega) (fun c62 => ?_) (fun c62 => ?_)
    · have r1 : R1 = acc := by rw [← hR1]; exact Int.add_zero acc
      have r2 : R2 = K := hR2.symm
      have := kk (.int (I (posN K x y))) (.int (I st)) g (by rw [r2]; exact hMg) hX
      rw [r1] at this
      exact this
    · exfalso
      omega
  | succ n ih =>
    intro st acc x y K g hst h0t hMg hK hX hR1 hR2
    have pr := pos_rg hK x y
    refine ax_iload dX6_spar_58 rfl ?_
    refine ax_iload dX6_spar_60 rfl ?_
    refine ax_icmp_ge (tgt := 124) dX6_spar_62 (by decide) (by omega) (by omega) (fun c62 => ?_) (fun c62 => ?_)
    · exfalso
      omega
    · refine ax_iload dX6_spar_65 rfl ?_
      refine ax_iconst dX6_spar_67 ?_
      refine ax_icmp_eq (tgt := 124) dX6_spar_68 (by decide) (by omega) (by omega) (fun c68 => ?_) (fun c68 => ?_)
      · rw [spa_f (pr.2.2.mp c68)] at hR1 hR2
        have r1 : R1 = acc := by rw [← hR1]; exact Int.add_zero acc
        have r2 : R2 = K := hR2.symm
        have := kk (.int (I (posN K x y))) (.int (I st)) g (by rw [r2]; exact hMg) hX
        rw [r1] at this
        exact this
      · have ho : onZ K x y = true := by
          by_cases q : onZ K x y = true
          · exact q
          · exact absurd (pr.2.2.mpr q) c68
        obtain ⟨u, v, rfl, rfl, hu, hv, hl, n0, -⟩ := onZ_nat hK ho
        have hon : on K (v * K 0 + u) = true := by rw [on_at hu]; exact ho
        rw [pos_at ho]
        have s9 := hK.2.2.2.2.2.2.1 (v * K 0 + u) (by omega)
        refine ax_iload dX6_spar_71 rfl ?_
        refine ax_iconst dX6_spar_73 ?_
        refine ax_aload_n dX6_spar_74 rfl ?_
        refine ax_getf dX6_spar_75 ck6 fl_X6_17 (by decide) (by omega) hMg.1 rfl ?_
        refine ax_sipush dX6_spar_78 (by decide) ?_
        refine ax_iload dX6_spar_81 rfl ?_
        refine ax_iadd dX6_spar_83 ?_
        refine ax_ialr (j := (434 + (v * K 0 + u))) (w := (K (434 + (v * K 0 + u)) : Int)) dX6_spar_84 (by omega) hMg.2 (by omega) (by omega) (by decide) rfl ?_
        refine ax_isub dX6_spar_85 ?_
        refine ax_iadd dX6_spar_86 ?_
        refine ax_istore dX6_spar_87 rfl (by decide) ?_
        refine ax_aload_n dX6_spar_89 rfl ?_
        refine ax_getf dX6_spar_90 ck6 fl_X6_17 (by decide) (by omega) hMg.1 rfl ?_
        refine ax_sipush dX6_spar_93 (by decide) ?_
        refine ax_iload dX6_spar_96 rfl ?_
        refine ax_iadd dX6_spar_98 ?_
        refine ax_iconst dX6_spar_99 ?_
        refine ax_iasr (j := (434 + (v * K 0 + u))) dX6_spar_100 (by omega) hMg.2 (by omega) (by omega) (by decide) (fun e100 he100 => ?_)
        have hM2 : MD (va_up g 114 e100) s (upN K (434 + (v * K 0 + u)) 1) := hMg.w he100
        have x2 : EqX [114] g (va_up g 114 e100) := EqX.rf.up (by decide)
        generalize va_up g 114 e100 = g2 at *
        refine ax_aload_n dX6_spar_101 rfl ?_
        refine ax_iload dX6_spar_102 rfl ?_
        refine ax_iload_n dX6_spar_104 rfl ?_
        refine ax_if_eq (tgt := 112) dX6_spar_105 (by decide) (by omega) (fun c105 => ?_) (fun c105 => ?_)
        · exfalso
          omega
        · refine ax_iconst dX6_spar_108 ?_
          refine ax_goto (tgt := 113) dX6_spar_109 (by decide) ?_
          refine ax_cviP2 dX6_spar_113 ln_X6_spar_225 (Nat.le_of_ble_eq_true rfl) (Or.inl rfl) (by omega) hM2.1 rfl (s6_beside hN hM2 (hK.upS hl hon (by omega)) (c := v * K 0 + u) (j := 1) (by omega) (by omega)) ?_
          rw [bes_eq (j := 1) (up_ne (by omega)) hu]
          refine ax_istore dX6_spar_116 rfl (by decide) ?_
          refine ax_iinc dX6_spar_118 rfl rfl (by decide) ?_
          refine ax_goto (tgt := 58) dX6_spar_121 (by decide) ?_
          rw [spa_t ho] at hR1 hR2
          refine ih (st + 1) (acc + (1 - (K (434 + (v * K 0 + u)) : Int))) ((u : Int) + sdx true) ((v : Int) + sdy true) _ g2 (by omega) (by omega) hM2 (hK.upS hl hon (by omega)) (hX.tr x2) ?_ hR2
          rw [← hR1]
          show acc + (1 - (K (434 + (v * K 0 + u)) : Int)) + (spaP (sdx true) (sdy true) n (upN K (434 + (v * K 0 + u)) 1) ((u : Int) + sdx true) ((v : Int) + sdy true)).1 = acc + ((spaP (sdx true) (sdy true) n (upN K (434 + (v * K 0 + u)) 1) ((u : Int) + sdx true) ((v : Int) + sdy true)).1 + (1 - (K (434 + (v * K 0 + u)) : Int)))
          omega
theorem l6_spar_false (hN : 132 ≤ NC) {len : Nat} (hlen : len ≤ 15) (kk : ∀ (w6 w7 : Value) (g : hp), MD g s R2 → EqX [114] h0 g → Ex NC none M_X6_spar 124 [.ref 112, x0, y0, .int (I 0), .int (I (len : Int)), .int (I (R1)), w6, w7] [] g Q) : ∀ (n : Nat) (st acc x y : Int) (K : Nat → Nat) (g : hp), st + n = len → 0 ≤ st → MD g s K → KI K → EqX [114] h0 g → acc + (spaP (sdx false) (sdy false) n K x y).1 = R1 → (spaP (sdx false) (sdy false) n K x y).2 = R2 → Ex NC none M_X6_spar 58 [.ref 112, x0, y0, .int (I 0), .int (I (len : Int)), .int (I (acc)), .int (I (posN K x y)), .int (I st)] [] g Q := by
  intro n
  induction n with
  | zero =>
    intro st acc x y K g hst h0t hMg hK hX hR1 hR2
    have pr := pos_rg hK x y
    refine ax_iload dX6_spar_58 rfl ?_
    refine ax_iload dX6_spar_60 rfl ?_
    refine ax_icmp_ge (tgt := 124) dX6_spar_62 (by decide) (by omega) (by omega) (fun c62 => ?_) (fun c62 => ?_)
    · have r1 : R1 = acc := by rw [← hR1]; exact Int.add_zero acc
      have r2 : R2 = K := hR2.symm
      have := kk (.int (I (posN K x y))) (.int (I st)) g (by rw [r2]; exact hMg) hX
      rw [r1] at this
      exact this
    · exfalso
      omega
  | succ n ih =>
    intro st acc x y K g hst h0t hMg hK hX hR1 hR2
    have pr := pos_rg hK x y
    refine ax_iload dX6_spar_58 rfl ?_
    refine ax_iload dX6_spar_60 rfl ?_
    refine ax_icmp_ge (tgt := 124) dX6_spar_62 (by decide) (by omega) (by omega) (fun c62 => ?_) (fun c62 => ?_)
    · exfalso
      omega
    · refine ax_iload dX6_spar_65 rfl ?_
      refine ax_iconst dX6_spar_67 ?_
      refine ax_icmp_eq (tgt := 124) dX6_spar_68 (by decide) (by omega) (by omega) (fun c68 => ?_) (fun c68 => ?_)
      · rw [spa_f (pr.2.2.mp c68)] at hR1 hR2
        have r1 : R1 = acc := by rw [← hR1]; exact Int.add_zero acc
        have r2 : R2 = K := hR2.symm
        have := kk (.int (I (posN K x y))) (.int (I st)) g (by rw [r2]; exact hMg) hX
        rw [r1] at this
        exact this
      · have ho : onZ K x y = true := by
          by_cases q : onZ K x y = true
          · exact q
          · exact absurd (pr.2.2.mpr q) c68
        obtain ⟨u, v, rfl, rfl, hu, hv, hl, n0, -⟩ := onZ_nat hK ho
        have hon : on K (v * K 0 + u) = true := by rw [on_at hu]; exact ho
        rw [pos_at ho]
        have s9 := hK.2.2.2.2.2.2.1 (v * K 0 + u) (by omega)
        refine ax_iload dX6_spar_71 rfl ?_
        refine ax_iconst dX6_spar_73 ?_
        refine ax_aload_n dX6_spar_74 rfl ?_
        refine ax_getf dX6_spar_75 ck6 fl_X6_17 (by decide) (by omega) hMg.1 rfl ?_
        refine ax_sipush dX6_spar_78 (by decide) ?_
        refine ax_iload dX6_spar_81 rfl ?_
        refine ax_iadd dX6_spar_83 ?_
        refine ax_ialr (j := (434 + (v * K 0 + u))) (w := (K (434 + (v * K 0 + u)) : Int)) dX6_spar_84 (by omega) hMg.2 (by omega) (by omega) (by decide) rfl ?_
        refine ax_isub dX6_spar_85 ?_
        refine ax_iadd dX6_spar_86 ?_
        refine ax_istore dX6_spar_87 rfl (by decide) ?_
        refine ax_aload_n dX6_spar_89 rfl ?_
        refine ax_getf dX6_spar_90 ck6 fl_X6_17 (by decide) (by omega) hMg.1 rfl ?_
        refine ax_sipush dX6_spar_93 (by decide) ?_
        refine ax_iload dX6_spar_96 rfl ?_
        refine ax_iadd dX6_spar_98 ?_
        refine ax_iconst dX6_spar_99 ?_
        refine ax_iasr (j := (434 + (v * K 0 + u))) dX6_spar_100 (by omega) hMg.2 (by omega) (by omega) (by decide) (fun e100 he100 => ?_)
        have hM2 : MD (va_up g 114 e100) s (upN K (434 + (v * K 0 + u)) 1) := hMg.w he100
        have x2 : EqX [114] g (va_up g 114 e100) := EqX.rf.up (by decide)
        generalize va_up g 114 e100 = g2 at *
        refine ax_aload_n dX6_spar_101 rfl ?_
        refine ax_iload dX6_spar_102 rfl ?_
        refine ax_iload_n dX6_spar_104 rfl ?_
        refine ax_if_eq (tgt := 112) dX6_spar_105 (by decide) (by omega) (fun c105 => ?_) (fun c105 => ?_)
        · refine ax_iconst dX6_spar_112 ?_
          refine ax_cviP2 dX6_spar_113 ln_X6_spar_225 (Nat.le_of_ble_eq_true rfl) (Or.inl rfl) (by omega) hM2.1 rfl (s6_beside hN hM2 (hK.upS hl hon (by omega)) (c := v * K 0 + u) (j := 3) (by omega) (by omega)) ?_
          rw [bes_eq (j := 3) (up_ne (by omega)) hu]
          refine ax_istore dX6_spar_116 rfl (by decide) ?_
          refine ax_iinc dX6_spar_118 rfl rfl (by decide) ?_
          refine ax_goto (tgt := 58) dX6_spar_121 (by decide) ?_
          rw [spa_t ho] at hR1 hR2
          refine ih (st + 1) (acc + (1 - (K (434 + (v * K 0 + u)) : Int))) ((u : Int) + sdx false) ((v : Int) + sdy false) _ g2 (by omega) (by omega) hM2 (hK.upS hl hon (by omega)) (hX.tr x2) ?_ hR2
          rw [← hR1]
          show acc + (1 - (K (434 + (v * K 0 + u)) : Int)) + (spaP (sdx false) (sdy false) n (upN K (434 + (v * K 0 + u)) 1) ((u : Int) + sdx false) ((v : Int) + sdy false)).1 = acc + ((spaP (sdx false) (sdy false) n (upN K (434 + (v * K 0 + u)) 1) ((u : Int) + sdx false) ((v : Int) + sdy false)).1 + (1 - (K (434 + (v * K 0 + u)) : Int)))
          omega
        · exfalso
          omega
theorem s6_spar_true (hN : 132 ≤ NC) (hM : MD h s K) (hK : KI K) (hs : s 12 = (d : Int)) (hH : MH h H d) {x : Int} (gx : -2147483648 ≤ x ∧ x < 2147483648) {y : Int} (gy : -2147483648 ≤ y ∧ y < 2147483648) {len : Nat} (ho : onZ K x y = true) (hlen : 1 ≤ len ∧ len ≤ 15) : Cl NC M_X6_spar [.ref 112, .int (I x), .int (I y), .int (I 1), .int (I (len : Int))] h (fun v h1 => v = .int (I ((spaP (sdx true) (sdy true) len K x y).1)) ∧ MD h1 (upZ (upZ s 0 0) 12 ((min (d + 1) 8 : Nat) : Int)) ((spaP (sdx true) (sdy true) len K x y).2) ∧ MH h1 (psh K H) (min (d + 1) 8) ∧ ∀ a, a ≠ 112 → a ≠ 114 → ¬ (118 ≤ a ∧ a ≤ 125) → h1 a = h a) := by
  obtain ⟨u, v, rfl, rfl, hu, hv, hl, n0, -⟩ := onZ_nat hK ho
  have ed : ((v : Int) * (K 0 : Int) + (u : Int)) = ((v * K 0 + u : Nat) : Int) := by push_cast; omega
  have hon : on K (v * K 0 + u) = true := by rw [on_at hu]; exact ho
  refine ax_aload_n dX6_spar_0 rfl ?_
  refine ax_iconst dX6_spar_1 ?_
  refine ax_putf dX6_spar_2 ck6 fl_X6_51 (by decide) (by omega) hM.1 rfl (Or.inl rfl) (Nat.le_of_ble_eq_true rfl) rfl ?_
  generalize hg0 : va_up h 112 _ = g0
  have hM0 : MD g0 (upZ s 0 0) K := by rw [← hg0]; exact hM.s0
  have y0 : Y2 h g0 := fun a ha => by rw [← hg0]; exact vu_ne ha
  have z0 : upZ s 0 0 0 = 0 := rfl
  refine ax_aload_n dX6_spar_5 rfl ?_
  refine ax_iload_n dX6_spar_6 rfl ?_
  refine ax_iload_n dX6_spar_7 rfl ?_
  refine ax_cviP2 dX6_spar_8 ln_X6_spar_258 (Nat.le_of_ble_eq_true rfl) (Or.inr rfl) (by omega) hM0.1 rfl (s6_noCellF hN hM0 hK z0 gx gy ho) ?_
  refine ax_if_ne (tgt := 38) dX6_spar_11 (by decide) (by omega) (fun c11 => ?_) (fun c11 => ?_)
  · exfalso
    omega
  · refine ax_aload_n dX6_spar_14 rfl ?_
    refine ax_iload dX6_spar_15 rfl ?_
    refine ax_iconst dX6_spar_17 ?_
    refine ax_bipush dX6_spar_18 (by decide) ?_
    refine ax_csiP3 dX6_spar_20 ln_X6_spar_54 (Nat.le_of_ble_eq_true rfl) (Or.inr rfl) (s6_in (by omega) (by omega) (by omega)) ?_
    refine ax_if_ne (tgt := 30) dX6_spar_23 (by decide) (by split <;> omega) (fun c23 => ?_) (fun c23 => ?_)
    · refine ax_iconst dX6_spar_30 ?_
      refine ax_iconst dX6_spar_31 ?_
      refine ax_cviP2 dX6_spar_32 ln_X6_spar_173 (Nat.le_of_ble_eq_true rfl) (Or.inr rfl) (by omega) hM0.1 rfl (s6_failsF hN hM0.1 z0) ?_
      refine ax_if_eq (tgt := 40) dX6_spar_35 (by decide) (by omega) (fun c35 => ?_) (fun c35 => ?_)
      · refine ax_aload_n dX6_spar_40 rfl ?_
        refine ax_cvv0 dX6_spar_41 ln_X6_spar_182 (Nat.le_of_ble_eq_true rfl) rfl (by omega) hM0.1 rfl (s6_remember hN hM0 (show upZ s 0 0 12 = (d : Int) from hs) (hH.mv (fun a a1 a2 => y0 a (by omega)))) (fun g1 hq => ?_)
        obtain ⟨hM1, hH1, x1⟩ := hq
        refine ax_iconst dX6_spar_44 ?_
        refine ax_istore dX6_spar_45 rfl (by decide) ?_
        refine ax_aload_n dX6_spar_47 rfl ?_
        refine ax_iload_n dX6_spar_48 rfl ?_
        refine ax_iload_n dX6_spar_49 rfl ?_
        refine ax_cviP2 dX6_spar_50 ln_X6_spar_261 (Nat.le_of_ble_eq_true rfl) (Or.inl rfl) (by omega) hM1.1 rfl (s6_at hN hM1) ?_
        rw [show (v : Int) * (K 0 : Int) + (u : Int) = posN K (u : Int) (v : Int) by rw [pos_at ho, ed]]
        refine ax_istore dX6_spar_53 rfl (by decide) ?_
        refine ax_iconst dX6_spar_55 ?_
        refine ax_istore dX6_spar_56 rfl (by decide) ?_
        refine l6_spar_true (h0 := g1) (R1 := (spaP (sdx true) (sdy true) len K (u : Int) (v : Int)).1) (R2 := (spaP (sdx true) (sdy true) len K (u : Int) (v : Int)).2) hN (by omega) (fun w6 w7 g2 hM2 x2 => ?_) len 0 0 (u : Int) (v : Int) K g1 (by omega) (by omega) hM1 hK EqX.rf (by omega) rfl
        refine ax_iload dX6_spar_124 rfl ?_
        exact ax_iret dX6_spar_126 rfl ⟨rfl, hM2, hH1.mv (fun a a1 a2 => x2 a (by simp; omega)), fun a a1 a2 a3 => (x2 a (by simp; omega)).trans ((x1 a (by simp; omega)).trans (y0 a a1))⟩
      · exfalso
        omega
    · exfalso
      rw [if_pos (by omega)] at c23
      first | exact absurd c23 (by decide) | exact c23 rfl
theorem s6_spar_false (hN : 132 ≤ NC) (hM : MD h s K) (hK : KI K) (hs : s 12 = (d : Int)) (hH : MH h H d) {x : Int} (gx : -2147483648 ≤ x ∧ x < 2147483648) {y : Int} (gy : -2147483648 ≤ y ∧ y < 2147483648) {len : Nat} (ho : onZ K x y = true) (hlen : 1 ≤ len ∧ len ≤ 15) : Cl NC M_X6_spar [.ref 112, .int (I x), .int (I y), .int (I 0), .int (I (len : Int))] h (fun v h1 => v = .int (I ((spaP (sdx false) (sdy false) len K x y).1)) ∧ MD h1 (upZ (upZ s 0 0) 12 ((min (d + 1) 8 : Nat) : Int)) ((spaP (sdx false) (sdy false) len K x y).2) ∧ MH h1 (psh K H) (min (d + 1) 8) ∧ ∀ a, a ≠ 112 → a ≠ 114 → ¬ (118 ≤ a ∧ a ≤ 125) → h1 a = h a) := by
  obtain ⟨u, v, rfl, rfl, hu, hv, hl, n0, -⟩ := onZ_nat hK ho
  have ed : ((v : Int) * (K 0 : Int) + (u : Int)) = ((v * K 0 + u : Nat) : Int) := by push_cast; omega
  have hon : on K (v * K 0 + u) = true := by rw [on_at hu]; exact ho
  refine ax_aload_n dX6_spar_0 rfl ?_
  refine ax_iconst dX6_spar_1 ?_
  refine ax_putf dX6_spar_2 ck6 fl_X6_51 (by decide) (by omega) hM.1 rfl (Or.inl rfl) (Nat.le_of_ble_eq_true rfl) rfl ?_
  generalize hg0 : va_up h 112 _ = g0
  have hM0 : MD g0 (upZ s 0 0) K := by rw [← hg0]; exact hM.s0
  have y0 : Y2 h g0 := fun a ha => by rw [← hg0]; exact vu_ne ha
  have z0 : upZ s 0 0 0 = 0 := rfl
  refine ax_aload_n dX6_spar_5 rfl ?_
  refine ax_iload_n dX6_spar_6 rfl ?_
  refine ax_iload_n dX6_spar_7 rfl ?_
  refine ax_cviP2 dX6_spar_8 ln_X6_spar_258 (Nat.le_of_ble_eq_true rfl) (Or.inr rfl) (by omega) hM0.1 rfl (s6_noCellF hN hM0 hK z0 gx gy ho) ?_
  refine ax_if_ne (tgt := 38) dX6_spar_11 (by decide) (by omega) (fun c11 => ?_) (fun c11 => ?_)
  · exfalso
    omega
  · refine ax_aload_n dX6_spar_14 rfl ?_
    refine ax_iload dX6_spar_15 rfl ?_
    refine ax_iconst dX6_spar_17 ?_
    refine ax_bipush dX6_spar_18 (by decide) ?_
    refine ax_csiP3 dX6_spar_20 ln_X6_spar_54 (Nat.le_of_ble_eq_true rfl) (Or.inr rfl) (s6_in (by omega) (by omega) (by omega)) ?_
    refine ax_if_ne (tgt := 30) dX6_spar_23 (by decide) (by split <;> omega) (fun c23 => ?_) (fun c23 => ?_)
    · refine ax_iconst dX6_spar_30 ?_
      refine ax_iconst dX6_spar_31 ?_
      refine ax_cviP2 dX6_spar_32 ln_X6_spar_173 (Nat.le_of_ble_eq_true rfl) (Or.inr rfl) (by omega) hM0.1 rfl (s6_failsF hN hM0.1 z0) ?_
      refine ax_if_eq (tgt := 40) dX6_spar_35 (by decide) (by omega) (fun c35 => ?_) (fun c35 => ?_)
      · refine ax_aload_n dX6_spar_40 rfl ?_
        refine ax_cvv0 dX6_spar_41 ln_X6_spar_182 (Nat.le_of_ble_eq_true rfl) rfl (by omega) hM0.1 rfl (s6_remember hN hM0 (show upZ s 0 0 12 = (d : Int) from hs) (hH.mv (fun a a1 a2 => y0 a (by omega)))) (fun g1 hq => ?_)
        obtain ⟨hM1, hH1, x1⟩ := hq
        refine ax_iconst dX6_spar_44 ?_
        refine ax_istore dX6_spar_45 rfl (by decide) ?_
        refine ax_aload_n dX6_spar_47 rfl ?_
        refine ax_iload_n dX6_spar_48 rfl ?_
        refine ax_iload_n dX6_spar_49 rfl ?_
        refine ax_cviP2 dX6_spar_50 ln_X6_spar_261 (Nat.le_of_ble_eq_true rfl) (Or.inl rfl) (by omega) hM1.1 rfl (s6_at hN hM1) ?_
        rw [show (v : Int) * (K 0 : Int) + (u : Int) = posN K (u : Int) (v : Int) by rw [pos_at ho, ed]]
        refine ax_istore dX6_spar_53 rfl (by decide) ?_
        refine ax_iconst dX6_spar_55 ?_
        refine ax_istore dX6_spar_56 rfl (by decide) ?_
        refine l6_spar_false (h0 := g1) (R1 := (spaP (sdx false) (sdy false) len K (u : Int) (v : Int)).1) (R2 := (spaP (sdx false) (sdy false) len K (u : Int) (v : Int)).2) hN (by omega) (fun w6 w7 g2 hM2 x2 => ?_) len 0 0 (u : Int) (v : Int) K g1 (by omega) (by omega) hM1 hK EqX.rf (by omega) rfl
        refine ax_iload dX6_spar_124 rfl ?_
        exact ax_iret dX6_spar_126 rfl ⟨rfl, hM2, hH1.mv (fun a a1 a2 => x2 a (by simp; omega)), fun a a1 a2 a3 => (x2 a (by simp; omega)).trans ((x1 a (by simp; omega)).trans (y0 a a1))⟩
      · exfalso
        omega
    · exfalso
      rw [if_pos (by omega)] at c23
      first | exact absurd c23 (by decide) | exact c23 rfl
theorem s6_spar (hN : 132 ≤ NC) (hM : MD h s K) (hK : KI K) (hs : s 12 = (d : Int)) (hH : MH h H d) {x : Int} (gx : -2147483648 ≤ x ∧ x < 2147483648) {y : Int} (gy : -2147483648 ≤ y ∧ y < 2147483648) {len : Nat} {dn : Bool} (ho : onZ K x y = true) (hlen : 1 ≤ len ∧ len ≤ 15) : Cl NC M_X6_spar [.ref 112, .int (I x), .int (I y), .int (I (if dn = true then 1 else 0)), .int (I (len : Int))] h (fun v h1 => v = .int (I ((spaP (sdx dn) (sdy dn) len K x y).1)) ∧ MD h1 (upZ (upZ s 0 0) 12 ((min (d + 1) 8 : Nat) : Int)) ((spaP (sdx dn) (sdy dn) len K x y).2) ∧ MH h1 (psh K H) (min (d + 1) 8) ∧ ∀ a, a ≠ 112 → a ≠ 114 → ¬ (118 ≤ a ∧ a ≤ 125) → h1 a = h a) := by
  cases dn
  · exact s6_spar_false hN hM hK hs hH gx gy ho hlen
  · exact s6_spar_true hN hM hK hs hH gx gy ho hlen
theorem s6_sparT1 (hN : 132 ≤ NC) (hM : MD h s K) (hK : KI K) {x : Int} (gx : -2147483648 ≤ x ∧ x < 2147483648) {y : Int} (gy : -2147483648 ≤ y ∧ y < 2147483648) {v3 v4 : Value} (ho : ¬ onZ K x y = true) : Cl NC M_X6_spar [.ref 112, .int (I x), .int (I y), v3, v4] h (fun v h1 => v = .int (I (0)) ∧ MD h1 (upZ s 0 1) K ∧ Y2 h h1) := by
  refine ax_aload_n dX6_spar_0 rfl ?_
  refine ax_iconst dX6_spar_1 ?_
  refine ax_putf dX6_spar_2 ck6 fl_X6_51 (by decide) (by omega) hM.1 rfl (Or.inl rfl) (Nat.le_of_ble_eq_true rfl) rfl ?_
  generalize hg0 : va_up h 112 _ = g0
  have hM0 : MD g0 (upZ s 0 0) K := by rw [← hg0]; exact hM.s0
  have y0 : Y2 h g0 := fun a ha => by rw [← hg0]; exact vu_ne ha
  have z0 : upZ s 0 0 0 = 0 := rfl
  refine ax_aload_n dX6_spar_5 rfl ?_
  refine ax_iload_n dX6_spar_6 rfl ?_
  refine ax_iload_n dX6_spar_7 rfl ?_
  refine ax_cvi2 dX6_spar_8 ln_X6_spar_258 (Nat.le_of_ble_eq_true rfl) (Or.inr rfl) (by omega) hM0.1 rfl (s6_noCellT hN hM0 hK z0 gx gy ho) (fun r g1 hq => ?_)
  obtain ⟨hv, hM1, y1⟩ := hq
  cases hv
  refine ax_if_ne (tgt := 38) dX6_spar_11 (by decide) (by omega) (fun c11 => ?_) (fun c11 => ?_)
  · refine ax_iconst dX6_spar_38 ?_
    exact ax_iret dX6_spar_39 rfl ⟨rfl, (by rw [show upZ (upZ s 0 0) 0 1 = upZ s 0 1 from funext fun j => by unfold upZ; split <;> rfl] at hM1; exact hM1), y0.tr y1⟩
  · exfalso
    omega
theorem s6_sparT2 (hN : 132 ≤ NC) (hM : MD h s K) (hK : KI K) {x : Int} (gx : -2147483648 ≤ x ∧ x < 2147483648) {y : Int} (gy : -2147483648 ≤ y ∧ y < 2147483648) {a : Int} (ga : -2147483648 ≤ a ∧ a < 2147483648) {v3 : Value} (ho : onZ K x y = true) (hx : ¬ (1 ≤ a ∧ a ≤ 15)) : Cl NC M_X6_spar [.ref 112, .int (I x), .int (I y), v3, .int (I a)] h (fun v h1 => v = .int (I (0)) ∧ MD h1 (upZ s 0 2) K ∧ Y2 h h1) := by
  refine ax_aload_n dX6_spar_0 rfl ?_
  refine ax_iconst dX6_spar_1 ?_
  refine ax_putf dX6_spar_2 ck6 fl_X6_51 (by decide) (by omega) hM.1 rfl (Or.inl rfl) (Nat.le_of_ble_eq_true rfl) rfl ?_
  generalize hg0 : va_up h 112 _ = g0
  have hM0 : MD g0 (upZ s 0 0) K := by rw [← hg0]; exact hM.s0
  have y0 : Y2 h g0 := fun a ha => by rw [← hg0]; exact vu_ne ha
  have z0 : upZ s 0 0 0 = 0 := rfl
  refine ax_aload_n dX6_spar_5 rfl ?_
  refine ax_iload_n dX6_spar_6 rfl ?_
  refine ax_iload_n dX6_spar_7 rfl ?_
  refine ax_cviP2 dX6_spar_8 ln_X6_spar_258 (Nat.le_of_ble_eq_true rfl) (Or.inr rfl) (by omega) hM0.1 rfl (s6_noCellF hN hM0 hK z0 gx gy ho) ?_
  refine ax_if_ne (tgt := 38) dX6_spar_11 (by decide) (by omega) (fun c11 => ?_) (fun c11 => ?_)
  · exfalso
    omega
  · refine ax_aload_n dX6_spar_14 rfl ?_
    refine ax_iload dX6_spar_15 rfl ?_
    refine ax_iconst dX6_spar_17 ?_
    refine ax_bipush dX6_spar_18 (by decide) ?_
    refine ax_csiP3 dX6_spar_20 ln_X6_spar_54 (Nat.le_of_ble_eq_true rfl) (Or.inr rfl) (s6_in ga (by omega) (by omega)) ?_
    refine ax_if_ne (tgt := 30) dX6_spar_23 (by decide) (by split <;> omega) (fun c23 => ?_) (fun c23 => ?_)
    · exfalso
      rw [if_neg hx] at c23
      first | exact absurd c23 (by decide) | exact c23 rfl
    · refine ax_iconst dX6_spar_26 ?_
      refine ax_goto (tgt := 31) dX6_spar_27 (by decide) ?_
      refine ax_iconst dX6_spar_31 ?_
      refine ax_cvi2 dX6_spar_32 ln_X6_spar_173 (Nat.le_of_ble_eq_true rfl) (Or.inr rfl) (by omega) hM0.1 rfl (s6_failsT hN hM0.1 z0 (by decide)) (fun r g1 hq => ?_)
      obtain ⟨hv, hO1, y1⟩ := hq
      cases hv
      have hM1 : MD g1 (upZ (upZ s 0 0) 0 2) K := ⟨hO1, hM0.2.mv (y1 114 (by decide))⟩
      refine ax_if_eq (tgt := 40) dX6_spar_35 (by decide) (by omega) (fun c35 => ?_) (fun c35 => ?_)
      · exfalso
        omega
      · refine ax_iconst dX6_spar_38 ?_
        exact ax_iret dX6_spar_39 rfl ⟨rfl, (by rw [show upZ (upZ s 0 0) 0 2 = upZ s 0 2 from funext fun j => by unfold upZ; split <;> rfl] at hM1; exact hM1), y0.tr y1⟩
end MP
