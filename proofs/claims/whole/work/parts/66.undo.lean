/-! the reference: count, undo -/
section MA
variable {NC : Nat} {h : hp} {s : Nat → Int} {K : Nat → Nat} {H : Nat → Nat → Nat} {d : Nat} {Q : qt}
theorem s6_count (hN : 132 ≤ NC) (hM : MD h s K) (hK : KI K) {a : Nat} (ha : a ≤ 6) : Cl NC M_X6_count [.ref 112, .int (I (a : Int))] h (fun v h1 => v = .int (I (cntC K a)) ∧ MD h1 (upZ s 0 0) K ∧ Y2 h h1) := by
  refine ax_aload_n dX6_count_0 rfl ?_
  refine ax_iconst dX6_count_1 ?_
  refine ax_putf dX6_count_2 ck6 fl_X6_51 (by decide) (by omega) hM.1 rfl (Or.inl rfl) (Nat.le_of_ble_eq_true rfl) rfl ?_
  generalize hg0 : va_up h 112 _ = g0
  have hM0 : MD g0 (upZ s 0 0) K := by rw [← hg0]; exact hM.s0
  have y0 : Y2 h g0 := fun a ha => by rw [← hg0]; exact vu_ne ha
  have z0 : upZ s 0 0 0 = 0 := rfl
  refine ax_aload_n dX6_count_5 rfl ?_
  refine ax_iload_n dX6_count_6 rfl ?_
  refine ax_iconst dX6_count_7 ?_
  refine ax_bipush dX6_count_8 (by decide) ?_
  refine ax_csiP3 dX6_count_10 ln_X6_count_54 (Nat.le_of_ble_eq_true rfl) (Or.inr rfl) (s6_in (by omega) (by omega) (by omega)) ?_
  refine ax_if_ne (tgt := 20) dX6_count_13 (by decide) (by split <;> omega) (fun c13 => ?_) (fun c13 => ?_)
  · refine ax_iconst dX6_count_20 ?_
    refine ax_iconst dX6_count_21 ?_
    refine ax_cviP2 dX6_count_22 ln_X6_count_173 (Nat.le_of_ble_eq_true rfl) (Or.inr rfl) (by omega) hM0.1 rfl (s6_failsF hN hM0.1 z0) ?_
    refine ax_if_eq (tgt := 32) dX6_count_25 (by decide) (by omega) (fun c25 => ?_) (fun c25 => ?_)
    · refine ax_aload_n dX6_count_32 rfl ?_
      refine ax_iload_n dX6_count_33 rfl ?_
      refine ax_cviP1 dX6_count_34 ln_X6_count_243 (Nat.le_of_ble_eq_true rfl) (Or.inl rfl) (by omega) hM0.1 rfl (s6_countOf hN hM0 hK (k := a) (by omega)) ?_
      exact ax_iret dX6_count_37 rfl ⟨rfl, hM0, y0⟩
    · exfalso
      omega
  · exfalso
    rw [if_pos (by omega)] at c13
    exact absurd c13 (by decide)
theorem s6_countT (hN : 132 ≤ NC) (hM : MD h s K) {a : Int} (ga : -2147483648 ≤ a ∧ a < 2147483648) (ha : ¬ (0 ≤ a ∧ a ≤ 6)) : Cl NC M_X6_count [.ref 112, .int (I a)] h (fun v h1 => v = .int (I (0)) ∧ MD h1 (upZ s 0 1) K ∧ Y2 h h1) := by
  refine ax_aload_n dX6_count_0 rfl ?_
  refine ax_iconst dX6_count_1 ?_
  refine ax_putf dX6_count_2 ck6 fl_X6_51 (by decide) (by omega) hM.1 rfl (Or.inl rfl) (Nat.le_of_ble_eq_true rfl) rfl ?_
  generalize hg0 : va_up h 112 _ = g0
  have hM0 : MD g0 (upZ s 0 0) K := by rw [← hg0]; exact hM.s0
  have y0 : Y2 h g0 := fun a ha => by rw [← hg0]; exact vu_ne ha
  have z0 : upZ s 0 0 0 = 0 := rfl
  refine ax_aload_n dX6_count_5 rfl ?_
  refine ax_iload_n dX6_count_6 rfl ?_
  refine ax_iconst dX6_count_7 ?_
  refine ax_bipush dX6_count_8 (by decide) ?_
  refine ax_csiP3 dX6_count_10 ln_X6_count_54 (Nat.le_of_ble_eq_true rfl) (Or.inr rfl) (s6_in ga (by omega) (by omega)) ?_
  refine ax_if_ne (tgt := 20) dX6_count_13 (by decide) (by split <;> omega) (fun c13 => ?_) (fun c13 => ?_)
  · exfalso
    rw [if_neg ha] at c13
    exact c13 rfl
  · refine ax_iconst dX6_count_16 ?_
    refine ax_goto (tgt := 21) dX6_count_17 (by decide) ?_
    refine ax_iconst dX6_count_21 ?_
    refine ax_cvi2 dX6_count_22 ln_X6_count_173 (Nat.le_of_ble_eq_true rfl) (Or.inr rfl) (by omega) hM0.1 rfl (s6_failsT hN hM0.1 z0 (by decide)) (fun r g1 hq => ?_)
    obtain ⟨hv, hO1, y1⟩ := hq
    cases hv
    have hM1 : MD g1 (upZ (upZ s 0 0) 0 1) K := ⟨hO1, hM0.2.mv (y1 114 (by decide))⟩
    refine ax_if_eq (tgt := 32) dX6_count_25 (by decide) (by omega) (fun c25 => ?_) (fun c25 => ?_)
    · exfalso
      omega
    · refine ax_iconst dX6_count_28 ?_
      refine ax_goto (tgt := 37) dX6_count_29 (by decide) ?_
      exact ax_iret dX6_count_37 rfl ⟨rfl, (by rw [show upZ (upZ s 0 0) 0 1 = upZ s 0 1 from funext fun j => by unfold upZ; split <;> rfl] at hM1; exact hM1), y0.tr y1⟩
theorem s6_undo (hN : 132 ≤ NC) (hM : MD h s K) (hs : s 12 = (d : Int)) (hH : MH h H d) (hd : 0 < d) : Cl NC M_X6_undo [.ref 112] h (fun v h1 => v = .int (I ((d - 1 : Nat) : Int)) ∧ MD h1 (upZ (upZ s 0 0) 12 ((d - 1 : Nat) : Int)) (H 0) ∧ MH h1 (fun t => H (t + 1)) (d - 1) ∧ ∀ a, a ≠ 112 → a ≠ 114 → h1 a = h a) := by
  obtain ⟨d8, ⟨f, hf, hf8⟩, hSh, h4⟩ := hH
  refine ax_aload_n dX6_undo_0 rfl ?_
  refine ax_iconst dX6_undo_1 ?_
  refine ax_putf dX6_undo_2 ck6 fl_X6_51 (by decide) (by omega) hM.1 rfl (Or.inl rfl) (Nat.le_of_ble_eq_true rfl) rfl ?_
  generalize hg0 : va_up h 112 _ = g0
  have hM0 : MD g0 (upZ s 0 0) K := by rw [← hg0]; exact hM.s0
  have y0 : Y2 h g0 := fun a ha => by rw [← hg0]; exact vu_ne ha
  have z0 : upZ s 0 0 0 = 0 := rfl
  refine ax_aload_n dX6_undo_5 rfl ?_
  refine ax_getf dX6_undo_6 ck6 fl_X6_292 (by decide) (by omega) hM0.1 rfl ?_
  rw [show upZ s 0 0 12 = (d : Int) from hs]
  refine ax_if_ne (tgt := 14) dX6_undo_9 (by decide) (by omega) (fun c9 => ?_) (fun c9 => ?_)
  · refine ax_aload_n dX6_undo_14 rfl ?_
    refine ax_dup dX6_undo_15 rfl ?_
    refine ax_getf dX6_undo_16 ck6 fl_X6_292 (by decide) (by omega) hM0.1 rfl ?_
    refine ax_iconst dX6_undo_19 ?_
    refine ax_isub dX6_undo_20 ?_
    rw [show upZ s 0 0 12 - 1 = ((d - 1 : Nat) : Int) by show s 12 - 1 = _; omega]
    refine ax_putf dX6_undo_21 ck6 fl_X6_292 (by decide) (by omega) hM0.1 rfl (Or.inl rfl) (Nat.le_of_ble_eq_true rfl) rfl ?_
    generalize hg1 : va_up g0 112 _ = g1
    have hM1 : MD g1 (upZ (upZ s 0 0) 12 ((d - 1 : Nat) : Int)) K := by rw [← hg1]; exact hM0.s12
    have y1 : Y2 h g1 := fun a ha => by rw [← hg1]; exact (vu_ne ha).trans (y0 a ha)
    have hf1 : g1 117 = _ := (y1 117 (by decide)).trans hf
    refine ax_aload_n dX6_undo_24 rfl ?_
    refine ax_getf dX6_undo_25 ck6 fl_X6_28 (by decide) (by omega) hM1.1 rfl ?_
    refine ax_aload_n dX6_undo_28 rfl ?_
    refine ax_getf dX6_undo_29 ck6 fl_X6_292 (by decide) (by omega) hM1.1 rfl ?_
    rw [show upZ (upZ s 0 0) 12 ((d - 1 : Nat) : Int) 12 = ((d - 1 : Nat) : Int) from rfl]
    refine ax_aalg (j := (d - 1)) (q := 118 + (d - 1)) dX6_undo_32 (by omega) hf1 (by omega) (by omega) (by decide) (hf8 _ (by omega)) ?_
    refine ax_aload_n dX6_undo_33 rfl ?_
    refine ax_getf dX6_undo_34 ck6 fl_X6_17 (by decide) (by omega) hM1.1 rfl ?_
    refine ax_csv2 dX6_undo_37 ln_X6_undo_185 (Nat.le_of_ble_eq_true rfl) rfl (s6_copy (F := fun i => (H 0 i : Int)) (by omega) (by omega) (by omega) ((show row 0 (h (118 + (d - 1))) 746 (fun i => (H 0 i : Int)) from h4 0 hd).mv (y1 _ (by omega))) hM1.2.sh) (fun g2 hq => ?_)
    obtain ⟨hC, x2⟩ := hq
    have hM2 : MD g2 (upZ (upZ s 0 0) 12 ((d - 1 : Nat) : Int)) (H 0) := ⟨(x2 112 (by decide)).trans hM1.1, hC⟩
    have fr : ∀ a, a ≠ 112 → a ≠ 114 → g2 a = h a := fun a a1 a2 => (x2 a (by simp; exact a2)).trans (y1 a a1)
    refine ax_aload_n dX6_undo_40 rfl ?_
    refine ax_getf dX6_undo_41 ck6 fl_X6_292 (by decide) (by omega) hM2.1 rfl ?_
    exact ax_iret dX6_undo_44 rfl ⟨rfl, hM2, ⟨by omega, ⟨f, (fr 117 (by decide) (by decide)).trans hf, hf8⟩, fun k hk => (hSh k hk).mv (fr _ (by omega) (by omega)), fun t ht => by rw [show d - 1 - 1 - t = d - 1 - (t + 1) by omega]; exact (h4 (t + 1) (by omega)).mv (fr _ (by omega) (by omega))⟩, fr⟩
  · exfalso
    omega
theorem s6_undo0 (hN : 132 ≤ NC) (hM : MD h s K) (hs : s 12 = 0) : Cl NC M_X6_undo [.ref 112] h (fun v h1 => v = .int (I (-1)) ∧ MD h1 (upZ s 0 0) K ∧ Y2 h h1) := by
  refine ax_aload_n dX6_undo_0 rfl ?_
  refine ax_iconst dX6_undo_1 ?_
  refine ax_putf dX6_undo_2 ck6 fl_X6_51 (by decide) (by omega) hM.1 rfl (Or.inl rfl) (Nat.le_of_ble_eq_true rfl) rfl ?_
  generalize hg0 : va_up h 112 _ = g0
  have hM0 : MD g0 (upZ s 0 0) K := by rw [← hg0]; exact hM.s0
  have y0 : Y2 h g0 := fun a ha => by rw [← hg0]; exact vu_ne ha
  have z0 : upZ s 0 0 0 = 0 := rfl
  refine ax_aload_n dX6_undo_5 rfl ?_
  refine ax_getf dX6_undo_6 ck6 fl_X6_292 (by decide) (by omega) hM0.1 rfl ?_
  rw [show upZ s 0 0 12 = 0 from hs]
  refine ax_if_ne (tgt := 14) dX6_undo_9 (by decide) (by omega) (fun c9 => ?_) (fun c9 => ?_)
  · exfalso
    omega
  · refine ax_iconst dX6_undo_12 ?_
    exact ax_iret dX6_undo_13 rfl ⟨rfl, hM0, y0⟩
end MA
