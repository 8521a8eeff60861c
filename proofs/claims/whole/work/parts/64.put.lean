/-! the reference: put, noCell, at -/
theorem MD.w {h : hp} {s : Nat → Int} {K : Nat → Nat} {j c : Nat} {ev : va_E} (hM : MD h s K) (he : row 0 ev 746 (upZ (fun i => (K i : Int)) j (c : Int))) : MD (va_up h 114 ev) s (upN K j c) := ⟨(vu_ne (by decide)).trans hM.1, (he.mv vu_eq).cong (fun i hi => by unfold upZ upN; split <;> rfl)⟩
section MP
variable {NC : Nat} {h : hp} {s : Nat → Int} {K : Nat → Nat} {Q : qt}
theorem s6_put (hN : 132 ≤ NC) (hM : MD h s K) {i c w : Nat} (hi : i < 180) : Cl NC M_X6_put [.ref 112, .int (I (i : Int)), .int (I (c : Int)), .int (I (w : Int))] h (fun _ h1 => MD h1 s (setC K i c w) ∧ EqX [114] h h1) := by
  refine ax_aload_n dX6_put_0 rfl ?_
  refine ax_getf dX6_put_1 ck6 fl_X6_17 (by decide) (by omega) hM.1 rfl ?_
  refine ax_bipush dX6_put_4 (by decide) ?_
  refine ax_iload_n dX6_put_6 rfl ?_
  refine ax_iadd dX6_put_7 ?_
  refine ax_iload_n dX6_put_8 rfl ?_
  refine ax_iasr (j := (74 + i)) dX6_put_9 (by omega) hM.2 (by omega) (by omega) (by decide) (fun e9 he9 => ?_)
  have hM1 : MD (va_up h 114 e9) s (upN K (74 + i) c) := hM.w he9
  have x1 : EqX [114] h (va_up h 114 e9) := EqX.rf.up (by decide)
  generalize va_up h 114 e9 = g1 at *
  refine ax_aload_n dX6_put_10 rfl ?_
  refine ax_getf dX6_put_11 ck6 fl_X6_17 (by decide) (by omega) hM1.1 rfl ?_
  refine ax_sipush dX6_put_14 (by decide) ?_
  refine ax_iload_n dX6_put_17 rfl ?_
  refine ax_iadd dX6_put_18 ?_
  refine ax_iload_n dX6_put_19 rfl ?_
  refine ax_iasr (j := (254 + i)) dX6_put_20 (by omega) hM1.2 (by omega) (by omega) (by decide) (fun e20 he20 => ?_)
  exact ax_vret dX6_put_21 rfl ⟨hM1.w he20, x1.up (by decide)⟩
theorem s6_at (hN : 132 ≤ NC) (hM : MD h s K) {x y : Int} : Cl NC M_X6_at [.ref 112, .int (I x), .int (I y)] h (fun v h1 => v = .int (I (y * (K 0 : Int) + x)) ∧ h1 = h) := by
  refine ax_iload_n dX6_at_0 rfl ?_
  refine ax_aload_n dX6_at_1 rfl ?_
  refine ax_getf dX6_at_2 ck6 fl_X6_17 (by decide) (by omega) hM.1 rfl ?_
  refine ax_iconst dX6_at_5 ?_
  refine ax_ialr (j := 0) (w := (K 0 : Int)) dX6_at_6 (by omega) hM.2 (by omega) (by omega) (by decide) rfl ?_
  refine ax_imul dX6_at_7 ?_
  refine ax_iload_n dX6_at_8 rfl ?_
  refine ax_iadd dX6_at_9 ?_
  exact ax_iret dX6_at_10 rfl ⟨rfl, rfl⟩
theorem s6_noCellF (hN : 132 ≤ NC) (hM : MD h s K) (hK : KI K) (g0 : s 0 = 0) {x y : Int} (gx : -2147483648 ≤ x ∧ x < 2147483648) (gy : -2147483648 ≤ y ∧ y < 2147483648) (ho : onZ K x y = true) : Cl NC M_X6_noCell [.ref 112, .int (I x), .int (I y)] h (fun v h1 => v = .int (I 0) ∧ h1 = h) := by
  refine ax_aload_n dX6_noCell_0 rfl ?_
  refine ax_aload_n dX6_noCell_1 rfl ?_
  refine ax_iload_n dX6_noCell_2 rfl ?_
  refine ax_iload_n dX6_noCell_3 rfl ?_
  refine ax_cviP2 dX6_noCell_4 ln_X6_noCell_198 (Nat.le_of_ble_eq_true rfl) (Or.inr rfl) (by omega) hM.1 rfl (s6_isOf hN hM hK gx gy) ?_
  refine ax_if_ne (tgt := 14) dX6_noCell_7 (by decide) (by split <;> omega) (fun c7 => ?_) (fun c7 => ?_)
  · refine ax_iconst dX6_noCell_14 ?_
    refine ax_iconst dX6_noCell_15 ?_
    refine ax_cviP2 dX6_noCell_16 ln_X6_noCell_173 (Nat.le_of_ble_eq_true rfl) (Or.inr rfl) (by omega) hM.1 rfl (s6_failsF hN hM.1 g0) ?_
    exact ax_zret dX6_noCell_19 rfl (by first | exact Or.inl rfl | exact Or.inr rfl) ⟨rfl, rfl⟩
  · exfalso
    rw [if_pos ho] at c7
    omega
theorem s6_noCellT (hN : 132 ≤ NC) (hM : MD h s K) (hK : KI K) (g0 : s 0 = 0) {x y : Int} (gx : -2147483648 ≤ x ∧ x < 2147483648) (gy : -2147483648 ≤ y ∧ y < 2147483648) (ho : ¬ onZ K x y = true) : Cl NC M_X6_noCell [.ref 112, .int (I x), .int (I y)] h (fun v h1 => v = .int (I 1) ∧ MD h1 (upZ s 0 1) K ∧ Y2 h h1) := by
  refine ax_aload_n dX6_noCell_0 rfl ?_
  refine ax_aload_n dX6_noCell_1 rfl ?_
  refine ax_iload_n dX6_noCell_2 rfl ?_
  refine ax_iload_n dX6_noCell_3 rfl ?_
  refine ax_cviP2 dX6_noCell_4 ln_X6_noCell_198 (Nat.le_of_ble_eq_true rfl) (Or.inr rfl) (by omega) hM.1 rfl (s6_isOf hN hM hK gx gy) ?_
  refine ax_if_ne (tgt := 14) dX6_noCell_7 (by decide) (by split <;> omega) (fun c7 => ?_) (fun c7 => ?_)
  · exfalso
    rw [if_neg ho] at c7
    exact c7 rfl
  · refine ax_iconst dX6_noCell_10 ?_
    refine ax_goto (tgt := 15) dX6_noCell_11 (by decide) ?_
    refine ax_iconst dX6_noCell_15 ?_
    refine ax_cvi2 dX6_noCell_16 ln_X6_noCell_173 (Nat.le_of_ble_eq_true rfl) (Or.inr rfl) (by omega) hM.1 rfl (s6_failsT hN hM.1 g0 (by decide)) (fun r g1 hq => ?_)
    obtain ⟨hv, hO1, y1⟩ := hq
    cases hv
    exact ax_zret dX6_noCell_19 rfl (by first | exact Or.inl rfl | exact Or.inr rfl) ⟨rfl, ⟨hO1, hM.2.mv (y1 114 (by decide))⟩, y1⟩
end MP
