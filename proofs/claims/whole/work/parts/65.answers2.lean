/-! the reference: answers -/
section MA
variable {NC : Nat} {h : hp} {s : Nat → Int} {K : Nat → Nat} {H : Nat → Nat → Nat} {d : Nat} {Q : qt}
theorem s6_unlike (hN : 132 ≤ NC) (hM : MD h s K) (hK : KI K) : Cl NC M_X6_unlike [.ref 112] h (fun v h1 => v = .int (I (unlC K)) ∧ MD h1 (upZ s 0 0) K ∧ Y2 h h1) := by
  refine ax_aload_n dX6_unlike_0 rfl ?_
  refine ax_iconst dX6_unlike_1 ?_
  refine ax_putf dX6_unlike_2 ck6 fl_X6_51 (by decide) (by omega) hM.1 rfl (Or.inl rfl) (Nat.le_of_ble_eq_true rfl) rfl ?_
  generalize hg0 : va_up h 112 _ = g0
  have hM0 : MD g0 (upZ s 0 0) K := by rw [← hg0]; exact hM.s0
  have y0 : Y2 h g0 := fun a ha => by rw [← hg0]; exact vu_ne ha
  have z0 : upZ s 0 0 0 = 0 := rfl
  refine ax_aload_n dX6_unlike_5 rfl ?_
  refine ax_cviP0 dX6_unlike_6 ln_X6_unlike_267 (Nat.le_of_ble_eq_true rfl) (Or.inl rfl) (by omega) hM0.1 rfl (s6_unlikeNow hN hM0 hK) ?_
  exact ax_iret dX6_unlike_9 rfl ⟨rfl, hM0, y0⟩
theorem s6_bleeds (hN : 132 ≤ NC) (hM : MD h s K) (hK : KI K) {x : Int} (gx : -2147483648 ≤ x ∧ x < 2147483648) {y : Int} (gy : -2147483648 ≤ y ∧ y < 2147483648) (ho : onZ K x y = true) : Cl NC M_X6_bleeds [.ref 112, .int (I x), .int (I y)] h (fun v h1 => v = .int (I (blC K (y.toNat * K 0 + x.toNat))) ∧ MD h1 (upZ s 0 0) K ∧ Y2 h h1) := by
  obtain ⟨u, v, rfl, rfl, hu, hv, hl, n0, -⟩ := onZ_nat hK ho
  have ed : ((v : Int) * (K 0 : Int) + (u : Int)) = ((v * K 0 + u : Nat) : Int) := by push_cast; omega
  have hon : on K (v * K 0 + u) = true := by rw [on_at hu]; exact ho
  refine ax_aload_n dX6_bleeds_0 rfl ?_
  refine ax_iconst dX6_bleeds_1 ?_
  refine ax_putf dX6_bleeds_2 ck6 fl_X6_51 (by decide) (by omega) hM.1 rfl (Or.inl rfl) (Nat.le_of_ble_eq_true rfl) rfl ?_
  generalize hg0 : va_up h 112 _ = g0
  have hM0 : MD g0 (upZ s 0 0) K := by rw [← hg0]; exact hM.s0
  have y0 : Y2 h g0 := fun a ha => by rw [← hg0]; exact vu_ne ha
  have z0 : upZ s 0 0 0 = 0 := rfl
  refine ax_aload_n dX6_bleeds_5 rfl ?_
  refine ax_iload_n dX6_bleeds_6 rfl ?_
  refine ax_iload_n dX6_bleeds_7 rfl ?_
  refine ax_cviP2 dX6_bleeds_8 ln_X6_bleeds_258 (Nat.le_of_ble_eq_true rfl) (Or.inr rfl) (by omega) hM0.1 rfl (s6_noCellF hN hM0 hK z0 gx gy ho) ?_
  refine ax_if_eq (tgt := 18) dX6_bleeds_11 (by decide) (by omega) (fun c11 => ?_) (fun c11 => ?_)
  · refine ax_aload_n dX6_bleeds_18 rfl ?_
    refine ax_aload_n dX6_bleeds_19 rfl ?_
    refine ax_iload_n dX6_bleeds_20 rfl ?_
    refine ax_iload_n dX6_bleeds_21 rfl ?_
    refine ax_cviP2 dX6_bleeds_22 ln_X6_bleeds_261 (Nat.le_of_ble_eq_true rfl) (Or.inl rfl) (by omega) hM0.1 rfl (s6_at hN hM0) ?_
    rw [ed]
    refine ax_cviP1 dX6_bleeds_25 ln_X6_bleeds_231 (Nat.le_of_ble_eq_true rfl) (Or.inl rfl) (by omega) hM0.1 rfl (s6_toldBleeds hN hM0 hK (c := v * K 0 + u) (by omega)) ?_
    exact ax_iret dX6_bleeds_28 rfl ⟨rfl, hM0, y0⟩
  · exfalso
    omega
theorem s6_bleedsT (hN : 132 ≤ NC) (hM : MD h s K) (hK : KI K) {x : Int} (gx : -2147483648 ≤ x ∧ x < 2147483648) {y : Int} (gy : -2147483648 ≤ y ∧ y < 2147483648) (ho : ¬ onZ K x y = true) : Cl NC M_X6_bleeds [.ref 112, .int (I x), .int (I y)] h (fun v h1 => v = .int (I (0)) ∧ MD h1 (upZ s 0 1) K ∧ Y2 h h1) := by
  refine ax_aload_n dX6_bleeds_0 rfl ?_
  refine ax_iconst dX6_bleeds_1 ?_
  refine ax_putf dX6_bleeds_2 ck6 fl_X6_51 (by decide) (by omega) hM.1 rfl (Or.inl rfl) (Nat.le_of_ble_eq_true rfl) rfl ?_
  generalize hg0 : va_up h 112 _ = g0
  have hM0 : MD g0 (upZ s 0 0) K := by rw [← hg0]; exact hM.s0
  have y0 : Y2 h g0 := fun a ha => by rw [← hg0]; exact vu_ne ha
  have z0 : upZ s 0 0 0 = 0 := rfl
  refine ax_aload_n dX6_bleeds_5 rfl ?_
  refine ax_iload_n dX6_bleeds_6 rfl ?_
  refine ax_iload_n dX6_bleeds_7 rfl ?_
  refine ax_cvi2 dX6_bleeds_8 ln_X6_bleeds_258 (Nat.le_of_ble_eq_true rfl) (Or.inr rfl) (by omega) hM0.1 rfl (s6_noCellT hN hM0 hK z0 gx gy ho) (fun r g1 hq => ?_)
  obtain ⟨hv, hM1, y1⟩ := hq
  cases hv
  refine ax_if_eq (tgt := 18) dX6_bleeds_11 (by decide) (by omega) (fun c11 => ?_) (fun c11 => ?_)
  · exfalso
    omega
  · refine ax_iconst dX6_bleeds_14 ?_
    refine ax_goto (tgt := 28) dX6_bleeds_15 (by decide) ?_
    exact ax_iret dX6_bleeds_28 rfl ⟨rfl, (by rw [show upZ (upZ s 0 0) 0 1 = upZ s 0 1 from funext fun j => by unfold upZ; split <;> rfl] at hM1; exact hM1), y0.tr y1⟩
theorem s6_regionT (hN : 132 ≤ NC) (hM : MD h s K) (hK : KI K) {x : Int} (gx : -2147483648 ≤ x ∧ x < 2147483648) {y : Int} (gy : -2147483648 ≤ y ∧ y < 2147483648) (ho : ¬ onZ K x y = true) : Cl NC M_X6_region [.ref 112, .int (I x), .int (I y)] h (fun v h1 => v = .int (I (0)) ∧ MD h1 (upZ s 0 1) K ∧ Y2 h h1) := by
  refine ax_aload_n dX6_region_0 rfl ?_
  refine ax_iconst dX6_region_1 ?_
  refine ax_putf dX6_region_2 ck6 fl_X6_51 (by decide) (by omega) hM.1 rfl (Or.inl rfl) (Nat.le_of_ble_eq_true rfl) rfl ?_
  generalize hg0 : va_up h 112 _ = g0
  have hM0 : MD g0 (upZ s 0 0) K := by rw [← hg0]; exact hM.s0
  have y0 : Y2 h g0 := fun a ha => by rw [← hg0]; exact vu_ne ha
  have z0 : upZ s 0 0 0 = 0 := rfl
  refine ax_aload_n dX6_region_5 rfl ?_
  refine ax_iload_n dX6_region_6 rfl ?_
  refine ax_iload_n dX6_region_7 rfl ?_
  refine ax_cvi2 dX6_region_8 ln_X6_region_258 (Nat.le_of_ble_eq_true rfl) (Or.inr rfl) (by omega) hM0.1 rfl (s6_noCellT hN hM0 hK z0 gx gy ho) (fun r g1 hq => ?_)
  obtain ⟨hv, hM1, y1⟩ := hq
  cases hv
  refine ax_if_eq (tgt := 16) dX6_region_11 (by decide) (by omega) (fun c11 => ?_) (fun c11 => ?_)
  · exfalso
    omega
  · refine ax_iconst dX6_region_14 ?_
    exact ax_iret dX6_region_15 rfl ⟨rfl, (by rw [show upZ (upZ s 0 0) 0 1 = upZ s 0 1 from funext fun j => by unfold upZ; split <;> rfl] at hM1; exact hM1), y0.tr y1⟩
theorem s6_region (hN : 132 ≤ NC) (hM : MD h s K) (hK : KI K) (s9 : sh 2 (h 129) 180) (s10 : sh 0 (h 130) 180) {x : Int} (gx : -2147483648 ≤ x ∧ x < 2147483648) {y : Int} (gy : -2147483648 ≤ y ∧ y < 2147483648) (ho : onZ K x y = true) : Cl NC M_X6_region [.ref 112, .int (I x), .int (I y)] h (fun v h1 => ∃ (n : Nat) (N F : Nat → Int), v = .int (I (n : Int)) ∧ (∀ j, j < 180 → F j = 0) ∧ (n : Int) = si N 180 - si F 180 ∧ mkEnd K (y.toNat * K 0 + x.toNat) F N ∧ MD h1 (upZ s 0 0) K ∧ sh 2 (h1 129) 180 ∧ sh 0 (h1 130) 180 ∧ ∀ a, a ≠ 112 → a ≠ 129 → a ≠ 130 → h1 a = h a) := by
  obtain ⟨u, v, rfl, rfl, hu, hv, hl, n0, -⟩ := onZ_nat hK ho
  have ed : ((v : Int) * (K 0 : Int) + (u : Int)) = ((v * K 0 + u : Nat) : Int) := by push_cast; omega
  have hon : on K (v * K 0 + u) = true := by rw [on_at hu]; exact ho
  refine ax_aload_n dX6_region_0 rfl ?_
  refine ax_iconst dX6_region_1 ?_
  refine ax_putf dX6_region_2 ck6 fl_X6_51 (by decide) (by omega) hM.1 rfl (Or.inl rfl) (Nat.le_of_ble_eq_true rfl) rfl ?_
  generalize hg0 : va_up h 112 _ = g0
  have hM0 : MD g0 (upZ s 0 0) K := by rw [← hg0]; exact hM.s0
  have y0 : Y2 h g0 := fun a ha => by rw [← hg0]; exact vu_ne ha
  have z0 : upZ s 0 0 0 = 0 := rfl
  refine ax_aload_n dX6_region_5 rfl ?_
  refine ax_iload_n dX6_region_6 rfl ?_
  refine ax_iload_n dX6_region_7 rfl ?_
  refine ax_cviP2 dX6_region_8 ln_X6_region_258 (Nat.le_of_ble_eq_true rfl) (Or.inr rfl) (by omega) hM0.1 rfl (s6_noCellF hN hM0 hK z0 gx gy ho) ?_
  refine ax_if_eq (tgt := 16) dX6_region_11 (by decide) (by omega) (fun c11 => ?_) (fun c11 => ?_)
  · refine ax_aload_n dX6_region_16 rfl ?_
    refine ax_cvv0 dX6_region_17 ln_X6_region_270 (Nat.le_of_ble_eq_true rfl) rfl (by omega) hM0.1 rfl (s6_clearMarks hN hM0 (s9.mv (y0 129 (by decide)))) (fun g1 hq => ?_)
    obtain ⟨hM1, ⟨F, hF, iF⟩, x1⟩ := hq
    refine ax_aload_n dX6_region_20 rfl ?_
    refine ax_aload_n dX6_region_21 rfl ?_
    refine ax_iload_n dX6_region_22 rfl ?_
    refine ax_iload_n dX6_region_23 rfl ?_
    refine ax_cviP2 dX6_region_24 ln_X6_region_261 (Nat.le_of_ble_eq_true rfl) (Or.inl rfl) (by omega) hM1.1 rfl (s6_at hN hM1) ?_
    rw [ed]
    refine ax_cvi1 dX6_region_27 ln_X6_region_273 (Nat.le_of_ble_eq_true rfl) (Or.inl rfl) (by omega) hM1.1 rfl (s6_mark hN hM1 hK hl hon hF (fun j hj => Or.inl (iF j hj)) (fun a b ha h1 => by rw [iF a ha] at h1; exact absurd h1 (by decide)) (iF _ (by omega)) (s10.mv ((x1 130 (by decide)).trans (y0 130 (by decide))))) (fun r g2 hq => ?_)
    obtain ⟨n, N, hv2, hn, hM2, hN2, hE2, hs2, x2⟩ := hq
    cases hv2
    exact ax_iret dX6_region_30 rfl ⟨n, N, F, rfl, iF, hn, hE2, hM2, ⟨N, hN2⟩, hs2, fun a a1 a2 a3 => (x2 a (by simp; omega)).trans ((x1 a (by simp; omega)).trans (y0 a a1))⟩
  · exfalso
    omega
end MA
