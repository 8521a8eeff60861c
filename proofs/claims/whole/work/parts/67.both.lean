/-! the reference: putBoth -/
theorem setC_lo {K : Nat → Nat} {i c w j : Nat} (hj : j < 74) : setC K i c w j = K j := by
  unfold setC; rw [up_ne (by omega), up_ne (by omega)]
theorem mirN_C {K : Nat → Nat} {i c w j : Nat} : mirN (setC K i c w) j = mirN K j := by
  unfold mirN; rw [setC_lo (by omega)]
def putB (K : Nat → Nat) (i c w : Nat) (mi : Bool) : Nat → Nat := if mi = true then setC (setC K i c w) (mirN K i) c w else setC K i c w
section MB
variable {NC : Nat} {h : hp} {s : Nat → Int} {K : Nat → Nat} {Q : qt}
theorem s6_putBoth (hN : 132 ≤ NC) (hM : MD h s K) (hK : KI K) {i c w : Nat} {mi : Bool} (hi : i < nC K) (hon : on K i = true) (hm : mirN K i < 180) (hc : c ≤ 6) (hw : w ≤ 9) : Cl NC M_X6_putBoth [.ref 112, .int (I (i : Int)), .int (I (c : Int)), .int (I (w : Int)), .int (I (if mi = true then 1 else 0))] h (fun _ h1 => MD h1 s (putB K i c w mi) ∧ EqX [114] h h1) := by
  have n0 := nC_le hK
  cases mi with
  | true =>
    show Ex NC none M_X6_putBoth 0 _ [] h (fun _ h1 => MD h1 s (setC (setC K i c w) (mirN K i) c w) ∧ EqX [114] h h1)
    refine ax_aload_n dX6_putBoth_0 rfl ?_
    refine ax_iload_n dX6_putBoth_1 rfl ?_
    refine ax_iload_n dX6_putBoth_2 rfl ?_
    refine ax_iload_n dX6_putBoth_3 rfl ?_
    refine ax_cvv3 dX6_putBoth_4 ln_X6_putBoth_295 (Nat.le_of_ble_eq_true rfl) rfl (by omega) hM.1 rfl (s6_put hN hM (by omega)) (fun g1 hq => ?_)
    obtain ⟨hM1, x1⟩ := hq
    refine ax_iload dX6_putBoth_7 rfl ?_
    refine ax_if_eq (tgt := 23) dX6_putBoth_9 (by decide) (by omega) (fun c9 => ?_) (fun c9 => ?_)
    · exfalso
      exact absurd c9 (by decide)
    · refine ax_aload_n dX6_putBoth_12 rfl ?_
      refine ax_aload_n dX6_putBoth_13 rfl ?_
      refine ax_iload_n dX6_putBoth_14 rfl ?_
      refine ax_cviP1 dX6_putBoth_15 ln_X6_putBoth_237 (Nat.le_of_ble_eq_true rfl) (Or.inl rfl) (by omega) hM1.1 rfl (s6_mirrorOf hN hM1 (hK.setC hi hon hc hw) (c := i) (by omega)) ?_
      rw [mirN_C]
      refine ax_iload_n dX6_putBoth_18 rfl ?_
      refine ax_iload_n dX6_putBoth_19 rfl ?_
      refine ax_cvv3 dX6_putBoth_20 ln_X6_putBoth_295 (Nat.le_of_ble_eq_true rfl) rfl (by omega) hM1.1 rfl (s6_put hN hM1 (i := mirN K i) (by omega)) (fun g2 hq => ?_)
      obtain ⟨hM2, x2⟩ := hq
      exact ax_vret dX6_putBoth_23 rfl ⟨hM2, x1.tr x2⟩
  | false =>
    show Ex NC none M_X6_putBoth 0 _ [] h (fun _ h1 => MD h1 s (setC K i c w) ∧ EqX [114] h h1)
    refine ax_aload_n dX6_putBoth_0 rfl ?_
    refine ax_iload_n dX6_putBoth_1 rfl ?_
    refine ax_iload_n dX6_putBoth_2 rfl ?_
    refine ax_iload_n dX6_putBoth_3 rfl ?_
    refine ax_cvv3 dX6_putBoth_4 ln_X6_putBoth_295 (Nat.le_of_ble_eq_true rfl) rfl (by omega) hM.1 rfl (s6_put hN hM (by omega)) (fun g1 hq => ?_)
    obtain ⟨hM1, x1⟩ := hq
    refine ax_iload dX6_putBoth_7 rfl ?_
    refine ax_if_eq (tgt := 23) dX6_putBoth_9 (by decide) (by omega) (fun c9 => ?_) (fun c9 => ?_)
    · exact ax_vret dX6_putBoth_23 rfl ⟨hM1, x1⟩
    · exfalso
      exact c9 rfl
end MB
