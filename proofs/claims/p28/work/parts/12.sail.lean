/-! the sail of the class: its small methods -/
section SL
variable {NC b : Nat} {h : hp} {K : Nat → Nat}
theorem sp_middle (hS : SA NC h b K) (hK : KI K): Cl NC M_X3_middle [.ref b] h (fun v h1 => v = .int (I ((K 0 / 2 : Nat) : Int)) ∧ h1 = h) := by
  have k0 := hK.1
  refine ax_aload_n dX3_middle_0 rfl ?_
  refine ax_getf dX3_middle_1 ck3 fl_X3_43 (by decide) hS.n0 hS.o rfl ?_
  refine ax_iconst dX3_middle_4 ?_
  refine ax_idiv dX3_middle_5 (by omega) (by omega) ?_
  exact ax_iret dX3_middle_6 rfl ⟨iq (by omega), rfl⟩
theorem sp_firstX (hS : SA NC h b K) (hK : KI K) {y : Nat} (hy : y < 12) : Cl NC M_X3_firstX [.ref b, .int (I (y : Int))] h (fun v h1 => v = .int (I (((K 0 / 2 : Nat) : Int) - K (6 + y))) ∧ h1 = h) := by
  refine ax_aload_n dX3_firstX_0 rfl ?_
  refine ax_cviP0 dX3_firstX_1 ln_X3_firstX_74 (Nat.le_of_ble_eq_true rfl) (Or.inl rfl) hS.n0 hS.o rfl (sp_middle hS hK) ?_
  refine ax_aload_n dX3_firstX_4 rfl ?_
  refine ax_getf dX3_firstX_5 ck3 fl_X3_9 (by decide) hS.n0 hS.o rfl ?_
  refine ax_iload_n dX3_firstX_8 rfl ?_
  refine ax_ialr (j := y) (w := (K (6 + y) : Int)) dX3_firstX_9 (hS.n 1 (by omega)) hS.re rfl (by omega) (by decide) rfl ?_
  refine ax_isub dX3_firstX_10 ?_
  exact ax_iret dX3_firstX_11 rfl ⟨rfl, rfl⟩
theorem sp_lastX (hS : SA NC h b K) (hK : KI K) {y : Nat} (hy : y < 12) : Cl NC M_X3_lastX [.ref b, .int (I (y : Int))] h (fun v h1 => v = .int (I (((K 0 / 2 : Nat) : Int) + K (6 + y))) ∧ h1 = h) := by
  refine ax_aload_n dX3_lastX_0 rfl ?_
  refine ax_cviP0 dX3_lastX_1 ln_X3_lastX_74 (Nat.le_of_ble_eq_true rfl) (Or.inl rfl) hS.n0 hS.o rfl (sp_middle hS hK) ?_
  refine ax_aload_n dX3_lastX_4 rfl ?_
  refine ax_getf dX3_lastX_5 ck3 fl_X3_9 (by decide) hS.n0 hS.o rfl ?_
  refine ax_iload_n dX3_lastX_8 rfl ?_
  refine ax_ialr (j := y) (w := (K (6 + y) : Int)) dX3_lastX_9 (hS.n 1 (by omega)) hS.re rfl (by omega) (by decide) rfl ?_
  refine ax_iadd dX3_lastX_10 ?_
  exact ax_iret dX3_lastX_11 rfl ⟨rfl, rfl⟩
end SL
