/-! the class: what is required, and load -/
section CP
variable {NC : Nat} {h : hp} {r T : Nat → Int} {K : Nat → Nat} {H : Nat → Nat → Nat} {d n : Nat} {Q : qt}
theorem sp_range {x lo hi : Int} (gx : -2147483648 ≤ x ∧ x < 2147483648) (gl : -2147483648 ≤ lo ∧ lo < 2147483648) (gh : -2147483648 ≤ hi ∧ hi < 2147483648) (hx : lo ≤ x ∧ x ≤ hi) : Cl NC M_X5_requireRange [.int (I x), .int (I lo), .int (I hi)] h (fun v h1 => v = .null ∧ h1 = h) := by
  refine ax_iload_n dX5_requireRange_0 rfl ?_
  refine ax_iload_n dX5_requireRange_1 rfl ?_
  refine ax_icmp_lt (tgt := 10) dX5_requireRange_2 (by decide) gx gl (fun c2 => ?_) (fun c2 => ?_)
  · exfalso
    omega
  · refine ax_iload_n dX5_requireRange_5 rfl ?_
    refine ax_iload_n dX5_requireRange_6 rfl ?_
    refine ax_icmp_le (tgt := 20) dX5_requireRange_7 (by decide) gx gh (fun c7 => ?_) (fun c7 => ?_)
    · exact ax_vret dX5_requireRange_20 rfl ⟨rfl, rfl⟩
    · exfalso
      omega
theorem sx_range {x lo hi : Int} (gx : -2147483648 ≤ x ∧ x < 2147483648) (gl : -2147483648 ≤ lo ∧ lo < 2147483648) (gh : -2147483648 ≤ hi ∧ hi < 2147483648) (hx : ¬ (lo ≤ x ∧ x ≤ hi)) : Ct NC "java/lang/IllegalArgumentException" M_X5_requireRange [.int (I x), .int (I lo), .int (I hi)] h (fun _ h1 => h1 = h) := by
  refine ax_iload_n dX5_requireRange_0 rfl ?_
  refine ax_iload_n dX5_requireRange_1 rfl ?_
  refine ax_icmp_lt (tgt := 10) dX5_requireRange_2 (by decide) gx gl (fun c2 => ?_) (fun c2 => ?_)
  · exact ex_thr (by decide) (by decide) (by decide) rfl
  · refine ax_iload_n dX5_requireRange_5 rfl ?_
    refine ax_iload_n dX5_requireRange_6 rfl ?_
    refine ax_icmp_le (tgt := 20) dX5_requireRange_7 (by decide) gx gh (fun c7 => ?_) (fun c7 => ?_)
    · exfalso
      omega
    · exact ex_thr (by decide) (by decide) (by decide) rfl
theorem sp_cell (hN : 112 ≤ NC) {e : Int} (hW : KO h e) (hS : SA NC h 1 K) (hK : KI K) {x y : Int} (gx : -2147483648 ≤ x ∧ x < 2147483648) (gy : -2147483648 ≤ y ∧ y < 2147483648) (ho : onZ K x y = true) : Cl NC M_X5_requireCell [.ref 0, .int (I x), .int (I y)] h (fun v h1 => v = .null ∧ h1 = h) := by
  refine ax_aload_n dX5_requireCell_0 rfl ?_
  refine ax_getf dX5_requireCell_1 ck5 fl_X5_12 (by decide) (by omega) hW rfl ?_
  refine ax_iload_n dX5_requireCell_4 rfl ?_
  refine ax_iload_n dX5_requireCell_5 rfl ?_
  refine ax_cviP2 dX5_requireCell_6 ln_X5_requireCell_208 (Nat.le_of_ble_eq_true rfl) (Or.inr rfl) hS.n0 hS.o rfl (sp_holds hS hK gx gy) ?_
  refine ax_if_ne (tgt := 22) dX5_requireCell_9 (by decide) (by split <;> omega) (fun c9 => ?_) (fun c9 => ?_)
  · exact ax_vret dX5_requireCell_22 rfl ⟨rfl, rfl⟩
  · exfalso
    rw [if_pos ho] at c9
    omega
theorem sx_cell (hN : 112 ≤ NC) {e : Int} (hW : KO h e) (hS : SA NC h 1 K) (hK : KI K) {x y : Int} (gx : -2147483648 ≤ x ∧ x < 2147483648) (gy : -2147483648 ≤ y ∧ y < 2147483648) (ho : ¬ onZ K x y = true) : Ct NC "java/lang/IndexOutOfBoundsException" M_X5_requireCell [.ref 0, .int (I x), .int (I y)] h (fun _ h1 => h1 = h) := by
  refine ax_aload_n dX5_requireCell_0 rfl ?_
  refine ax_getf dX5_requireCell_1 ck5 fl_X5_12 (by decide) (by omega) hW rfl ?_
  refine ax_iload_n dX5_requireCell_4 rfl ?_
  refine ax_iload_n dX5_requireCell_5 rfl ?_
  refine ax_cviP2 dX5_requireCell_6 ln_X5_requireCell_208 (Nat.le_of_ble_eq_true rfl) (Or.inr rfl) hS.n0 hS.o rfl (sp_holds hS hK gx gy) ?_
  refine ax_if_ne (tgt := 22) dX5_requireCell_9 (by decide) (by split <;> omega) (fun c9 => ?_) (fun c9 => ?_)
  · exfalso
    rw [if_neg ho] at c9
    exact c9 rfl
  · exact ex_thr (by decide) (by decide) (by decide) rfl
theorem sp_reqPat (hN : 112 ≤ NC) {e : Int} (hW : KO h e) (hS : SA NC h 1 K) (hK : KI K) {x : Int} (gx : -2147483648 ≤ x ∧ x < 2147483648) (hx : 0 ≤ x ∧ x < (K 5 : Int)) : Cl NC M_X5_requirePattern [.ref 0, .int (I x)] h (fun v h1 => v = .null ∧ h1 = h) := by
  have k0 := hK.1
  refine ax_iload_n dX5_requirePattern_0 rfl ?_
  refine ax_if_lt (tgt := 15) dX5_requirePattern_1 (by decide) gx (fun c1 => ?_) (fun c1 => ?_)
  · exfalso
    omega
  · refine ax_iload_n dX5_requirePattern_4 rfl ?_
    refine ax_aload_n dX5_requirePattern_5 rfl ?_
    refine ax_getf dX5_requirePattern_6 ck5 fl_X5_12 (by decide) (by omega) hW rfl ?_
    refine ax_getf dX5_requirePattern_9 ck3 fl_X5_111 (by decide) hS.n0 hS.o rfl ?_
    refine ax_icmp_lt (tgt := 25) dX5_requirePattern_12 (by decide) gx (by omega) (fun c12 => ?_) (fun c12 => ?_)
    · exact ax_vret dX5_requirePattern_25 rfl ⟨rfl, rfl⟩
    · exfalso
      omega
theorem sx_reqPat (hN : 112 ≤ NC) {e : Int} (hW : KO h e) (hS : SA NC h 1 K) (hK : KI K) {x : Int} (gx : -2147483648 ≤ x ∧ x < 2147483648) (hx : ¬ (0 ≤ x ∧ x < (K 5 : Int))) : Ct NC "java/lang/IndexOutOfBoundsException" M_X5_requirePattern [.ref 0, .int (I x)] h (fun _ h1 => h1 = h) := by
  have k0 := hK.1
  refine ax_iload_n dX5_requirePattern_0 rfl ?_
  refine ax_if_lt (tgt := 15) dX5_requirePattern_1 (by decide) gx (fun c1 => ?_) (fun c1 => ?_)
  · exact ex_thr (by decide) (by decide) (by decide) rfl
  · refine ax_iload_n dX5_requirePattern_4 rfl ?_
    refine ax_aload_n dX5_requirePattern_5 rfl ?_
    refine ax_getf dX5_requirePattern_6 ck5 fl_X5_12 (by decide) (by omega) hW rfl ?_
    refine ax_getf dX5_requirePattern_9 ck3 fl_X5_111 (by decide) hS.n0 hS.o rfl ?_
    refine ax_icmp_lt (tgt := 25) dX5_requirePattern_12 (by decide) gx (by omega) (fun c12 => ?_) (fun c12 => ?_)
    · exfalso
      omega
    · exact ex_thr (by decide) (by decide) (by decide) rfl
end CP
