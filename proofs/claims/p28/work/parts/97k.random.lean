/-! RANDOM NUMBERS: any number below the bound -/
theorem ushr16 (x : Int32) : ∃ z : Nat, z < 65536 ∧ (x.toUInt32 >>> ((I 16).toUInt32 &&& Int32.toUInt32 31)).toInt32 = I (z : Int) := by
  refine ⟨(x.toUInt32 >>> ((I 16).toUInt32 &&& Int32.toUInt32 31)).toNat, ?_, ?_⟩
  · rw [show ((I 16).toUInt32 &&& Int32.toUInt32 31) = 16 by decide]
    rw [UInt32.toNat_shiftRight]
    have := x.toUInt32.toNat_lt
    rw [show (16 : UInt32).toNat % 32 = 16 by decide, Nat.shiftRight_eq_div_pow]
    omega
  · generalize (x.toUInt32 >>> ((I 16).toUInt32 &&& Int32.toUInt32 31)) = w
    rw [← I_nat]
    apply Int32.toBitVec_inj.mp
    show w.toBitVec = BitVec.ofNat 32 w.toNat
    apply BitVec.eq_of_toNat_eq
    rw [BitVec.toNat_ofNat]
    have := w.toNat_lt
    show w.toNat = w.toNat % 2 ^ 32
    omega
section RN
variable {ad : Nat → Nat} {sc : Nat × (Nat → Int32)} {u : hp} {h : hg} {Q : qg} {k w m p cl : Nat} {ce : Nat → Nat} {K : Nat → Nat} {c sl : Nat}
theorem c_sd1 : Cond.constant M_X8_below.1.cls 13 1103515245 ∈ gT := gT_mem 521 (by decide +kernel) (by decide +kernel)
theorem kr_below {r b : Nat} {s : Int32} (hr : h r = some (.inr (8, [.int s]))) (hb : 1 ≤ b ∧ b < 60000) : Gl ad sc c sl M_X8_below [.ref r, .int (I (b : Int))] u h (fun v u1 h1 => u1 = u ∧ (∃ z : Nat, z < b ∧ v = .int (I (z : Int))) ∧ ∃ s1 : Int32, h1 = up h r (.inr (8, [.int s1]))) := by
  refine bx_aload_n dX8_below_0 rfl ?_
  refine gx_ldcI c_sd1 dX8_below_1 ?_
  refine bx_aload_n dX8_below_3 rfl ?_
  refine bx_getf dX8_below_4 ck8 fg_KitePainterLaw_Random_7 (by decide) hr rfl ?_
  refine gx_imul dX8_below_7 ?_
  refine bx_sipush dX8_below_8 (by decide) ?_
  refine gx_iadd dX8_below_11 ?_
  refine bx_putf dX8_below_12 ck8 fg_KitePainterLaw_Random_7 (by decide) hr rfl ⟨rfl, rfl⟩ (Nat.le_of_ble_eq_true rfl) rfl ?_
  refine bx_aload_n dX8_below_15 rfl ?_
  refine bx_getf dX8_below_16 ck8 fg_KitePainterLaw_Random_7 (by decide) ug_eq rfl ?_
  refine bx_bipush dX8_below_19 (by decide) ?_
  obtain ⟨z, hz, ez⟩ := ushr16 _
  refine gx_iushr ez dX8_below_21 ?_
  refine bx_iload_n dX8_below_22 rfl ?_
  refine bx_irem dX8_below_23 (by omega) (by omega) ?_
  exact bx_iret dX8_below_24 rfl ⟨rfl, ⟨z % b, Nat.mod_lt _ (by omega), by rw [Int.natCast_emod]⟩, _, rfl⟩
theorem kr_init {r : Nat} {s : Int32} (hr : h r = some (.inr (8, df_8))) : Gl ad sc c sl M_X8_init [.ref r, .int s] u h (fun v u1 h1 => v = .null ∧ u1 = u ∧ h1 = up h r (.inr (8, [.int s]))) := by
  refine bx_aload_n dX8_init_0 rfl ?_
  refine gx_obj ln_X8_init_1 ⟨by decide, by decide⟩ (Nat.le_of_ble_eq_true rfl) dX8_init_1 ?_
  refine bx_aload_n dX8_init_4 rfl ?_
  refine gx_iload_n rfl rfl dX8_init_5 ?_
  refine bx_putf dX8_init_6 ck8 fg_KitePainterLaw_Random_7 (by decide) hr rfl ⟨rfl, rfl⟩ (Nat.le_of_ble_eq_true rfl) rfl ?_
  exact bx_vret dX8_init_9 rfl ⟨rfl, rfl, rfl⟩
end RN
