/-! table switches; the class: state, cell, pattern -/
section TS
variable {NC : Nat} {b : Option String} {M : mt} {pc : Nat} {L S : List Value} {h : hp} {Q : qt}
theorem ax_tabI {dflt lo hi : Int} {offs : Array Int} {len : Nat} {z off : Int} {tgt : Nat} (hd : decode M.2.1 pc = .ok (.tableswitch dflt lo hi offs, len)) (hz : -2147483648 ≤ z ∧ z < 2147483648) (h1 : lo ≤ z ∧ z ≤ hi) (ho : offs[(z - lo).toNat]? = some off) (ht : (pc : Int) + off = (tgt : Int)) (k : Ex NC b M tgt L S h Q) : Ex NC b M pc L (.int (I z) :: S) h Q :=
  ex_tabI hd (by rw [I_toInt hz]; omega) (by rw [I_toInt hz]; omega) (by rw [I_toInt hz]; exact ho) ht k
theorem ax_tabO {dflt lo hi : Int} {offs : Array Int} {len : Nat} {z : Int} {tgt : Nat} (hd : decode M.2.1 pc = .ok (.tableswitch dflt lo hi offs, len)) (hz : -2147483648 ≤ z ∧ z < 2147483648) (h1 : z < lo ∨ hi < z) (ht : (pc : Int) + dflt = (tgt : Int)) (k : Ex NC b M tgt L S h Q) : Ex NC b M pc L (.int (I z) :: S) h Q :=
  ex_tabO hd (by rw [I_toInt hz]; exact h1) ht k
end TS
def stN (K : Nat → Nat) (w : Nat) : Int := if w = 0 then (K 0 : Int) else if w = 1 then (K 1 : Int) else if w = 2 then (K 2 : Int) else if w = 3 then allC K else if w = 4 then sprC K else if w = 5 then cntC K 0 else if w = 6 then wetC K else if w = 7 then sidW K (-1) else if w = 8 then sidW K 1 else if w = 9 then balW K else if w = 10 then sidW K (-1) + sidW K 0 + sidW K 1 else if w = 11 then (K 5 : Int) else (grtW K : Int)
def celN (K : Nat → Nat) (i w : Nat) : Int := if w = 0 then (K (74 + i) : Int) else if w = 1 then (K (254 + i) : Int) else if w = 2 then (K (434 + i) : Int) else if w = 3 then (wgN K i : Int) else (mirN K i : Int)
def ptnN (K : Nat → Nat) (p w : Nat) : Int := if w = 0 then (K (614 + 44 * p) : Int) else if w = 1 then (K (615 + 44 * p) : Int) else pntC K p
section CB
variable {NC : Nat} {h : hp} {K KS : Nat → Nat} {H : Nat → Nat → Nat} {d n : Nat} {e : Int} {Q : qt}
theorem sp_state (hN : 112 ≤ NC) (hW : KO h e) (hS : SA NC h 1 K) (hK : KI K) {w : Nat} (hw : w ≤ 12) : Cl NC M_X5_state [.ref 0, .int (I (w : Int))] h (fun v h1 => v = .int (I (stN K w)) ∧ h1 = h) := by
  rcases (by omega : w = 0 ∨ w = 1 ∨ w = 2 ∨ w = 3 ∨ w = 4 ∨ w = 5 ∨ w = 6 ∨ w = 7 ∨ w = 8 ∨ w = 9 ∨ w = 10 ∨ w = 11 ∨ w = 12) with rfl | rfl | rfl | rfl | rfl | rfl | rfl | rfl | rfl | rfl | rfl | rfl | rfl
  · refine ax_iload_n dX5_state_0 rfl ?_
    refine ax_tabI (tgt := 68) dX5_state_1 (by omega) (by omega) rfl (by decide) ?_
    refine ax_aload_n dX5_state_68 rfl ?_
    refine ax_getf dX5_state_69 ck5 fl_X5_12 (by decide) (by omega) hW rfl ?_
    refine ax_getf dX5_state_72 ck3 fl_X5_80 (by decide) hS.n0 hS.o rfl ?_
    exact ax_iret dX5_state_75 rfl ⟨rfl, rfl⟩
  · refine ax_iload_n dX5_state_0 rfl ?_
    refine ax_tabI (tgt := 76) dX5_state_1 (by omega) (by omega) rfl (by decide) ?_
    refine ax_aload_n dX5_state_76 rfl ?_
    refine ax_getf dX5_state_77 ck5 fl_X5_12 (by decide) (by omega) hW rfl ?_
    refine ax_getf dX5_state_80 ck3 fl_X5_83 (by decide) hS.n0 hS.o rfl ?_
    exact ax_iret dX5_state_83 rfl ⟨rfl, rfl⟩
  · refine ax_iload_n dX5_state_0 rfl ?_
    refine ax_tabI (tgt := 84) dX5_state_1 (by omega) (by omega) rfl (by decide) ?_
    refine ax_aload_n dX5_state_84 rfl ?_
    refine ax_getf dX5_state_85 ck5 fl_X5_12 (by decide) (by omega) hW rfl ?_
    refine ax_getf dX5_state_88 ck3 fl_X5_86 (by decide) hS.n0 hS.o rfl ?_
    exact ax_iret dX5_state_91 rfl ⟨rfl, rfl⟩
  · refine ax_iload_n dX5_state_0 rfl ?_
    refine ax_tabI (tgt := 92) dX5_state_1 (by omega) (by omega) rfl (by decide) ?_
    refine ax_aload_n dX5_state_92 rfl ?_
    refine ax_getf dX5_state_93 ck5 fl_X5_12 (by decide) (by omega) hW rfl ?_
    refine ax_cviP0 dX5_state_96 ln_X5_state_76 (Nat.le_of_ble_eq_true rfl) (Or.inl rfl) hS.n0 hS.o rfl (sp_allCells hS hK) ?_
    exact ax_iret dX5_state_99 rfl ⟨rfl, rfl⟩
  · refine ax_iload_n dX5_state_0 rfl ?_
    refine ax_tabI (tgt := 100) dX5_state_1 (by omega) (by omega) rfl (by decide) ?_
    refine ax_aload_n dX5_state_100 rfl ?_
    refine ax_getf dX5_state_101 ck5 fl_X5_12 (by decide) (by omega) hW rfl ?_
    refine ax_cviP0 dX5_state_104 ln_X5_state_89 (Nat.le_of_ble_eq_true rfl) (Or.inl rfl) hS.n0 hS.o rfl (sp_cellsWithSpars hS hK) ?_
    exact ax_iret dX5_state_107 rfl ⟨rfl, rfl⟩
  · refine ax_iload_n dX5_state_0 rfl ?_
    refine ax_tabI (tgt := 108) dX5_state_1 (by omega) (by omega) rfl (by decide) ?_
    refine ax_aload_n dX5_state_108 rfl ?_
    refine ax_getf dX5_state_109 ck5 fl_X5_12 (by decide) (by omega) hW rfl ?_
    refine ax_iconst dX5_state_112 ?_
    refine ax_cviP1 dX5_state_113 ln_X5_state_92 (Nat.le_of_ble_eq_true rfl) (Or.inl rfl) hS.n0 hS.o rfl (sp_cellsOfColour hS hK (c := 0) (by omega)) ?_
    exact ax_iret dX5_state_116 rfl ⟨rfl, rfl⟩
  · refine ax_iload_n dX5_state_0 rfl ?_
    refine ax_tabI (tgt := 117) dX5_state_1 (by omega) (by omega) rfl (by decide) ?_
    refine ax_aload_n dX5_state_117 rfl ?_
    refine ax_getf dX5_state_118 ck5 fl_X5_12 (by decide) (by omega) hW rfl ?_
    refine ax_cviP0 dX5_state_121 ln_X5_state_96 (Nat.le_of_ble_eq_true rfl) (Or.inl rfl) hS.n0 hS.o rfl (sp_wetCells hS hK) ?_
    exact ax_iret dX5_state_124 rfl ⟨rfl, rfl⟩
  · refine ax_iload_n dX5_state_0 rfl ?_
    refine ax_tabI (tgt := 125) dX5_state_1 (by omega) (by omega) rfl (by decide) ?_
    refine ax_aload_n dX5_state_125 rfl ?_
    refine ax_getf dX5_state_126 ck5 fl_X5_12 (by decide) (by omega) hW rfl ?_
    refine ax_cviP0 dX5_state_129 ln_X5_state_99 (Nat.le_of_ble_eq_true rfl) (Or.inl rfl) hS.n0 hS.o rfl (sp_leftWeight hS hK) ?_
    exact ax_iret dX5_state_132 rfl ⟨rfl, rfl⟩
  · refine ax_iload_n dX5_state_0 rfl ?_
    refine ax_tabI (tgt := 133) dX5_state_1 (by omega) (by omega) rfl (by decide) ?_
    refine ax_aload_n dX5_state_133 rfl ?_
    refine ax_getf dX5_state_134 ck5 fl_X5_12 (by decide) (by omega) hW rfl ?_
    refine ax_cviP0 dX5_state_137 ln_X5_state_102 (Nat.le_of_ble_eq_true rfl) (Or.inl rfl) hS.n0 hS.o rfl (sp_rightWeight hS hK) ?_
    exact ax_iret dX5_state_140 rfl ⟨rfl, rfl⟩
  · refine ax_iload_n dX5_state_0 rfl ?_
    refine ax_tabI (tgt := 141) dX5_state_1 (by omega) (by omega) rfl (by decide) ?_
    refine ax_aload_n dX5_state_141 rfl ?_
    refine ax_getf dX5_state_142 ck5 fl_X5_12 (by decide) (by omega) hW rfl ?_
    refine ax_cviP0 dX5_state_145 ln_X5_state_105 (Nat.le_of_ble_eq_true rfl) (Or.inl rfl) hS.n0 hS.o rfl (sp_balance hS hK) ?_
    exact ax_iret dX5_state_148 rfl ⟨rfl, rfl⟩
  · refine ax_iload_n dX5_state_0 rfl ?_
    refine ax_tabI (tgt := 149) dX5_state_1 (by omega) (by omega) rfl (by decide) ?_
    refine ax_aload_n dX5_state_149 rfl ?_
    refine ax_getf dX5_state_150 ck5 fl_X5_12 (by decide) (by omega) hW rfl ?_
    refine ax_cviP0 dX5_state_153 ln_X5_state_108 (Nat.le_of_ble_eq_true rfl) (Or.inl rfl) hS.n0 hS.o rfl (sp_wholeWeight hS hK) ?_
    exact ax_iret dX5_state_156 rfl ⟨rfl, rfl⟩
  · refine ax_iload_n dX5_state_0 rfl ?_
    refine ax_tabI (tgt := 157) dX5_state_1 (by omega) (by omega) rfl (by decide) ?_
    refine ax_aload_n dX5_state_157 rfl ?_
    refine ax_getf dX5_state_158 ck5 fl_X5_12 (by decide) (by omega) hW rfl ?_
    refine ax_getf dX5_state_161 ck3 fl_X5_111 (by decide) hS.n0 hS.o rfl ?_
    exact ax_iret dX5_state_164 rfl ⟨rfl, rfl⟩
  · refine ax_iload_n dX5_state_0 rfl ?_
    refine ax_tabI (tgt := 165) dX5_state_1 (by omega) (by omega) rfl (by decide) ?_
    refine ax_aload_n dX5_state_165 rfl ?_
    refine ax_getf dX5_state_166 ck5 fl_X5_12 (by decide) (by omega) hW rfl ?_
    refine ax_cviP0 dX5_state_169 ln_X5_state_114 (Nat.le_of_ble_eq_true rfl) (Or.inl rfl) hS.n0 hS.o rfl (sp_greatestWetness hS hK) ?_
    exact ax_iret dX5_state_172 rfl ⟨rfl, rfl⟩
theorem sx_state (hN : 112 ≤ NC) {a : Int} (ga : -2147483648 ≤ a ∧ a < 2147483648) (hx : ¬ (0 ≤ a ∧ a ≤ 12)) : Ct NC "java/lang/IllegalArgumentException" M_X5_state [.ref 0, .int (I a)] h (fun _ h1 => h1 = h) := by
  refine ax_iload_n dX5_state_0 rfl ?_
  refine ax_tabO (tgt := 173) dX5_state_1 ga (by omega) (by decide) ?_
  exact ex_thr (by decide) (by decide) (by decide) rfl
theorem sp_cellQ (hN : 112 ≤ NC) (hW : KO h e) (hS : SA NC h 1 K) (hK : KI K) {x : Int} (gx : -2147483648 ≤ x ∧ x < 2147483648) {y : Int} (gy : -2147483648 ≤ y ∧ y < 2147483648) {w : Nat} (hw : w ≤ 4) (ho : onZ K x y = true) : Cl NC M_X5_cell [.ref 0, .int (I x), .int (I y), .int (I (w : Int))] h (fun v h1 => v = .int (I (celN K (y.toNat * K 0 + x.toNat) w)) ∧ h1 = h) := by
  obtain ⟨u, v, rfl, rfl, hu, hv, hl, n0, -⟩ := onZ_nat hK ho
  have ed : ((v : Int) * (K 0 : Int) + (u : Int)) = ((v * K 0 + u : Nat) : Int) := by push_cast; omega
  rw [Int.toNat_natCast, Int.toNat_natCast]
  rcases (by omega : w = 0 ∨ w = 1 ∨ w = 2 ∨ w = 3 ∨ w = 4) with rfl | rfl | rfl | rfl | rfl
  · refine ax_aload_n dX5_cell_0 rfl ?_
    refine ax_iload_n dX5_cell_1 rfl ?_
    refine ax_iload_n dX5_cell_2 rfl ?_
    refine ax_cvvP2 dX5_cell_3 ln_X5_cell_124 (Nat.le_of_ble_eq_true rfl) rfl (by omega) hW rfl (sp_cell hN hW hS hK gx gy ho) ?_
    refine ax_aload_n dX5_cell_6 rfl ?_
    refine ax_getf dX5_cell_7 ck5 fl_X5_12 (by decide) (by omega) hW rfl ?_
    refine ax_iload_n dX5_cell_10 rfl ?_
    refine ax_iload_n dX5_cell_11 rfl ?_
    refine ax_cviP2 dX5_cell_12 ln_X5_cell_128 (Nat.le_of_ble_eq_true rfl) (Or.inl rfl) hS.n0 hS.o rfl (sp_numberOf hS) ?_
    rw [ed]
    refine ax_istore dX5_cell_15 rfl (by decide) ?_
    refine ax_iload_n dX5_cell_17 rfl ?_
    refine ax_tabI (tgt := 52) dX5_cell_18 (by omega) (by omega) rfl (by decide) ?_
    refine ax_aload_n dX5_cell_52 rfl ?_
    refine ax_getf dX5_cell_53 ck5 fl_X5_12 (by decide) (by omega) hW rfl ?_
    refine ax_getf dX5_cell_56 ck3 fl_X5_132 (by decide) hS.n0 hS.o rfl ?_
    refine ax_iload dX5_cell_59 rfl ?_
    refine ax_ialr (j := (v * K 0 + u)) (w := (K (74 + (v * K 0 + u)) : Int)) dX5_cell_61 (hS.n 7 (by omega)) hS.co (by omega) (by omega) (by decide) rfl ?_
    exact ax_iret dX5_cell_62 rfl ⟨rfl, rfl⟩
  · refine ax_aload_n dX5_cell_0 rfl ?_
    refine ax_iload_n dX5_cell_1 rfl ?_
    refine ax_iload_n dX5_cell_2 rfl ?_
    refine ax_cvvP2 dX5_cell_3 ln_X5_cell_124 (Nat.le_of_ble_eq_true rfl) rfl (by omega) hW rfl (sp_cell hN hW hS hK gx gy ho) ?_
    refine ax_aload_n dX5_cell_6 rfl ?_
    refine ax_getf dX5_cell_7 ck5 fl_X5_12 (by decide) (by omega) hW rfl ?_
    refine ax_iload_n dX5_cell_10 rfl ?_
    refine ax_iload_n dX5_cell_11 rfl ?_
    refine ax_cviP2 dX5_cell_12 ln_X5_cell_128 (Nat.le_of_ble_eq_true rfl) (Or.inl rfl) hS.n0 hS.o rfl (sp_numberOf hS) ?_
    rw [ed]
    refine ax_istore dX5_cell_15 rfl (by decide) ?_
    refine ax_iload_n dX5_cell_17 rfl ?_
    refine ax_tabI (tgt := 63) dX5_cell_18 (by omega) (by omega) rfl (by decide) ?_
    refine ax_aload_n dX5_cell_63 rfl ?_
    refine ax_getf dX5_cell_64 ck5 fl_X5_12 (by decide) (by omega) hW rfl ?_
    refine ax_getf dX5_cell_67 ck3 fl_X5_136 (by decide) hS.n0 hS.o rfl ?_
    refine ax_iload dX5_cell_70 rfl ?_
    refine ax_ialr (j := (v * K 0 + u)) (w := (K (254 + (v * K 0 + u)) : Int)) dX5_cell_72 (hS.n 8 (by omega)) hS.we (by omega) (by omega) (by decide) rfl ?_
    exact ax_iret dX5_cell_73 rfl ⟨rfl, rfl⟩
  · refine ax_aload_n dX5_cell_0 rfl ?_
    refine ax_iload_n dX5_cell_1 rfl ?_
    refine ax_iload_n dX5_cell_2 rfl ?_
    refine ax_cvvP2 dX5_cell_3 ln_X5_cell_124 (Nat.le_of_ble_eq_true rfl) rfl (by omega) hW rfl (sp_cell hN hW hS hK gx gy ho) ?_
    refine ax_aload_n dX5_cell_6 rfl ?_
    refine ax_getf dX5_cell_7 ck5 fl_X5_12 (by decide) (by omega) hW rfl ?_
    refine ax_iload_n dX5_cell_10 rfl ?_
    refine ax_iload_n dX5_cell_11 rfl ?_
    refine ax_cviP2 dX5_cell_12 ln_X5_cell_128 (Nat.le_of_ble_eq_true rfl) (Or.inl rfl) hS.n0 hS.o rfl (sp_numberOf hS) ?_
    rw [ed]
    refine ax_istore dX5_cell_15 rfl (by decide) ?_
    refine ax_iload_n dX5_cell_17 rfl ?_
    refine ax_tabI (tgt := 74) dX5_cell_18 (by omega) (by omega) rfl (by decide) ?_
    refine ax_aload_n dX5_cell_74 rfl ?_
    refine ax_getf dX5_cell_75 ck5 fl_X5_12 (by decide) (by omega) hW rfl ?_
    refine ax_getf dX5_cell_78 ck3 fl_X5_139 (by decide) hS.n0 hS.o rfl ?_
    refine ax_iload dX5_cell_81 rfl ?_
    refine ax_ialr (j := (v * K 0 + u)) (w := (K (434 + (v * K 0 + u)) : Int)) dX5_cell_83 (hS.n 9 (by omega)) hS.sp (by omega) (by omega) (by decide) rfl ?_
    exact ax_iret dX5_cell_84 rfl ⟨rfl, rfl⟩
  · refine ax_aload_n dX5_cell_0 rfl ?_
    refine ax_iload_n dX5_cell_1 rfl ?_
    refine ax_iload_n dX5_cell_2 rfl ?_
    refine ax_cvvP2 dX5_cell_3 ln_X5_cell_124 (Nat.le_of_ble_eq_true rfl) rfl (by omega) hW rfl (sp_cell hN hW hS hK gx gy ho) ?_
    refine ax_aload_n dX5_cell_6 rfl ?_
    refine ax_getf dX5_cell_7 ck5 fl_X5_12 (by decide) (by omega) hW rfl ?_
    refine ax_iload_n dX5_cell_10 rfl ?_
    refine ax_iload_n dX5_cell_11 rfl ?_
    refine ax_cviP2 dX5_cell_12 ln_X5_cell_128 (Nat.le_of_ble_eq_true rfl) (Or.inl rfl) hS.n0 hS.o rfl (sp_numberOf hS) ?_
    rw [ed]
    refine ax_istore dX5_cell_15 rfl (by decide) ?_
    refine ax_iload_n dX5_cell_17 rfl ?_
    refine ax_tabI (tgt := 85) dX5_cell_18 (by omega) (by omega) rfl (by decide) ?_
    refine ax_aload_n dX5_cell_85 rfl ?_
    refine ax_getf dX5_cell_86 ck5 fl_X5_12 (by decide) (by omega) hW rfl ?_
    refine ax_iload dX5_cell_89 rfl ?_
    refine ax_cviP1 dX5_cell_91 ln_X5_cell_142 (Nat.le_of_ble_eq_true rfl) (Or.inl rfl) hS.n0 hS.o rfl (sp_weightAt hS hK (i := v * K 0 + u) (by omega)) ?_
    exact ax_iret dX5_cell_94 rfl ⟨rfl, rfl⟩
  · refine ax_aload_n dX5_cell_0 rfl ?_
    refine ax_iload_n dX5_cell_1 rfl ?_
    refine ax_iload_n dX5_cell_2 rfl ?_
    refine ax_cvvP2 dX5_cell_3 ln_X5_cell_124 (Nat.le_of_ble_eq_true rfl) rfl (by omega) hW rfl (sp_cell hN hW hS hK gx gy ho) ?_
    refine ax_aload_n dX5_cell_6 rfl ?_
    refine ax_getf dX5_cell_7 ck5 fl_X5_12 (by decide) (by omega) hW rfl ?_
    refine ax_iload_n dX5_cell_10 rfl ?_
    refine ax_iload_n dX5_cell_11 rfl ?_
    refine ax_cviP2 dX5_cell_12 ln_X5_cell_128 (Nat.le_of_ble_eq_true rfl) (Or.inl rfl) hS.n0 hS.o rfl (sp_numberOf hS) ?_
    rw [ed]
    refine ax_istore dX5_cell_15 rfl (by decide) ?_
    refine ax_iload_n dX5_cell_17 rfl ?_
    refine ax_tabI (tgt := 95) dX5_cell_18 (by omega) (by omega) rfl (by decide) ?_
    refine ax_aload_n dX5_cell_95 rfl ?_
    refine ax_getf dX5_cell_96 ck5 fl_X5_12 (by decide) (by omega) hW rfl ?_
    refine ax_aload_n dX5_cell_99 rfl ?_
    refine ax_getf dX5_cell_100 ck5 fl_X5_12 (by decide) (by omega) hW rfl ?_
    refine ax_iload_n dX5_cell_103 rfl ?_
    refine ax_cviP1 dX5_cell_104 ln_X5_cell_145 (Nat.le_of_ble_eq_true rfl) (Or.inl rfl) hS.n0 hS.o rfl (sp_mirrorX hS) ?_
    refine ax_iload_n dX5_cell_107 rfl ?_
    refine ax_cviP2 dX5_cell_108 ln_X5_cell_128 (Nat.le_of_ble_eq_true rfl) (Or.inl rfl) hS.n0 hS.o rfl (sp_numberOf hS) ?_
    exact ax_iret dX5_cell_111 rfl ⟨iq (by show _ = ((mirN K (v * K 0 + u) : Nat) : Int); rw [mir_at hu]; push_cast; omega), rfl⟩
theorem sx_cellQ1 (hN : 112 ≤ NC) (hW : KO h e) (hS : SA NC h 1 K) (hK : KI K) {x : Int} (gx : -2147483648 ≤ x ∧ x < 2147483648) {y : Int} (gy : -2147483648 ≤ y ∧ y < 2147483648) {z : Int} (ho : ¬ onZ K x y = true) : Ct NC "java/lang/IndexOutOfBoundsException" M_X5_cell [.ref 0, .int (I x), .int (I y), .int (I z)] h (fun _ h1 => h1 = h) := by
  refine ax_aload_n dX5_cell_0 rfl ?_
  refine ax_iload_n dX5_cell_1 rfl ?_
  refine ax_iload_n dX5_cell_2 rfl ?_
  exact ax_cvx2 dX5_cell_3 ln_X5_cell_124 (Nat.le_of_ble_eq_true rfl) rfl (by omega) hW rfl (sx_cell hN hW hS hK gx gy ho) (fun h1 q => q)
theorem sx_cellQ2 (hN : 112 ≤ NC) (hW : KO h e) (hS : SA NC h 1 K) (hK : KI K) {x : Int} (gx : -2147483648 ≤ x ∧ x < 2147483648) {y : Int} (gy : -2147483648 ≤ y ∧ y < 2147483648) {z : Int} (gz : -2147483648 ≤ z ∧ z < 2147483648) (ho : onZ K x y = true) (hz : ¬ (0 ≤ z ∧ z ≤ 4)) : Ct NC "java/lang/IllegalArgumentException" M_X5_cell [.ref 0, .int (I x), .int (I y), .int (I z)] h (fun _ h1 => h1 = h) := by
  refine ax_aload_n dX5_cell_0 rfl ?_
  refine ax_iload_n dX5_cell_1 rfl ?_
  refine ax_iload_n dX5_cell_2 rfl ?_
  refine ax_cvvP2 dX5_cell_3 ln_X5_cell_124 (Nat.le_of_ble_eq_true rfl) rfl (by omega) hW rfl (sp_cell hN hW hS hK gx gy ho) ?_
  refine ax_aload_n dX5_cell_6 rfl ?_
  refine ax_getf dX5_cell_7 ck5 fl_X5_12 (by decide) (by omega) hW rfl ?_
  refine ax_iload_n dX5_cell_10 rfl ?_
  refine ax_iload_n dX5_cell_11 rfl ?_
  refine ax_cviP2 dX5_cell_12 ln_X5_cell_128 (Nat.le_of_ble_eq_true rfl) (Or.inl rfl) hS.n0 hS.o rfl (sp_numberOf hS) ?_
  refine ax_istore dX5_cell_15 rfl (by decide) ?_
  refine ax_iload_n dX5_cell_17 rfl ?_
  refine ax_tabO (tgt := 112) dX5_cell_18 gz (by omega) (by decide) ?_
  exact ex_thr (by decide) (by decide) (by decide) rfl
theorem sp_pattern (hN : 112 ≤ NC) (hW : KO h e) (hS : SA NC h 1 K) (hK : KI K) {p w : Nat} (hp : p < K 5) (hw : w ≤ 2) : Cl NC M_X5_pattern [.ref 0, .int (I (p : Int)), .int (I (w : Int))] h (fun v h1 => v = .int (I (ptnN K p w)) ∧ h1 = h) := by
  have k0 := hK.1
  rcases (by omega : w = 0 ∨ w = 1 ∨ w = 2) with rfl | rfl | rfl
  · refine ax_aload_n dX5_pattern_0 rfl ?_
    refine ax_iload_n dX5_pattern_1 rfl ?_
    refine ax_cvvP1 dX5_pattern_2 ln_X5_pattern_187 (Nat.le_of_ble_eq_true rfl) rfl (by omega) hW rfl (sp_reqPat hN hW hS hK (by omega) (by omega)) ?_
    refine ax_iload_n dX5_pattern_5 rfl ?_
    refine ax_tabI (tgt := 32) dX5_pattern_6 (by omega) (by omega) rfl (by decide) ?_
    refine ax_aload_n dX5_pattern_32 rfl ?_
    refine ax_getf dX5_pattern_33 ck5 fl_X5_12 (by decide) (by omega) hW rfl ?_
    refine ax_getf dX5_pattern_36 ck3 fl_X5_190 (by decide) hS.n0 hS.o rfl ?_
    refine ax_iload_n dX5_pattern_39 rfl ?_
    refine ax_ialr (j := p) (w := (K (614 + 44 * p) : Int)) dX5_pattern_40 (hS.n 5 (by omega)) hS.pd (by omega) (by omega) (by decide) rfl ?_
    exact ax_iret dX5_pattern_41 rfl ⟨rfl, rfl⟩
  · refine ax_aload_n dX5_pattern_0 rfl ?_
    refine ax_iload_n dX5_pattern_1 rfl ?_
    refine ax_cvvP1 dX5_pattern_2 ln_X5_pattern_187 (Nat.le_of_ble_eq_true rfl) rfl (by omega) hW rfl (sp_reqPat hN hW hS hK (by omega) (by omega)) ?_
    refine ax_iload_n dX5_pattern_5 rfl ?_
    refine ax_tabI (tgt := 42) dX5_pattern_6 (by omega) (by omega) rfl (by decide) ?_
    refine ax_aload_n dX5_pattern_42 rfl ?_
    refine ax_getf dX5_pattern_43 ck5 fl_X5_12 (by decide) (by omega) hW rfl ?_
    refine ax_getf dX5_pattern_46 ck3 fl_X5_193 (by decide) hS.n0 hS.o rfl ?_
    refine ax_iload_n dX5_pattern_49 rfl ?_
    refine ax_ialr (j := p) (w := (K (615 + 44 * p) : Int)) dX5_pattern_50 (hS.n 4 (by omega)) hS.pl (by omega) (by omega) (by decide) rfl ?_
    exact ax_iret dX5_pattern_51 rfl ⟨rfl, rfl⟩
  · refine ax_aload_n dX5_pattern_0 rfl ?_
    refine ax_iload_n dX5_pattern_1 rfl ?_
    refine ax_cvvP1 dX5_pattern_2 ln_X5_pattern_187 (Nat.le_of_ble_eq_true rfl) rfl (by omega) hW rfl (sp_reqPat hN hW hS hK (by omega) (by omega)) ?_
    refine ax_iload_n dX5_pattern_5 rfl ?_
    refine ax_tabI (tgt := 52) dX5_pattern_6 (by omega) (by omega) rfl (by decide) ?_
    refine ax_aload_n dX5_pattern_52 rfl ?_
    refine ax_getf dX5_pattern_53 ck5 fl_X5_12 (by decide) (by omega) hW rfl ?_
    refine ax_iload_n dX5_pattern_56 rfl ?_
    refine ax_cviP1 dX5_pattern_57 ln_X5_pattern_196 (Nat.le_of_ble_eq_true rfl) (Or.inl rfl) hS.n0 hS.o rfl (sp_paintingDigits hS hK (p := p) (by omega)) ?_
    exact ax_iret dX5_pattern_60 rfl ⟨rfl, rfl⟩
theorem sx_pattern1 (hN : 112 ≤ NC) (hW : KO h e) (hS : SA NC h 1 K) (hK : KI K) {a : Int} (ga : -2147483648 ≤ a ∧ a < 2147483648) {z : Int} (hx : ¬ (0 ≤ a ∧ a < (K 5 : Int))) : Ct NC "java/lang/IndexOutOfBoundsException" M_X5_pattern [.ref 0, .int (I a), .int (I z)] h (fun _ h1 => h1 = h) := by
  refine ax_aload_n dX5_pattern_0 rfl ?_
  refine ax_iload_n dX5_pattern_1 rfl ?_
  exact ax_cvx1 dX5_pattern_2 ln_X5_pattern_187 (Nat.le_of_ble_eq_true rfl) rfl (by omega) hW rfl (sx_reqPat hN hW hS hK ga hx) (fun h1 q => q)
theorem sx_pattern2 (hN : 112 ≤ NC) (hW : KO h e) (hS : SA NC h 1 K) (hK : KI K) {a : Int} (ga : -2147483648 ≤ a ∧ a < 2147483648) {z : Int} (gz : -2147483648 ≤ z ∧ z < 2147483648) (ha : 0 ≤ a ∧ a < (K 5 : Int)) (hz : ¬ (0 ≤ z ∧ z ≤ 2)) : Ct NC "java/lang/IllegalArgumentException" M_X5_pattern [.ref 0, .int (I a), .int (I z)] h (fun _ h1 => h1 = h) := by
  refine ax_aload_n dX5_pattern_0 rfl ?_
  refine ax_iload_n dX5_pattern_1 rfl ?_
  refine ax_cvvP1 dX5_pattern_2 ln_X5_pattern_187 (Nat.le_of_ble_eq_true rfl) rfl (by omega) hW rfl (sp_reqPat hN hW hS hK ga ha) ?_
  refine ax_iload_n dX5_pattern_5 rfl ?_
  refine ax_tabO (tgt := 61) dX5_pattern_6 gz (by omega) (by decide) ?_
  exact ex_thr (by decide) (by decide) (by decide) rfl
end CB
