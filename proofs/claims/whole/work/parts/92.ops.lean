/-! each row of the script: both calls, and the same answer -/
section OPS
variable {Γ : en} {l : Launch} {St : State → Prop} {h : hp}
theorem op_state (hE : envOK Γ St) {adV : Nat → Nat} (hX : envX Γ St adV) (hl9 : l.stackTraces = false) (hLn : envL St) (hI : LI h) {a : Int} (ga : -2147483648 ≤ a ∧ a < 2147483648)  : OpW Γ l St M_L_state H_state M_X6_state [.int (I a)] h := by
  obtain ⟨K, H, d, T, e, s, r, fl, hLK, hA, hB, hO⟩ := hI
  have hK := hLK.1
  by_cases q : 0 ≤ a ∧ a ≤ 12
  · obtain ⟨a, rfl⟩ := Int.eq_ofNat_of_zero_le (show 0 ≤ a by omega)
    exact op_pure hLK hA hB hO (fun c ho => wr_state hE hX hl9 (by omega) hA.2.2.1 c ho) (sp_state (by omega) hA.2.2.1 hA.1 hK (w := a) (by omega)) (fun u hM => s6_state (by omega) hM hK (w := a) (by omega))
  · exact op_throw (z := 1) (by omega) hLK hA hB hO (wx_state1 hE hX hl9 hLn (by omega) hA.2.2.1 (sx_state (by omega) ga q)) (s6_stateT (by omega) hB.1 hK ga q)
theorem op_cell (hE : envOK Γ St) {adV : Nat → Nat} (hX : envX Γ St adV) (hl9 : l.stackTraces = false) (hLn : envL St) (hI : LI h) {x : Int} (gx : -2147483648 ≤ x ∧ x < 2147483648) {y : Int} (gy : -2147483648 ≤ y ∧ y < 2147483648) {a : Int} (ga : -2147483648 ≤ a ∧ a < 2147483648)  : OpW Γ l St M_L_cell H_cell M_X6_cell [.int (I x), .int (I y), .int (I a)] h := by
  obtain ⟨K, H, d, T, e, s, r, fl, hLK, hA, hB, hO⟩ := hI
  have hK := hLK.1
  by_cases ho : onZ K x y = true
  · by_cases q : 0 ≤ a ∧ a ≤ 4
    · obtain ⟨a, rfl⟩ := Int.eq_ofNat_of_zero_le (show 0 ≤ a by omega)
      exact op_pure hLK hA hB hO (fun c ho => wr_cell hE hX hl9 (by omega) hA.2.2.1 c ho) (sp_cellQ (by omega) hA.2.2.1 hA.1 hK gx gy (w := a) (by omega) ho) (fun u hM => s6_cell (by omega) hM hK gx gy (w := a) (by omega) ho)
    · exact op_throw (z := 2) (by omega) hLK hA hB hO (wx_cell2 hE hX hl9 hLn (by omega) hA.2.2.1 (sx_cellQ2 (by omega) hA.2.2.1 hA.1 hK gx gy ga ho q)) (s6_cellT2 (by omega) hB.1 hK gx gy ga ho q)
  · exact op_throw (z := 1) (by omega) hLK hA hB hO (wx_cell1 hE hX hl9 hLn (by omega) hA.2.2.1 (sx_cellQ1 (by omega) hA.2.2.1 hA.1 hK gx gy ho)) (s6_cellT1 (by omega) hB.1 hK gx gy ho)
theorem op_mix (hE : envOK Γ St) {adV : Nat → Nat} (hX : envX Γ St adV) (hl9 : l.stackTraces = false) (hLn : envL St) (hI : LI h) {a : Int} (ga : -2147483648 ≤ a ∧ a < 2147483648) {b : Int} (gb : -2147483648 ≤ b ∧ b < 2147483648)  : OpW Γ l St M_L_mix H_mix M_X6_mix [.int (I a), .int (I b)] h := by
  obtain ⟨K, H, d, T, e, s, r, fl, hLK, hA, hB, hO⟩ := hI
  have hK := hLK.1
  by_cases q : 1 ≤ a ∧ a ≤ 6 ∧ 1 ≤ b ∧ b ≤ 6
  · obtain ⟨a, rfl⟩ := Int.eq_ofNat_of_zero_le (show 0 ≤ a by omega)
    obtain ⟨b, rfl⟩ := Int.eq_ofNat_of_zero_le (show 0 ≤ b by omega)
    exact op_pure hLK hA hB hO (fun c ho => wr_mix hE hX hl9 (by omega) hA.2.2.1 c ho) (sp_mix (by omega) hA.2.2.1 hA.1 hK ga gb (by omega) (by omega)) (fun u hM => s6_mix (by omega) hM hK (a := a) (c := b) (by omega) (by omega))
  · exact op_throw (z := 1) (by omega) hLK hA hB hO (wx_mix1 hE hX hl9 hLn (by omega) hA.2.2.1 (sx_mix (by omega) ga gb q)) (s6_mixT (by omega) hB.1 hK ga gb q)
theorem op_count (hE : envOK Γ St) {adV : Nat → Nat} (hX : envX Γ St adV) (hl9 : l.stackTraces = false) (hLn : envL St) (hI : LI h) {a : Int} (ga : -2147483648 ≤ a ∧ a < 2147483648)  : OpW Γ l St M_L_count H_count M_X6_count [.int (I a)] h := by
  obtain ⟨K, H, d, T, e, s, r, fl, hLK, hA, hB, hO⟩ := hI
  have hK := hLK.1
  by_cases q : 0 ≤ a ∧ a ≤ 6
  · obtain ⟨a, rfl⟩ := Int.eq_ofNat_of_zero_le (show 0 ≤ a by omega)
    exact op_pure hLK hA hB hO (fun c ho => wr_count hE hX hl9 (by omega) hA.2.2.1 c ho) (sp_count (by omega) hA.2.2.1 hA.1 hK ga q) (fun u hM => s6_count (by omega) hM hK (a := a) (by omega))
  · exact op_throw (z := 1) (by omega) hLK hA hB hO (wx_count1 hE hX hl9 hLn (by omega) hA.2.2.1 (sx_count (by omega) ga q)) (s6_countT (by omega) hB.1 ga q)
theorem bl_at {K : Nat → Nat} {u v : Nat} (hu : u < K 0) : blC K (v * K 0 + u) = blN K u v := by
  unfold blC
  rw [Nat.mul_comm v, Nat.mul_add_mod, Nat.mod_eq_of_lt hu, Nat.mul_add_div (by omega), Nat.div_eq_of_lt hu, Nat.add_zero]
theorem op_bleeds (hE : envOK Γ St) {adV : Nat → Nat} (hX : envX Γ St adV) (hl9 : l.stackTraces = false) (hLn : envL St) (hI : LI h) {x : Int} (gx : -2147483648 ≤ x ∧ x < 2147483648) {y : Int} (gy : -2147483648 ≤ y ∧ y < 2147483648)  : OpW Γ l St M_L_bleeds H_bleeds M_X6_bleeds [.int (I x), .int (I y)] h := by
  obtain ⟨K, H, d, T, e, s, r, fl, hLK, hA, hB, hO⟩ := hI
  have hK := hLK.1
  by_cases ho : onZ K x y = true
  · obtain ⟨u, v, eu, ev, hu, -⟩ := onZ_nat hK ho
    refine op_pure hLK hA hB hO (fun c ho => wr_bleeds hE hX hl9 (by omega) hA.2.2.1 c ho) (sp_bleeds (by omega) hA.2.2.1 hA.1 hK gx gy ho) (fun w hM => ?_)
    have c6 := s6_bleeds (NC := 132) (by omega) hM hK gx gy ho
    subst eu
    subst ev
    rw [bl_at (show (u : Int).toNat < K 0 from hu)] at c6
    exact c6
  · exact op_throw (z := 1) (by omega) hLK hA hB hO (wx_bleeds1 hE hX hl9 hLn (by omega) hA.2.2.1 (sx_bleeds (by omega) hA.2.2.1 hA.1 hK gx gy ho)) (s6_bleedsT (by omega) hB.1 hK gx gy ho)
theorem op_evens (hE : envOK Γ St) {adV : Nat → Nat} (hX : envX Γ St adV) (hl9 : l.stackTraces = false) (hLn : envL St) (hI : LI h) {a : Int} (ga : -2147483648 ≤ a ∧ a < 2147483648)  : OpW Γ l St M_L_evens H_evens M_X6_evens [.int (I a)] h := by
  obtain ⟨K, H, d, T, e, s, r, fl, hLK, hA, hB, hO⟩ := hI
  have hK := hLK.1
  by_cases q : 0 ≤ a ∧ a ≤ 6
  · obtain ⟨a, rfl⟩ := Int.eq_ofNat_of_zero_le (show 0 ≤ a by omega)
    exact op_pure hLK hA hB hO (fun c ho => wr_evens hE hX hl9 (by omega) hA.2.2.1 c ho) (sp_evens (by omega) hA.2.2.1 hA.1 hK (a := a) (by omega)) (fun u hM => s6_evens (by omega) hM hK (a := a) (by omega))
  · exact op_throw (z := 1) (by omega) hLK hA hB hO (wx_evens1 hE hX hl9 hLn (by omega) hA.2.2.1 (sx_evens (by omega) ga q)) (s6_evensT (by omega) hB.1 hK ga q)
theorem op_pattern (hE : envOK Γ St) {adV : Nat → Nat} (hX : envX Γ St adV) (hl9 : l.stackTraces = false) (hLn : envL St) (hI : LI h) {a : Int} (ga : -2147483648 ≤ a ∧ a < 2147483648) {b : Int} (gb : -2147483648 ≤ b ∧ b < 2147483648)  : OpW Γ l St M_L_pattern H_pattern M_X6_pattern [.int (I a), .int (I b)] h := by
  obtain ⟨K, H, d, T, e, s, r, fl, hLK, hA, hB, hO⟩ := hI
  have hK := hLK.1
  by_cases q : 0 ≤ a ∧ a < (K 5 : Int)
  · by_cases q2 : 0 ≤ b ∧ b ≤ 2
    · obtain ⟨a, rfl⟩ := Int.eq_ofNat_of_zero_le (show 0 ≤ a by omega)
      obtain ⟨b, rfl⟩ := Int.eq_ofNat_of_zero_le (show 0 ≤ b by omega)
      exact op_pure hLK hA hB hO (fun c ho => wr_pattern hE hX hl9 (by omega) hA.2.2.1 c ho) (sp_pattern (by omega) hA.2.2.1 hA.1 hK (p := a) (w := b) (by omega) (by omega)) (fun u hM => s6_pattern (by omega) hM hK (p := a) (w := b) (by omega) (by omega))
    · exact op_throw (z := 2) (by omega) hLK hA hB hO (wx_pattern2 hE hX hl9 hLn (by omega) hA.2.2.1 (sx_pattern2 (by omega) hA.2.2.1 hA.1 hK ga gb q q2)) (s6_patternT2 (by omega) hB.1 hK ga gb q q2)
  · exact op_throw (z := 1) (by omega) hLK hA hB hO (wx_pattern1 hE hX hl9 hLn (by omega) hA.2.2.1 (sx_pattern1 (by omega) hA.2.2.1 hA.1 hK ga q)) (s6_patternT1 (by omega) hB.1 hK ga q)
theorem op_paint (hE : envOK Γ St) {adV : Nat → Nat} (hX : envX Γ St adV) (hl9 : l.stackTraces = false) (hLn : envL St) (hI : LI h) {x : Int} (gx : -2147483648 ≤ x ∧ x < 2147483648) {y : Int} (gy : -2147483648 ≤ y ∧ y < 2147483648) {c : Int} (gc : -2147483648 ≤ c ∧ c < 2147483648) {w : Int} (gw : -2147483648 ≤ w ∧ w < 2147483648) {mi : Bool} : OpW Γ l St M_L_paint H_paint M_X6_paint [.int (I x), .int (I y), .int (I c), .int (I w), .int (I (if mi = true then 1 else 0))] h := by
  obtain ⟨K, H, d, T, e, s, r, fl, hLK, hA, hB, hO⟩ := hI
  have hK := hLK.1
  by_cases ho : onZ K x y = true
  · by_cases q : 1 ≤ c ∧ c ≤ 6 ∧ 1 ≤ w ∧ w ≤ 9
    · obtain ⟨c, rfl⟩ := Int.eq_ofNat_of_zero_le (show 0 ≤ c by omega)
      obtain ⟨w, rfl⟩ := Int.eq_ofNat_of_zero_le (show 0 ≤ w by omega)
      obtain ⟨a1, ⟨KS, a2⟩, a3, a4, a5, a6, a7, a8, a9, ⟨n0, a10⟩, a11, a12, a13⟩ := id hA
      refine op_fine hO ⟨_, hB.1.1⟩ (fun c ho => wr_paint hE hX hl9 (by omega) hA.2.2.1 c ho) (sp_paint (by omega) hA.2.2.1 hA.1 hK a4 gx gy gc gw (mi := mi) ho (by omega) (by omega)) (fun v h1 q9 => ?_)
      obtain ⟨rfl, qS, qC, qf⟩ := q9
      have fr : ∀ a, (a < 1 ∨ 11 ≤ a) ∧ (a < 21 ∨ 103 ≤ a) → h1 a = h a := fun b hb => qf b hb.1 hb.2
      refine ⟨fun a ha => fr a (by omega), _, (putC K x y c w mi), psh K H, min (d + 1) 8, e, r, T, rfl, ⟨qS, ⟨KS, a2.eq (fun a h1 h2 => fr a (by omega))⟩, (fr 0 (by omega)).trans a3, qC, (fr 110 (by omega)).trans a5, a6.mv (fr 111 (by omega)), (fr 103 (by omega)).trans a7, a8.mv (fr 104 (by omega)), a9.mv (fr 105 (by omega)), ⟨n0, (fr 106 (by omega)).trans a10⟩, a11.mv (fr 107 (by omega)), a12.mv (fr 108 (by omega)), a13.mv (fr 109 (by omega))⟩, fun u hu => ?_⟩
      have hB1 : LB u s K H d T := hB.eq (fun a k1 k2 => (hu a (by omega)).trans (fr a (by omega)))
      obtain ⟨b1, b2, b3, b4, b5, b6, b7, b8, b9, b10, b11⟩ := hB1
      refine ⟨_, s6_paint (by omega) b1 hK b3 b2 gx gy (c := c) (w := w) (mi := mi) ho (by omega) (by omega), fun v2 u2 q8 => ?_⟩
      obtain ⟨rfl, pM, pH, pf⟩ := q8
      have gr : ∀ a, a ≠ 112 ∧ a ≠ 114 ∧ ¬ (118 ≤ a ∧ a ≤ 125) → u2 a = u a := fun b hb => pf b hb.1 hb.2.1 hb.2.2
      exact ⟨rfl, fun a ha => gr a (by omega), (upZ (upZ s 0 0) 12 ((min (d + 1) 8 : Nat) : Int)), fl, ⟨hK.pC (by omega) (by omega), psh_KI hK hLK.2.1, hLK.2.2⟩, ⟨pM, pH, rfl, b4.mv (gr 113 (by omega)), b5.mv (gr 115 (by omega)), b6.mv (gr 116 (by omega)), b7.mv (gr 126 (by omega)), b8.mv (gr 127 (by omega)), b9.mv (gr 128 (by omega)), b10.mv (gr 129 (by omega)), b11.mv (gr 130 (by omega))⟩, rfl⟩
    · exact op_throw (z := 2) (by omega) hLK hA hB hO (wx_paint2 hE hX hl9 hLn (by omega) hA.2.2.1 (sx_paint2 (by omega) hA.2.2.1 hA.1 hK gx gy gc gw ho q)) (s6_paintT2 (by omega) hB.1 hK gx gy gc gw ho (by omega))
  · exact op_throw (z := 1) (by omega) hLK hA hB hO (wx_paint1 hE hX hl9 hLn (by omega) hA.2.2.1 (sx_paint1 (by omega) hA.2.2.1 hA.1 hK gx gy gc gw ho)) (s6_paintT1 (by omega) hB.1 hK gx gy ho)
theorem op_stroke (hE : envOK Γ St) {adV : Nat → Nat} (hX : envX Γ St adV) (hl9 : l.stackTraces = false) (hLn : envL St) (hI : LI h) {x : Int} (gx : -2147483648 ≤ x ∧ x < 2147483648) {y : Int} (gy : -2147483648 ≤ y ∧ y < 2147483648) {a : Int} (ga : -2147483648 ≤ a ∧ a < 2147483648) {b : Int} (gb : -2147483648 ≤ b ∧ b < 2147483648) {c : Int} (gc : -2147483648 ≤ c ∧ c < 2147483648)  : OpW Γ l St M_L_stroke H_stroke M_X6_stroke [.int (I x), .int (I y), .int (I a), .int (I b), .int (I c)] h := by
  obtain ⟨K, H, d, T, e, s, r, fl, hLK, hA, hB, hO⟩ := hI
  have hK := hLK.1
  by_cases ho : onZ K x y = true
  · by_cases q : (0 ≤ a ∧ a ≤ 3) ∧ (1 ≤ b ∧ b ≤ 15) ∧ 1 ≤ c ∧ c ≤ 6
    · obtain ⟨a, rfl⟩ := Int.eq_ofNat_of_zero_le (show 0 ≤ a by omega)
      obtain ⟨b, rfl⟩ := Int.eq_ofNat_of_zero_le (show 0 ≤ b by omega)
      obtain ⟨c, rfl⟩ := Int.eq_ofNat_of_zero_le (show 0 ≤ c by omega)
      obtain ⟨a1, ⟨KS, a2⟩, a3, a4, a5, a6, a7, a8, a9, ⟨n0, a10⟩, a11, a12, a13⟩ := id hA
      refine op_fine hO ⟨_, hB.1.1⟩ (fun c ho => wr_stroke hE hX hl9 (by omega) hA.2.2.1 c ho) (sp_stroke (by omega) hA.2.2.1 hA.1 hK a4 gx gy (wy := a) (len := b) (c := c) ho (by omega) (by omega) (by omega)) (fun v h1 q9 => ?_)
      obtain ⟨rfl, qS, qC, qf⟩ := q9
      have fr : ∀ a, (a < 1 ∨ 11 ≤ a) ∧ (a < 21 ∨ 103 ≤ a) → h1 a = h a := fun b hb => qf b hb.1 hb.2
      refine ⟨fun a ha => fr a (by omega), _, _, psh K H, min (d + 1) 8, e, r, T, rfl, ⟨qS, ⟨KS, a2.eq (fun a h1 h2 => fr a (by omega))⟩, (fr 0 (by omega)).trans a3, qC, (fr 110 (by omega)).trans a5, a6.mv (fr 111 (by omega)), (fr 103 (by omega)).trans a7, a8.mv (fr 104 (by omega)), a9.mv (fr 105 (by omega)), ⟨n0, (fr 106 (by omega)).trans a10⟩, a11.mv (fr 107 (by omega)), a12.mv (fr 108 (by omega)), a13.mv (fr 109 (by omega))⟩, fun u hu => ?_⟩
      have hB1 : LB u s K H d T := hB.eq (fun a k1 k2 => (hu a (by omega)).trans (fr a (by omega)))
      obtain ⟨b1, b2, b3, b4, b5, b6, b7, b8, b9, b10, b11⟩ := hB1
      refine ⟨_, s6_stroke (by omega) b1 hK b3 b2 gx gy (wy := a) (len := b) (c := c) ho (by omega) (by omega) (by omega), fun v2 u2 q8 => ?_⟩
      obtain ⟨rfl, pM, pH, pf⟩ := q8
      have gr : ∀ a, a ≠ 112 ∧ a ≠ 114 ∧ ¬ (118 ≤ a ∧ a ≤ 125) → u2 a = u a := fun b hb => pf b hb.1 hb.2.1 hb.2.2
      exact ⟨rfl, fun a ha => gr a (by omega), (upZ (upZ s 0 0) 12 ((min (d + 1) 8 : Nat) : Int)), fl, ⟨KI.str (by omega) _ _ _ hK, psh_KI hK hLK.2.1, hLK.2.2⟩, ⟨pM, pH, rfl, b4.mv (gr 113 (by omega)), b5.mv (gr 115 (by omega)), b6.mv (gr 116 (by omega)), b7.mv (gr 126 (by omega)), b8.mv (gr 127 (by omega)), b9.mv (gr 128 (by omega)), b10.mv (gr 129 (by omega)), b11.mv (gr 130 (by omega))⟩, rfl⟩
    · exact op_throw (z := 2) (by omega) hLK hA hB hO (wx_stroke2 hE hX hl9 hLn (by omega) hA.2.2.1 (sx_stroke2 (by omega) hA.2.2.1 hA.1 hK gx gy ga gb gc ho q)) (s6_strokeT2 (by omega) hB.1 hK gx gy ga gb gc ho q)
  · exact op_throw (z := 1) (by omega) hLK hA hB hO (wx_stroke1 hE hX hl9 hLn (by omega) hA.2.2.1 (sx_stroke1 (by omega) hA.2.2.1 hA.1 hK gx gy ho)) (s6_strokeT1 (by omega) hB.1 hK gx gy ho)
theorem op_spar (hE : envOK Γ St) {adV : Nat → Nat} (hX : envX Γ St adV) (hl9 : l.stackTraces = false) (hLn : envL St) (hI : LI h) {x : Int} (gx : -2147483648 ≤ x ∧ x < 2147483648) {y : Int} (gy : -2147483648 ≤ y ∧ y < 2147483648) {b : Int} (gb : -2147483648 ≤ b ∧ b < 2147483648) {mi : Bool} : OpW Γ l St M_L_spar H_spar M_X6_spar [.int (I x), .int (I y), .int (I (if mi = true then 1 else 0)), .int (I b)] h := by
  obtain ⟨K, H, d, T, e, s, r, fl, hLK, hA, hB, hO⟩ := hI
  have hK := hLK.1
  by_cases ho : onZ K x y = true
  · by_cases q : 1 ≤ b ∧ b ≤ 15
    · obtain ⟨b, rfl⟩ := Int.eq_ofNat_of_zero_le (show 0 ≤ b by omega)
      obtain ⟨a1, ⟨KS, a2⟩, a3, a4, a5, a6, a7, a8, a9, ⟨n0, a10⟩, a11, a12, a13⟩ := id hA
      refine op_fine hO ⟨_, hB.1.1⟩ (fun c ho => wr_spar hE hX hl9 (by omega) hA.2.2.1 c ho) (sp_spar (by omega) hA.2.2.1 hA.1 hK a4 gx gy (len := b) (dn := mi) ho (by omega)) (fun v h1 q9 => ?_)
      obtain ⟨rfl, qS, qC, qf⟩ := q9
      have fr : ∀ a, (a < 1 ∨ 11 ≤ a) ∧ (a < 21 ∨ 103 ≤ a) → h1 a = h a := fun b hb => qf b hb.1 hb.2
      refine ⟨fun a ha => fr a (by omega), _, _, psh K H, min (d + 1) 8, e, r, T, rfl, ⟨qS, ⟨KS, a2.eq (fun a h1 h2 => fr a (by omega))⟩, (fr 0 (by omega)).trans a3, qC, (fr 110 (by omega)).trans a5, a6.mv (fr 111 (by omega)), (fr 103 (by omega)).trans a7, a8.mv (fr 104 (by omega)), a9.mv (fr 105 (by omega)), ⟨n0, (fr 106 (by omega)).trans a10⟩, a11.mv (fr 107 (by omega)), a12.mv (fr 108 (by omega)), a13.mv (fr 109 (by omega))⟩, fun u hu => ?_⟩
      have hB1 : LB u s K H d T := hB.eq (fun a k1 k2 => (hu a (by omega)).trans (fr a (by omega)))
      obtain ⟨b1, b2, b3, b4, b5, b6, b7, b8, b9, b10, b11⟩ := hB1
      refine ⟨_, s6_spar (by omega) b1 hK b3 b2 gx gy (len := b) (dn := mi) ho (by omega), fun v2 u2 q8 => ?_⟩
      obtain ⟨rfl, pM, pH, pf⟩ := q8
      have gr : ∀ a, a ≠ 112 ∧ a ≠ 114 ∧ ¬ (118 ≤ a ∧ a ≤ 125) → u2 a = u a := fun b hb => pf b hb.1 hb.2.1 hb.2.2
      exact ⟨rfl, fun a ha => gr a (by omega), (upZ (upZ s 0 0) 12 ((min (d + 1) 8 : Nat) : Int)), fl, ⟨(spa_sum _ _ _ hK).2, psh_KI hK hLK.2.1, hLK.2.2⟩, ⟨pM, pH, rfl, b4.mv (gr 113 (by omega)), b5.mv (gr 115 (by omega)), b6.mv (gr 116 (by omega)), b7.mv (gr 126 (by omega)), b8.mv (gr 127 (by omega)), b9.mv (gr 128 (by omega)), b10.mv (gr 129 (by omega)), b11.mv (gr 130 (by omega))⟩, rfl⟩
    · exact op_throw (z := 2) (by omega) hLK hA hB hO (wx_spar2 hE hX hl9 hLn (by omega) hA.2.2.1 (sx_spar2 (by omega) hA.2.2.1 hA.1 hK gx gy gb ho q)) (s6_sparT2 (by omega) hB.1 hK gx gy gb ho q)
  · exact op_throw (z := 1) (by omega) hLK hA hB hO (wx_spar1 hE hX hl9 hLn (by omega) hA.2.2.1 (sx_spar1 (by omega) hA.2.2.1 hA.1 hK gx gy ho)) (s6_sparT1 (by omega) hB.1 hK gx gy ho)
theorem op_strip (hE : envOK Γ St) {adV : Nat → Nat} (hX : envX Γ St adV) (hl9 : l.stackTraces = false) (hLn : envL St) (hI : LI h) {x : Int} (gx : -2147483648 ≤ x ∧ x < 2147483648) {y : Int} (gy : -2147483648 ≤ y ∧ y < 2147483648)  : OpW Γ l St M_L_strip H_strip M_X6_strip [.int (I x), .int (I y)] h := by
  obtain ⟨K, H, d, T, e, s, r, fl, hLK, hA, hB, hO⟩ := hI
  have hK := hLK.1
  by_cases ho : onZ K x y = true
  · by_cases q : K (434 + (y.toNat * K 0 + x.toNat)) = 0
    · exact op_throw (z := 2) (by omega) hLK hA hB hO (wx_strip2 hE hX hl9 hLn (by omega) hA.2.2.1 (sx_strip2 (by omega) hA.2.2.1 hA.1 hK gx gy ho q)) (s6_stripT2 (by omega) hB.1 hK gx gy ho q)
    · obtain ⟨u9, v9, eu, ev, hu9, hv9, hl9i, hn9, hm1, hm2⟩ := onZ_nat hK ho
      have ho9 : on K (y.toNat * K 0 + x.toNat) = true := by subst eu; subst ev; exact on_of hu9 hv9 hm1 hm2
      have hi9 : y.toNat * K 0 + x.toNat < nC K := by subst eu; subst ev; exact hl9i
      obtain ⟨a1, ⟨KS, a2⟩, a3, a4, a5, a6, a7, a8, a9, ⟨n0, a10⟩, a11, a12, a13⟩ := id hA
      refine op_fine hO ⟨_, hB.1.1⟩ (fun c ho => wr_strip hE hX hl9 (by omega) hA.2.2.1 c ho) (sp_strip (by omega) hA.2.2.1 hA.1 hK a4 gx gy ho q) (fun v h1 q9 => ?_)
      obtain ⟨rfl, qS, qC, qf⟩ := q9
      have fr : ∀ a, (a < 1 ∨ 11 ≤ a) ∧ (a < 21 ∨ 103 ≤ a) → h1 a = h a := fun b hb => qf b hb.1 hb.2
      refine ⟨fun a ha => fr a (by omega), _, _, psh K H, min (d + 1) 8, e, r, T, rfl, ⟨qS, ⟨KS, a2.eq (fun a h1 h2 => fr a (by omega))⟩, (fr 0 (by omega)).trans a3, qC, (fr 110 (by omega)).trans a5, a6.mv (fr 111 (by omega)), (fr 103 (by omega)).trans a7, a8.mv (fr 104 (by omega)), a9.mv (fr 105 (by omega)), ⟨n0, (fr 106 (by omega)).trans a10⟩, a11.mv (fr 107 (by omega)), a12.mv (fr 108 (by omega)), a13.mv (fr 109 (by omega))⟩, fun u hu => ?_⟩
      have hB1 : LB u s K H d T := hB.eq (fun a k1 k2 => (hu a (by omega)).trans (fr a (by omega)))
      obtain ⟨b1, b2, b3, b4, b5, b6, b7, b8, b9, b10, b11⟩ := hB1
      refine ⟨_, s6_strip (by omega) b1 hK b3 b2 gx gy ho q, fun v2 u2 q8 => ?_⟩
      obtain ⟨rfl, pM, pH, pf⟩ := q8
      have gr : ∀ a, a ≠ 112 ∧ a ≠ 114 ∧ ¬ (118 ≤ a ∧ a ≤ 125) → u2 a = u a := fun b hb => pf b hb.1 hb.2.1 hb.2.2
      exact ⟨rfl, fun a ha => gr a (by omega), (upZ (upZ s 0 0) 12 ((min (d + 1) 8 : Nat) : Int)), fl, ⟨hK.upS hi9 ho9 (by omega), psh_KI hK hLK.2.1, hLK.2.2⟩, ⟨pM, pH, rfl, b4.mv (gr 113 (by omega)), b5.mv (gr 115 (by omega)), b6.mv (gr 116 (by omega)), b7.mv (gr 126 (by omega)), b8.mv (gr 127 (by omega)), b9.mv (gr 128 (by omega)), b10.mv (gr 129 (by omega)), b11.mv (gr 130 (by omega))⟩, rfl⟩
  · exact op_throw (z := 1) (by omega) hLK hA hB hO (wx_strip1 hE hX hl9 hLn (by omega) hA.2.2.1 (sx_strip1 (by omega) hA.2.2.1 hA.1 hK gx gy ho)) (s6_stripT1 (by omega) hB.1 hK gx gy ho)
theorem op_stamp (hE : envOK Γ St) {adV : Nat → Nat} (hX : envX Γ St adV) (hl9 : l.stackTraces = false) (hLn : envL St) (hI : LI h) {a : Int} (ga : -2147483648 ≤ a ∧ a < 2147483648) {x : Int} (gx : -2147483648 ≤ x ∧ x < 2147483648) {y : Int} (gy : -2147483648 ≤ y ∧ y < 2147483648) {mi : Bool} : OpW Γ l St M_L_stamp H_stamp M_X6_stamp [.int (I a), .int (I x), .int (I y), .int (I (if mi = true then 1 else 0))] h := by
  obtain ⟨K, H, d, T, e, s, r, fl, hLK, hA, hB, hO⟩ := hI
  have hK := hLK.1
  by_cases q : 0 ≤ a ∧ a < (K 5 : Int)
  · by_cases ho : onZ K x y = true
    · have k5 := hK.1.2.2.2.2.2.2.1
      obtain ⟨a, rfl⟩ := Int.eq_ofNat_of_zero_le (show 0 ≤ a by omega)
      obtain ⟨a1, ⟨KS, a2⟩, a3, a4, a5, a6, a7, a8, a9, ⟨n0, a10⟩, a11, a12, a13⟩ := id hA
      refine op_fine hO ⟨_, hB.1.1⟩ (fun c ho => wr_stamp hE hX hl9 (by omega) hA.2.2.1 c ho) (sp_stamp (by omega) hA.2.2.1 hA.1 hK a4 a2 (p := a) (by omega) gx gy (mi := mi) ho) (fun v h1 q9 => ?_)
      obtain ⟨rfl, qS, qC, qP, qf⟩ := q9
      have fr : ∀ a, (a < 1 ∨ 21 ≤ a) ∧ (a < 21 ∨ 103 ≤ a) → h1 a = h a := fun b hb => qf b hb.1 hb.2
      refine ⟨fun a ha => fr a (by omega), _, _, psh K H, min (d + 1) 8, e, r, T, rfl, ⟨qS, qP, (fr 0 (by omega)).trans a3, qC, (fr 110 (by omega)).trans a5, a6.mv (fr 111 (by omega)), (fr 103 (by omega)).trans a7, a8.mv (fr 104 (by omega)), a9.mv (fr 105 (by omega)), ⟨n0, (fr 106 (by omega)).trans a10⟩, a11.mv (fr 107 (by omega)), a12.mv (fr 108 (by omega)), a13.mv (fr 109 (by omega))⟩, fun u hu => ?_⟩
      have hB1 : LB u s K H d T := hB.eq (fun a k1 k2 => (hu a (by omega)).trans (fr a (by omega)))
      obtain ⟨b1, b2, b3, b4, b5, b6, b7, b8, b9, b10, b11⟩ := hB1
      refine ⟨_, s6_stamp (by omega) b1 hK b3 b2 b6 (p := a) (by omega) gx gy (mi := mi) ho, fun v2 u2 q8 => ?_⟩
      obtain ⟨rfl, pM, pH, p116, pf⟩ := q8
      have gr : ∀ a, a ≠ 112 ∧ a ≠ 114 ∧ ¬ (118 ≤ a ∧ a ≤ 125) ∧ a ≠ 116 → u2 a = u a := fun b hb => pf b hb.1 hb.2.1 hb.2.2.1 hb.2.2.2
      exact ⟨rfl, fun a ha => gr a (by omega), (upZ (upZ s 0 0) 12 ((min (d + 1) 8 : Nat) : Int)), fl, ⟨(okO.sl hK (by omega) _ (hK.2.2.2.2.2.2.2.2 a (by omega)).2.1).1, psh_KI hK hLK.2.1, hLK.2.2⟩, ⟨pM, pH, rfl, b4.mv (gr 113 (by omega)), b5.mv (gr 115 (by omega)), p116, b7.mv (gr 126 (by omega)), b8.mv (gr 127 (by omega)), b9.mv (gr 128 (by omega)), b10.mv (gr 129 (by omega)), b11.mv (gr 130 (by omega))⟩, rfl⟩
    · exact op_throw (z := 1) (by omega) hLK hA hB hO (wx_stamp1 hE hX hl9 hLn (by omega) hA.2.2.1 (sx_stamp2 (by omega) hA.2.2.1 hA.1 hK ga gx gy q ho)) (s6_stampT2 (by omega) hB.1 hK ga gx gy q ho)
  · exact op_throw (z := 1) (by omega) hLK hA hB hO (wx_stamp1 hE hX hl9 hLn (by omega) hA.2.2.1 (sx_stamp1 (by omega) hA.2.2.1 hA.1 hK ga q)) (s6_stampT1 (by omega) hB.1 hK ga q)
theorem op_pass (hE : envOK Γ St) {adV : Nat → Nat} (hX : envX Γ St adV) (hl9 : l.stackTraces = false) (hLn : envL St) (hI : LI h) {a : Int} (ga : -2147483648 ≤ a ∧ a < 2147483648)  : OpW Γ l St M_L_pass H_pass M_X6_pass [.int (I a)] h := by
  obtain ⟨K, H, d, T, e, s, r, fl, hLK, hA, hB, hO⟩ := hI
  have hK := hLK.1
  by_cases q : 1 ≤ a ∧ a ≤ 20
  · obtain ⟨a, rfl⟩ := Int.eq_ofNat_of_zero_le (show 0 ≤ a by omega)
    obtain ⟨a1, ⟨KS, a2⟩, a3, a4, a5, a6, a7, a8, a9, ⟨n0, a10⟩, a11, a12, a13⟩ := id hA
    refine op_fine hO ⟨_, hB.1.1⟩ (fun c ho => wr_pass hE hX hl9 (by omega) hA.2.2.1 c ho) (sp_pass (by omega) hA.2.2.1 hA.1 hK a4 a7 a8 a9 ga (by omega)) (fun v h1 q9 => ?_)
    obtain ⟨rfl, qS, qC, q4, q5, qf⟩ := q9
    have fr : ∀ a, (a < 1 ∨ 11 ≤ a) ∧ (a < 21 ∨ 103 ≤ a) ∧ a ≠ 104 ∧ a ≠ 105 → h1 a = h a := fun b hb => qf b hb.1 hb.2.1 hb.2.2.1 hb.2.2.2
    refine ⟨fun a ha => fr a (by omega), _, fotK K a, psh K H, min (d + 1) 8, e, r, T, rfl, ⟨qS, ⟨KS, a2.eq (fun a h1 h2 => fr a (by omega))⟩, (fr 0 (by omega)).trans a3, qC, (fr 110 (by omega)).trans a5, a6.mv (fr 111 (by omega)), (fr 103 (by omega)).trans a7, q4, q5, ⟨n0, (fr 106 (by omega)).trans a10⟩, a11.mv (fr 107 (by omega)), a12.mv (fr 108 (by omega)), a13.mv (fr 109 (by omega))⟩, fun u hu => ?_⟩
    have hB1 : LB u s K H d T := hB.eq (fun a k1 k2 => (hu a (by omega)).trans (fr a (by omega)))
    obtain ⟨b1, b2, b3, b4, b5, b6, b7, b8, b9, b10, b11⟩ := hB1
    refine ⟨_, s6_pass (by omega) b1 hK b3 b2 b7 b8 b9 (a := a) (by omega), fun v2 u2 q8 => ?_⟩
    obtain ⟨rfl, pM, pH, p1, p2, p3, pf⟩ := q8
    have gr : ∀ a, a ≠ 112 ∧ a ≠ 114 ∧ ¬ (118 ≤ a ∧ a ≤ 125) ∧ a ≠ 126 ∧ a ≠ 127 ∧ a ≠ 128 → u2 a = u a := fun b hb => pf b hb.1 hb.2.1 hb.2.2.1 hb.2.2.2.1 hb.2.2.2.2.1 hb.2.2.2.2.2
    exact ⟨rfl, fun a ha => gr a (by omega), (upZ (upZ s 0 0) 12 ((min (d + 1) 8 : Nat) : Int)), fl, ⟨hK.fot a, psh_KI hK hLK.2.1, hLK.2.2⟩, ⟨pM, pH, rfl, b4.mv (gr 113 (by omega)), b5.mv (gr 115 (by omega)), b6.mv (gr 116 (by omega)), p1, p2, p3, b10.mv (gr 129 (by omega)), b11.mv (gr 130 (by omega))⟩, rfl⟩
  · exact op_throw (z := 1) (by omega) hLK hA hB hO (wx_pass1 hE hX hl9 hLn (by omega) hA.2.2.1 (sx_pass (by omega) ga q)) (s6_passT (by omega) hB.1 hK ga q)
theorem op_foretold (hE : envOK Γ St) {adV : Nat → Nat} (hX : envX Γ St adV) (hl9 : l.stackTraces = false) (hLn : envL St) (hI : LI h) {a : Int} (ga : -2147483648 ≤ a ∧ a < 2147483648) {b : Int} (gb : -2147483648 ≤ b ∧ b < 2147483648)  : OpW Γ l St M_L_foretold H_foretold M_X6_foretold [.int (I a), .int (I b)] h := by
  obtain ⟨K, H, d, T, e, s, r, fl, hLK, hA, hB, hO⟩ := hI
  have hK := hLK.1
  by_cases q : (1 ≤ a ∧ a ≤ 40) ∧ 0 ≤ b ∧ b ≤ 4
  · obtain ⟨a, rfl⟩ := Int.eq_ofNat_of_zero_le (show 0 ≤ a by omega)
    obtain ⟨b, rfl⟩ := Int.eq_ofNat_of_zero_le (show 0 ≤ b by omega)
    obtain ⟨a1, ⟨KS, a2⟩, a3, a4, a5, a6, a7, a8, a9, ⟨n0, a10⟩, a11, a12, a13⟩ := id hA
    refine op_fine hO ⟨_, hB.1.1⟩ (fun c ho => wr_foretold hE hX hl9 (by omega) hA.2.2.1 c ho) (sp_foretold (by omega) hA.2.2.1 hA.1 hK a2 a7 a8 a9 (a := a) (w := b) (by omega) (by omega)) (fun v h1 q9 => ?_)
    obtain ⟨rfl, qP, q4, q5, qf⟩ := q9
    have fr : ∀ a, (a < 11 ∨ 21 ≤ a) ∧ a ≠ 104 ∧ a ≠ 105 → h1 a = h a := fun b hb => qf b hb.1 hb.2.1 hb.2.2
    refine ⟨fun a ha => fr a (by omega), _, K, H, d, e, r, T, rfl, ⟨a1.eq (fun a h1 h2 => fr a (by omega)), qP, (fr 0 (by omega)).trans a3, a4.eq (fun a h1 h2 => fr a (by omega)), (fr 110 (by omega)).trans a5, a6.mv (fr 111 (by omega)), (fr 103 (by omega)).trans a7, q4, q5, ⟨n0, (fr 106 (by omega)).trans a10⟩, a11.mv (fr 107 (by omega)), a12.mv (fr 108 (by omega)), a13.mv (fr 109 (by omega))⟩, fun u hu => ?_⟩
    have hB1 : LB u s K H d T := hB.eq (fun a k1 k2 => (hu a (by omega)).trans (fr a (by omega)))
    obtain ⟨b1, b2, b3, b4, b5, b6, b7, b8, b9, b10, b11⟩ := hB1
    refine ⟨_, s6_foretold (by omega) b1 hK b6 b7 b8 b9 (a := a) (w := b) (by omega) (by omega), fun v2 u2 q8 => ?_⟩
    obtain ⟨rfl, pM, p16, p1, p2, p3, pf⟩ := q8
    have gr : ∀ a, a ≠ 112 ∧ a ≠ 114 ∧ a ≠ 116 ∧ a ≠ 126 ∧ a ≠ 127 ∧ a ≠ 128 → u2 a = u a := fun b hb => pf b hb.1 hb.2.1 hb.2.2.1 hb.2.2.2.1 hb.2.2.2.2.1 hb.2.2.2.2.2
    exact ⟨rfl, fun a ha => gr a (by omega), (upZ s 0 0), fl, hLK, ⟨pM, b2.eq (fun a h1 h2 => gr a (by omega)), b3, b4.mv (gr 113 (by omega)), b5.mv (gr 115 (by omega)), p16, p1, p2, p3, b10.mv (gr 129 (by omega)), b11.mv (gr 130 (by omega))⟩, rfl⟩
  · exact op_throw (z := 1) (by omega) hLK hA hB hO (wx_foretold1 hE hX hl9 hLn (by omega) hA.2.2.1 (sx_foretold (by omega) ga gb q)) (s6_foretoldT (by omega) hB.1 hK ga gb q)
theorem op_region (hE : envOK Γ St) {adV : Nat → Nat} (hX : envX Γ St adV) (hl9 : l.stackTraces = false) (hLn : envL St) (hI : LI h) {x : Int} (gx : -2147483648 ≤ x ∧ x < 2147483648) {y : Int} (gy : -2147483648 ≤ y ∧ y < 2147483648)  : OpW Γ l St M_L_region H_region M_X6_region [.int (I x), .int (I y)] h := by
  obtain ⟨K, H, d, T, e, s, r, fl, hLK, hA, hB, hO⟩ := hI
  have hK := hLK.1
  by_cases ho : onZ K x y = true
  · obtain ⟨a1, ⟨KS, a2⟩, a3, a4, a5, a6, a7, a8, a9, ⟨n0, a10⟩, a11, a12, a13⟩ := id hA
    refine op_fine hO ⟨_, hB.1.1⟩ (fun c ho => wr_region hE hX hl9 (by omega) hA.2.2.1 c ho) (sp_region (by omega) hA.2.2.1 hA.1 hK a10 a11 a12 a13 gx gy ho) (fun v h1 q9 => ?_)
    obtain ⟨n, N, X, Y, qq, rfl, hn, qF, q7, q8, q9, qB, qE, -, qf⟩ := q9
    have fr : ∀ a, a ≠ 106 ∧ a ≠ 107 ∧ a ≠ 108 ∧ a ≠ 109 → h1 a = h a := fun b hb => qf b (by simp only [List.mem_cons, List.not_mem_nil, or_false]; omega)
    refine ⟨fun a ha => fr a (by omega), _, K, H, d, e, r, T, rfl, ⟨a1.eq (fun a h1 h2 => fr a (by omega)), ⟨KS, a2.eq (fun a h1 h2 => fr a (by omega))⟩, (fr 0 (by omega)).trans a3, a4.eq (fun a h1 h2 => fr a (by omega)), (fr 110 (by omega)).trans a5, a6.mv (fr 111 (by omega)), (fr 103 (by omega)).trans a7, a8.mv (fr 104 (by omega)), a9.mv (fr 105 (by omega)), ⟨_, qF⟩, ⟨_, q7⟩, ⟨_, q8⟩, ⟨_, q9⟩⟩, fun u hu => ?_⟩
    have hB1 : LB u s K H d T := hB.eq (fun a k1 k2 => (hu a (by omega)).trans (fr a (by omega)))
    obtain ⟨b1, b2, b3, b4, b5, b6, b7, b8, b9, b10, b11⟩ := hB1
    refine ⟨_, s6_region (by omega) b1 hK b10 b11 gx gy ho, fun v2 u2 q8 => ?_⟩
    obtain ⟨m, N2, F, rfl, mF, mn, mE, pM, p9, p10, pf⟩ := q8
    have gr : ∀ a, a ≠ 112 ∧ a ≠ 129 ∧ a ≠ 130 → u2 a = u a := fun b hb => pf b hb.1 hb.2.1 hb.2.2
    have eN := mk_uniq (M := fun _ => 0) (M' := F) (fun j hj => (mF j hj).symm) qE mE
    have e1 := si_cong (n := 180) eN
    have e2 : si F 180 = si (fun _ => 0) 180 := si_cong mF
    have e3 : (n : Int) = si N 180 - si (fun _ => 0) 180 := qB.2.2.2
    have e4 : (m : Int) = (n : Int) := by omega
    exact ⟨by rw [e4], fun a ha => gr a (by omega), (upZ s 0 0), fl, hLK, ⟨pM, b2.eq (fun a h1 h2 => gr a (by omega)), b3, b4.mv (gr 113 (by omega)), b5.mv (gr 115 (by omega)), b6.mv (gr 116 (by omega)), b7.mv (gr 126 (by omega)), b8.mv (gr 127 (by omega)), b9.mv (gr 128 (by omega)), p9, p10⟩, rfl⟩
  · exact op_throw (z := 1) (by omega) hLK hA hB hO (wx_region1 hE hX hl9 hLn (by omega) hA.2.2.1 (sx_region (by omega) hA.2.2.1 hA.1 hK gx gy ho)) (s6_regionT (by omega) hB.1 hK gx gy ho)
theorem op_regions (hE : envOK Γ St) {adV : Nat → Nat} (hX : envX Γ St adV) (hl9 : l.stackTraces = false) (hLn : envL St) (hI : LI h) {a : Int} (ga : -2147483648 ≤ a ∧ a < 2147483648)  : OpW Γ l St M_L_regions H_regions M_X6_regions [.int (I a)] h := by
  obtain ⟨K, H, d, T, e, s, r, fl, hLK, hA, hB, hO⟩ := hI
  have hK := hLK.1
  by_cases q : 0 ≤ a ∧ a ≤ 6
  · obtain ⟨a, rfl⟩ := Int.eq_ofNat_of_zero_le (show 0 ≤ a by omega)
    obtain ⟨a1, ⟨KS, a2⟩, a3, a4, a5, a6, a7, a8, a9, ⟨n0, a10⟩, a11, a12, a13⟩ := id hA
    refine op_fine hO ⟨_, hB.1.1⟩ (fun c ho => wr_regions hE hX hl9 (by omega) hA.2.2.1 c ho) (sp_regions (by omega) hA.2.2.1 hA.1 hK a10 a11 a12 a13 ga q) (fun v h1 q9 => ?_)
    obtain ⟨acc, N, rfl, qR, q7, qF, q8, q9, qf⟩ := q9
    have fr : ∀ a, a ≠ 106 ∧ a ≠ 107 ∧ a ≠ 108 ∧ a ≠ 109 → h1 a = h a := fun b hb => qf b (by simp only [List.mem_cons, List.not_mem_nil, or_false]; omega)
    refine ⟨fun a ha => fr a (by omega), _, K, H, d, e, r, T, rfl, ⟨a1.eq (fun a h1 h2 => fr a (by omega)), ⟨KS, a2.eq (fun a h1 h2 => fr a (by omega))⟩, (fr 0 (by omega)).trans a3, a4.eq (fun a h1 h2 => fr a (by omega)), (fr 110 (by omega)).trans a5, a6.mv (fr 111 (by omega)), (fr 103 (by omega)).trans a7, a8.mv (fr 104 (by omega)), a9.mv (fr 105 (by omega)), qF, q7, q8, q9⟩, fun u hu => ?_⟩
    have hB1 : LB u s K H d T := hB.eq (fun a k1 k2 => (hu a (by omega)).trans (fr a (by omega)))
    obtain ⟨b1, b2, b3, b4, b5, b6, b7, b8, b9, b10, b11⟩ := hB1
    refine ⟨_, s6_regions (by omega) b1 hK b10 b11 (a := a) (by omega), fun v2 u2 q8 => ?_⟩
    obtain ⟨acc2, N2, rfl, pR, pM, p9, p10, pf⟩ := q8
    have gr : ∀ a, a ≠ 112 ∧ a ≠ 129 ∧ a ≠ 130 → u2 a = u a := fun b hb => pf b hb.1 hb.2.1 hb.2.2
    have e4 := (RG.uniq (nC_le hK) pR qR).2
    exact ⟨by rw [e4], fun a ha => gr a (by omega), (upZ s 0 0), fl, hLK, ⟨pM, b2.eq (fun a h1 h2 => gr a (by omega)), b3, b4.mv (gr 113 (by omega)), b5.mv (gr 115 (by omega)), b6.mv (gr 116 (by omega)), b7.mv (gr 126 (by omega)), b8.mv (gr 127 (by omega)), b9.mv (gr 128 (by omega)), p9, p10⟩, rfl⟩
  · exact op_throw (z := 1) (by omega) hLK hA hB hO (wx_regions1 hE hX hl9 hLn (by omega) hA.2.2.1 (sx_regions (by omega) ga q)) (s6_regionsT (by omega) hB.1 hK ga q)
theorem op_wash (hE : envOK Γ St) {adV : Nat → Nat} (hX : envX Γ St adV) (hl9 : l.stackTraces = false) (hLn : envL St) (hI : LI h) {x : Int} (gx : -2147483648 ≤ x ∧ x < 2147483648) {y : Int} (gy : -2147483648 ≤ y ∧ y < 2147483648)  : OpW Γ l St M_L_wash H_wash M_X6_wash [.int (I x), .int (I y)] h := by
  obtain ⟨K, H, d, T, e, s, r, fl, hLK, hA, hB, hO⟩ := hI
  have hK := hLK.1
  by_cases ho : onZ K x y = true
  · by_cases q : K (74 + (y.toNat * K 0 + x.toNat)) = 0
    · exact op_throw (z := 2) (by omega) hLK hA hB hO (wx_wash2 hE hX hl9 hLn (by omega) hA.2.2.1 (sx_wash2 (by omega) hA.2.2.1 hA.1 hK gx gy ho q)) (s6_washT2 (by omega) hB.1 hK gx gy ho q)
    · obtain ⟨a1, ⟨KS, a2⟩, a3, a4, a5, a6, a7, a8, a9, ⟨n0, a10⟩, a11, a12, a13⟩ := id hA
      refine op_fine hO ⟨_, hB.1.1⟩ (fun c ho => wr_wash hE hX hl9 (by omega) hA.2.2.1 c ho) (sp_wash (by omega) hA.2.2.1 hA.1 hK a4 a10 a11 a12 a13 gx gy ho q) (fun v h1 q9 => ?_)
      obtain ⟨n, N, rfl, qn, qE, qS, qC, qF, q7, q8, q9, qf⟩ := q9
      have fr : ∀ a, (a < 1 ∨ 11 ≤ a) ∧ (a < 21 ∨ 103 ≤ a) ∧ (a < 106 ∨ 109 < a) → h1 a = h a := fun b hb => qf b hb.1 hb.2.1 hb.2.2
      refine ⟨fun a ha => fr a (by omega), _, wshK K N, psh K H, min (d + 1) 8, e, r, T, rfl, ⟨qS, ⟨KS, a2.eq (fun a h1 h2 => fr a (by omega))⟩, (fr 0 (by omega)).trans a3, qC, (fr 110 (by omega)).trans a5, a6.mv (fr 111 (by omega)), (fr 103 (by omega)).trans a7, a8.mv (fr 104 (by omega)), a9.mv (fr 105 (by omega)), qF, q7, q8, q9⟩, fun u hu => ?_⟩
      have hB1 : LB u s K H d T := hB.eq (fun a k1 k2 => (hu a (by omega)).trans (fr a (by omega)))
      obtain ⟨b1, b2, b3, b4, b5, b6, b7, b8, b9, b10, b11⟩ := hB1
      refine ⟨_, s6_wash (by omega) b1 hK b3 b2 b10 b11 gx gy ho q, fun v2 u2 q8 => ?_⟩
      obtain ⟨m, N2, F, rfl, mF, mn, mE, pM, pH, p9, p10, pf⟩ := q8
      have gr : ∀ a, a ≠ 112 ∧ a ≠ 114 ∧ ¬ (118 ≤ a ∧ a ≤ 125) ∧ a ≠ 129 ∧ a ≠ 130 → u2 a = u a := fun b hb => pf b hb.1 hb.2.1 hb.2.2.1 hb.2.2.2.1 hb.2.2.2.2
      have eN := mk_uniq (M := fun _ => 0) (M' := F) (fun j hj => (mF j hj).symm) qE mE
      have e1 := si_cong (n := 180) eN
      have e2 : si F 180 = si (fun _ => 0) 180 := si_cong mF
      have e4 : (m : Int) = (n : Int) := by omega
      rw [wsh_cong (N := N2) (M := N) (fun j hj => by rw [eN j hj])] at pM
      exact ⟨by rw [e4], fun a ha => gr a (by omega), (upZ (upZ s 0 0) 12 ((min (d + 1) 8 : Nat) : Int)), fl, ⟨hK.wsh, psh_KI hK hLK.2.1, hLK.2.2⟩, ⟨pM, pH, rfl, b4.mv (gr 113 (by omega)), b5.mv (gr 115 (by omega)), b6.mv (gr 116 (by omega)), b7.mv (gr 126 (by omega)), b8.mv (gr 127 (by omega)), b9.mv (gr 128 (by omega)), p9, p10⟩, rfl⟩
  · exact op_throw (z := 1) (by omega) hLK hA hB hO (wx_wash1 hE hX hl9 hLn (by omega) hA.2.2.1 (sx_wash1 (by omega) hA.2.2.1 hA.1 hK gx gy ho)) (s6_washT1 (by omega) hB.1 hK gx gy ho)
end OPS
