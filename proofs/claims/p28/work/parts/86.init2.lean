/-! the two constructors -/
theorem lnI_X5_11 : lnI M_X5_init 11 M_X3_init := ⟨gT_mem 29 (by decide +kernel) (by decide +kernel), gT_mem 67 (by decide +kernel) (by decide +kernel), gT_mem 66 (by decide +kernel) (by decide +kernel), rfl, rfl, ⟨by decide +kernel, by decide +kernel, by decide +kernel⟩, by decide, by decide⟩
theorem lnI_X5_21 : lnI M_X5_init 21 M_X1_init := ⟨gT_mem 31 (by decide +kernel) (by decide +kernel), gT_mem 153 (by decide +kernel) (by decide +kernel), gT_mem 152 (by decide +kernel) (by decide +kernel), rfl, rfl, ⟨by decide +kernel, by decide +kernel, by decide +kernel⟩, by decide, by decide⟩
theorem lnI_X5_28 : lnI M_X5_init 28 M_X0_init := ⟨gT_mem 32 (by decide +kernel) (by decide +kernel), gT_mem 173 (by decide +kernel) (by decide +kernel), gT_mem 172 (by decide +kernel) (by decide +kernel), rfl, rfl, ⟨by decide +kernel, by decide +kernel, by decide +kernel⟩, by decide, by decide⟩
theorem lnI_X5_35 : lnI M_X5_init 35 M_X2_init := ⟨gT_mem 33 (by decide +kernel) (by decide +kernel), gT_mem 186 (by decide +kernel) (by decide +kernel), gT_mem 185 (by decide +kernel) (by decide +kernel), rfl, rfl, ⟨by decide +kernel, by decide +kernel, by decide +kernel⟩, by decide, by decide⟩
theorem lnI_X5_42 : lnI M_X5_init 42 M_X4_init := ⟨gT_mem 34 (by decide +kernel) (by decide +kernel), gT_mem 205 (by decide +kernel) (by decide +kernel), gT_mem 204 (by decide +kernel) (by decide +kernel), rfl, rfl, ⟨by decide +kernel, by decide +kernel, by decide +kernel⟩, by decide, by decide⟩
section CN2
variable {Γ : en} {l : Launch} {St : State → Prop} {z : Nat}
theorem gi_X5 (hE : envOK Γ St) {adV : Nat → Nat} (hX : envX Γ St adV) (hl9 : l.stackTraces = false) (hC : envC Γ St z) {h : hp} (ho : h 0 = .inr (5, [.null, .null, .null, .null, .null, .null, .int 0])) : MetG Γ l St z M_X5_init 1 111 9080 0 h (fun h1 => KO h1 (-1) ∧ SA 112 h1 1 (freshK 5 5) ∧ SA 112 h1 11 (freshK 5 5) ∧ CH 112 h1 (fun _ => freshK 5 5) 0 ∧ BO h1 ∧ row 0 (h1 104) 180 (fun _ => 0) ∧ row 0 (h1 105) 180 (fun _ => 0) ∧ FO h1 0 ∧ row 0 (h1 107) 180 (fun _ => 0) ∧ row 0 (h1 108) 180 (fun _ => 0) ∧ row 0 (h1 109) 180 (fun _ => 0) ∧ RO h1 (fun _ => 0) ∧ TR h1 (fun _ => 0)) := by
  refine gs_met (by decide) rfl (by decide) ?_
  refine gs_aload dX5_init_0 rfl ?_
  refine gs_obj0 dX5_init_1 (gT_mem 60 (by decide +kernel) (by decide +kernel)) (by decide) (by decide) ?_
  refine gs_aload dX5_init_4 rfl ?_
  refine gs_new hC (fs := [.int 0, .int 0, .int 0, .int 0, .int 0, .int 0, .null, .null, .null, .null, .null, .null, .null, .null, .null]) dX5_init_5 ck3 (gT_mem 63 (by decide +kernel) (by decide +kernel)) (gT_mem 64 (by decide +kernel) (by decide +kernel)) (gT_mem 29 (by decide +kernel) (by decide +kernel)) (fun j hj => ?_) (by omega) (by omega) (by omega) ?_
  · rcases (by omega : j = 0 ∨ j = 1 ∨ j = 2 ∨ j = 3 ∨ j = 4 ∨ j = 5 ∨ j = 6 ∨ j = 7 ∨ j = 8 ∨ j = 9 ∨ j = 10 ∨ j = 11 ∨ j = 12 ∨ j = 13 ∨ j = 14) with rfl | rfl | rfl | rfl | rfl | rfl | rfl | rfl | rfl | rfl | rfl | rfl | rfl | rfl | rfl <;> rfl
  refine gs_dup dX5_init_8 ?_
  refine gs_init hE hC (b := 1) (k2 := 9) (n2 := 740) dX5_init_9 lnI_X5_11 (gT_mem 65 (by decide +kernel) (by decide +kernel)) (Nat.le_of_ble_eq_true rfl) (gi_X3 hE hX hl9 hC (b := 1) (by omega) vu_eq) (by omega) (by omega) (fun g1 q1 => ?_)
  have c1 : ∀ a, a < 1 → g1 a = h a := fun a ha => (q1.2 a ha).trans (vu_ne (by omega))
  have o1 : g1 0 = .inr (5, [.null, .null, .null, .null, .null, .null, .int 0]) := (c1 0 (by omega)).trans ho
  refine gs_putF hC dX5_init_12 ck5 (by decide) fl_X5_12 (by omega) (by omega) o1 rfl rfl rfl (Nat.le_of_ble_eq_true rfl) ?_
  obtain ⟨p1, e1⟩ : ∃ x : hp, x = va_up g1 0 (.inr (5, ([.null, .null, .null, .null, .null, .null, .int 0] : List Value).set 0 (.ref (1)))) := ⟨_, rfl⟩
  rw [← e1]
  have u1 : p1 0 = .inr (5, [.ref 1, .null, .null, .null, .null, .null, .int 0]) := by rw [e1, vu_eq]; rfl
  have f1 : ∀ a, 0 < a → p1 a = g1 a := fun a ha => by rw [e1]; exact vu_ne (by omega)
  refine gs_aload dX5_init_15 rfl ?_
  refine gs_new hC (fs := [.int 0, .int 0, .int 0, .int 0, .int 0, .int 0, .null, .null, .null, .null, .null, .null, .null, .null, .null]) dX5_init_16 ck3 (gT_mem 63 (by decide +kernel) (by decide +kernel)) (gT_mem 64 (by decide +kernel) (by decide +kernel)) (gT_mem 29 (by decide +kernel) (by decide +kernel)) (fun j hj => ?_) (by omega) (by omega) (by omega) ?_
  · rcases (by omega : j = 0 ∨ j = 1 ∨ j = 2 ∨ j = 3 ∨ j = 4 ∨ j = 5 ∨ j = 6 ∨ j = 7 ∨ j = 8 ∨ j = 9 ∨ j = 10 ∨ j = 11 ∨ j = 12 ∨ j = 13 ∨ j = 14) with rfl | rfl | rfl | rfl | rfl | rfl | rfl | rfl | rfl | rfl | rfl | rfl | rfl | rfl | rfl <;> rfl
  refine gs_dup dX5_init_19 ?_
  refine gs_init hE hC (b := 11) (k2 := 9) (n2 := 740) dX5_init_20 lnI_X5_11 (gT_mem 65 (by decide +kernel) (by decide +kernel)) (Nat.le_of_ble_eq_true rfl) (gi_X3 hE hX hl9 hC (b := 11) (by omega) vu_eq) (by omega) (by omega) (fun g2 q2 => ?_)
  have c2 : ∀ a, a < 11 → g2 a = p1 a := fun a ha => (q2.2 a ha).trans (vu_ne (by omega))
  have o2 : g2 0 = .inr (5, [.ref 1, .null, .null, .null, .null, .null, .int 0]) := (c2 0 (by omega)).trans u1
  refine gs_putF hC dX5_init_23 ck5 (by decide) fl_X5_16 (by omega) (by omega) o2 rfl rfl rfl (Nat.le_of_ble_eq_true rfl) ?_
  obtain ⟨p2, e2⟩ : ∃ x : hp, x = va_up g2 0 (.inr (5, ([.ref 1, .null, .null, .null, .null, .null, .int 0] : List Value).set 1 (.ref (11)))) := ⟨_, rfl⟩
  rw [← e2]
  have u2 : p2 0 = .inr (5, [.ref 1, .ref 11, .null, .null, .null, .null, .int 0]) := by rw [e2, vu_eq]; rfl
  have f2 : ∀ a, 0 < a → p2 a = g2 a := fun a ha => by rw [e2]; exact vu_ne (by omega)
  refine gs_aload dX5_init_26 rfl ?_
  refine gs_new hC (fs := [.null, .int 0, .int 0]) dX5_init_27 ck1 (gT_mem 149 (by decide +kernel) (by decide +kernel)) (gT_mem 150 (by decide +kernel) (by decide +kernel)) (gT_mem 31 (by decide +kernel) (by decide +kernel)) (fun j hj => ?_) (by omega) (by omega) (by omega) ?_
  · rcases (by omega : j = 0 ∨ j = 1 ∨ j = 2) with rfl | rfl | rfl <;> rfl
  refine gs_dup dX5_init_30 ?_
  refine gs_init hE hC (b := 21) (k2 := 81) (n2 := 6048) dX5_init_31 lnI_X5_21 (gT_mem 151 (by decide +kernel) (by decide +kernel)) (Nat.le_of_ble_eq_true rfl) (gi_X1 hE hX hl9 hC vu_eq) (by omega) (by omega) (fun g3 q3 => ?_)
  have c3 : ∀ a, a < 21 → g3 a = p2 a := fun a ha => (q3.2.2.2 a ha).trans (vu_ne (by omega))
  have o3 : g3 0 = .inr (5, [.ref 1, .ref 11, .null, .null, .null, .null, .int 0]) := (c3 0 (by omega)).trans u2
  refine gs_putF hC dX5_init_34 ck5 (by decide) fl_X5_22 (by omega) (by omega) o3 rfl rfl rfl (Nat.le_of_ble_eq_true rfl) ?_
  obtain ⟨p3, e3⟩ : ∃ x : hp, x = va_up g3 0 (.inr (5, ([.ref 1, .ref 11, .null, .null, .null, .null, .int 0] : List Value).set 2 (.ref (21)))) := ⟨_, rfl⟩
  rw [← e3]
  have u3 : p3 0 = .inr (5, [.ref 1, .ref 11, .ref 21, .null, .null, .null, .int 0]) := by rw [e3, vu_eq]; rfl
  have f3 : ∀ a, 0 < a → p3 a = g3 a := fun a ha => by rw [e3]; exact vu_ne (by omega)
  refine gs_aload dX5_init_37 rfl ?_
  refine gs_new hC (fs := [.null, .null]) dX5_init_38 ck0 (gT_mem 169 (by decide +kernel) (by decide +kernel)) (gT_mem 170 (by decide +kernel) (by decide +kernel)) (gT_mem 32 (by decide +kernel) (by decide +kernel)) (fun j hj => ?_) (by omega) (by omega) (by omega) ?_
  · rcases (by omega : j = 0 ∨ j = 1) with rfl | rfl <;> rfl
  refine gs_dup dX5_init_41 ?_
  refine gs_initN hE hC (b := 103) (k2 := 2) (n2 := 360) dX5_init_42 lnI_X5_28 (host := "KitePainter") (by decide +kernel) (Nat.le_of_ble_eq_true rfl) (gi_X0 hE hX hl9 hC (b := 103) (by omega) vu_eq) (by omega) (by omega) (fun g4 q4 => ?_)
  have c4 : ∀ a, a < 103 → g4 a = p3 a := fun a ha => (q4.2.2.2 a ha).trans (vu_ne (by omega))
  have o4 : g4 0 = .inr (5, [.ref 1, .ref 11, .ref 21, .null, .null, .null, .int 0]) := (c4 0 (by omega)).trans u3
  refine gs_putF hC dX5_init_45 ck5 (by decide) fl_X5_29 (by omega) (by omega) o4 rfl rfl rfl (Nat.le_of_ble_eq_true rfl) ?_
  obtain ⟨p4, e4⟩ : ∃ x : hp, x = va_up g4 0 (.inr (5, ([.ref 1, .ref 11, .ref 21, .null, .null, .null, .int 0] : List Value).set 3 (.ref (103)))) := ⟨_, rfl⟩
  rw [← e4]
  have u4 : p4 0 = .inr (5, [.ref 1, .ref 11, .ref 21, .ref 103, .null, .null, .int 0]) := by rw [e4, vu_eq]; rfl
  have f4 : ∀ a, 0 < a → p4 a = g4 a := fun a ha => by rw [e4]; exact vu_ne (by omega)
  refine gs_aload dX5_init_48 rfl ?_
  refine gs_new hC (fs := [.null, .null, .null, .int 0]) dX5_init_49 ck2 (gT_mem 182 (by decide +kernel) (by decide +kernel)) (gT_mem 183 (by decide +kernel) (by decide +kernel)) (gT_mem 33 (by decide +kernel) (by decide +kernel)) (fun j hj => ?_) (by omega) (by omega) (by omega) ?_
  · rcases (by omega : j = 0 ∨ j = 1 ∨ j = 2 ∨ j = 3) with rfl | rfl | rfl | rfl <;> rfl
  refine gs_dup dX5_init_52 ?_
  refine gs_initN hE hC (b := 106) (k2 := 3) (n2 := 540) dX5_init_53 lnI_X5_35 (host := "KitePainter") (by decide +kernel) (Nat.le_of_ble_eq_true rfl) (gi_X2 hE hX hl9 hC (b := 106) (by omega) vu_eq) (by omega) (by omega) (fun g5 q5 => ?_)
  have c5 : ∀ a, a < 106 → g5 a = p4 a := fun a ha => (q5.2.2.2.2 a ha).trans (vu_ne (by omega))
  have o5 : g5 0 = .inr (5, [.ref 1, .ref 11, .ref 21, .ref 103, .null, .null, .int 0]) := (c5 0 (by omega)).trans u4
  refine gs_putF hC dX5_init_56 ck5 (by decide) fl_X5_36 (by omega) (by omega) o5 rfl rfl rfl (Nat.le_of_ble_eq_true rfl) ?_
  obtain ⟨p5, e5⟩ : ∃ x : hp, x = va_up g5 0 (.inr (5, ([.ref 1, .ref 11, .ref 21, .ref 103, .null, .null, .int 0] : List Value).set 4 (.ref (106)))) := ⟨_, rfl⟩
  rw [← e5]
  have u5 : p5 0 = .inr (5, [.ref 1, .ref 11, .ref 21, .ref 103, .ref 106, .null, .int 0]) := by rw [e5, vu_eq]; rfl
  have f5 : ∀ a, 0 < a → p5 a = g5 a := fun a ha => by rw [e5]; exact vu_ne (by omega)
  refine gs_aload dX5_init_59 rfl ?_
  refine gs_new hC (fs := [.null, .int 0, .int 0, .int 0, .int 0, .int 0, .int 0, .int 0, .int 0, .int 0, .int 0, .int 0, .int 0]) dX5_init_60 ck4 (gT_mem 201 (by decide +kernel) (by decide +kernel)) (gT_mem 202 (by decide +kernel) (by decide +kernel)) (gT_mem 34 (by decide +kernel) (by decide +kernel)) (fun j hj => ?_) (by omega) (by omega) (by omega) ?_
  · rcases (by omega : j = 0 ∨ j = 1 ∨ j = 2 ∨ j = 3 ∨ j = 4 ∨ j = 5 ∨ j = 6 ∨ j = 7 ∨ j = 8 ∨ j = 9 ∨ j = 10 ∨ j = 11 ∨ j = 12) with rfl | rfl | rfl | rfl | rfl | rfl | rfl | rfl | rfl | rfl | rfl | rfl | rfl <;> rfl
  refine gs_dup dX5_init_63 ?_
  refine gs_initN hE hC (b := 110) (k2 := 1) (n2 := 600) dX5_init_64 lnI_X5_42 (host := "KitePainter") (by decide +kernel) (Nat.le_of_ble_eq_true rfl) (gi_X4 hE hX hl9 hC (b := 110) (by omega) vu_eq) (by omega) (by omega) (fun g6 q6 => ?_)
  have c6 : ∀ a, a < 110 → g6 a = p5 a := fun a ha => (q6.2.2 a ha).trans (vu_ne (by omega))
  have o6 : g6 0 = .inr (5, [.ref 1, .ref 11, .ref 21, .ref 103, .ref 106, .null, .int 0]) := (c6 0 (by omega)).trans u5
  refine gs_putF hC dX5_init_67 ck5 (by decide) fl_X5_43 (by omega) (by omega) o6 rfl rfl rfl (Nat.le_of_ble_eq_true rfl) ?_
  obtain ⟨p6, e6⟩ : ∃ x : hp, x = va_up g6 0 (.inr (5, ([.ref 1, .ref 11, .ref 21, .ref 103, .ref 106, .null, .int 0] : List Value).set 5 (.ref (110)))) := ⟨_, rfl⟩
  rw [← e6]
  have u6 : p6 0 = .inr (5, [.ref 1, .ref 11, .ref 21, .ref 103, .ref 106, .ref 110, .int 0]) := by rw [e6, vu_eq]; rfl
  have f6 : ∀ a, 0 < a → p6 a = g6 a := fun a ha => by rw [e6]; exact vu_ne (by omega)
  refine gs_aload dX5_init_70 rfl ?_
  refine gs_iconst (v := I (-1)) (by decide) dX5_init_71 ?_
  refine gs_put hC dX5_init_72 ck5 (by decide) fl_X5_47 (by omega) (by omega) u6 rfl rfl (Nat.le_of_ble_eq_true rfl) ?_
  obtain ⟨p7, e7⟩ : ∃ x : hp, x = va_up p6 0 (.inr (5, ([.ref 1, .ref 11, .ref 21, .ref 103, .ref 106, .ref 110, .int 0] : List Value).set 6 (.int (I (-1))))) := ⟨_, rfl⟩
  rw [← e7]
  have u7 : KO p7 (-1) := by show p7 0 = _; rw [e7, vu_eq]; rfl
  have f7 : ∀ a, 0 < a → p7 a = p6 a := fun a ha => by rw [e7]; exact vu_ne (by omega)
  have r6 : ∀ a, 0 < a → p7 a = g6 a := fun a ha => (f7 a ha).trans (f6 a ha)
  have r5 : ∀ a, 0 < a → a < 110 → p7 a = g5 a := fun a h0 ha => (r6 a h0).trans ((c6 a ha).trans (f5 a h0))
  have r4 : ∀ a, 0 < a → a < 106 → p7 a = g4 a := fun a h0 ha => (r5 a h0 (by omega)).trans ((c5 a ha).trans (f4 a h0))
  have r3 : ∀ a, 0 < a → a < 103 → p7 a = g3 a := fun a h0 ha => (r4 a h0 (by omega)).trans ((c4 a ha).trans (f3 a h0))
  have r2 : ∀ a, 0 < a → a < 21 → p7 a = g2 a := fun a h0 ha => (r3 a h0 (by omega)).trans ((c3 a ha).trans (f2 a h0))
  have r1 : ∀ a, 0 < a → a < 11 → p7 a = g1 a := fun a h0 ha => (r2 a h0 (by omega)).trans ((c2 a ha).trans (f1 a h0))
  refine gs_ret dX5_init_75 rfl ⟨u7, (q1.1.wk (by omega)).eq (fun a a1 a2 => r1 a (by omega) (by omega)), (q2.1.wk (by omega)).eq (fun a a1 a2 => r2 a (by omega) (by omega)), ?_, (r4 103 (by omega) (by omega)).trans q4.1, ?_, ?_, (r5 106 (by omega) (by omega)).trans q5.1, ?_, ?_, ?_, (r6 110 (by omega)).trans q6.1, ?_⟩ rfl rfl
  · obtain ⟨f, f1, f2⟩ := q3.2.1
    exact ⟨0, by omega, by omega, (r3 21 (by omega) (by omega)).trans q3.1, ⟨f, (r3 22 (by omega) (by omega)).trans f1, f2⟩, fun k hk => ⟨_, ((q3.2.2.1 k hk).wk (by omega)).eq (fun a a1 a2 => r3 a (by omega) (by omega))⟩, fun t ht => absurd ht (by omega)⟩
  · exact ⟨_, (r4 104 (by omega) (by omega)).trans q4.2.1, fun _ _ => rfl⟩
  · exact ⟨_, (r4 105 (by omega) (by omega)).trans q4.2.2.1, fun _ _ => rfl⟩
  · exact ⟨_, (r5 107 (by omega) (by omega)).trans q5.2.1, fun _ _ => rfl⟩
  · exact ⟨_, (r5 108 (by omega) (by omega)).trans q5.2.2.1, fun _ _ => rfl⟩
  · exact ⟨_, (r5 109 (by omega) (by omega)).trans q5.2.2.2.1, fun _ _ => rfl⟩
  · exact ⟨_, (r6 111 (by omega)).trans q6.2.1, fun _ _ => rfl⟩
end CN2
