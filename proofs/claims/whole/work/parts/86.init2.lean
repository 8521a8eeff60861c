/-! the two constructors -/
theorem lnI_X5_11 : lnI M_X5_init 11 M_X3_init := ⟨gT_mem 77 (by decide +kernel) (by decide +kernel), gT_mem 109 (by decide +kernel) (by decide +kernel), gT_mem 108 (by decide +kernel) (by decide +kernel), rfl, rfl, ⟨by decide +kernel, by decide +kernel, by decide +kernel⟩, by decide, by decide⟩
theorem lnI_X5_21 : lnI M_X5_init 21 M_X1_init := ⟨gT_mem 79 (by decide +kernel) (by decide +kernel), gT_mem 195 (by decide +kernel) (by decide +kernel), gT_mem 194 (by decide +kernel) (by decide +kernel), rfl, rfl, ⟨by decide +kernel, by decide +kernel, by decide +kernel⟩, by decide, by decide⟩
theorem lnI_X5_28 : lnI M_X5_init 28 M_X0_init := ⟨gT_mem 80 (by decide +kernel) (by decide +kernel), gT_mem 215 (by decide +kernel) (by decide +kernel), gT_mem 214 (by decide +kernel) (by decide +kernel), rfl, rfl, ⟨by decide +kernel, by decide +kernel, by decide +kernel⟩, by decide, by decide⟩
theorem lnI_X5_35 : lnI M_X5_init 35 M_X2_init := ⟨gT_mem 81 (by decide +kernel) (by decide +kernel), gT_mem 228 (by decide +kernel) (by decide +kernel), gT_mem 227 (by decide +kernel) (by decide +kernel), rfl, rfl, ⟨by decide +kernel, by decide +kernel, by decide +kernel⟩, by decide, by decide⟩
theorem lnI_X5_42 : lnI M_X5_init 42 M_X4_init := ⟨gT_mem 82 (by decide +kernel) (by decide +kernel), gT_mem 247 (by decide +kernel) (by decide +kernel), gT_mem 246 (by decide +kernel) (by decide +kernel), rfl, rfl, ⟨by decide +kernel, by decide +kernel, by decide +kernel⟩, by decide, by decide⟩
theorem dI6_0 : decode cX6_init 0 = .ok (.aload_n 0, 1) := by decide +kernel
theorem dI6_1 : decode cX6_init 1 = .ok (.invokespecial 3, 3) := by decide +kernel
theorem dI6_4 : decode cX6_init 4 = .ok (.aload_n 0, 1) := by decide +kernel
theorem dI6_5 : decode cX6_init 5 = .ok (.sipush 600, 3) := by decide +kernel
theorem dI6_8 : decode cX6_init 8 = .ok (.newarray .int, 2) := by decide +kernel
theorem dI6_10 : decode cX6_init 10 = .ok (.putfield 9, 3) := by decide +kernel
theorem dI6_13 : decode cX6_init 13 = .ok (.aload_n 0, 1) := by decide +kernel
theorem dI6_14 : decode cX6_init 14 = .ok (.iconst (-1), 1) := by decide +kernel
theorem dI6_15 : decode cX6_init 15 = .ok (.putfield 13, 3) := by decide +kernel
theorem dI6_18 : decode cX6_init 18 = .ok (.aload_n 0, 1) := by decide +kernel
theorem dI6_19 : decode cX6_init 19 = .ok (.sipush 746, 3) := by decide +kernel
theorem dI6_22 : decode cX6_init 22 = .ok (.newarray .int, 2) := by decide +kernel
theorem dI6_24 : decode cX6_init 24 = .ok (.putfield 17, 3) := by decide +kernel
theorem dI6_27 : decode cX6_init 27 = .ok (.aload_n 0, 1) := by decide +kernel
theorem dI6_28 : decode cX6_init 28 = .ok (.sipush 746, 3) := by decide +kernel
theorem dI6_31 : decode cX6_init 31 = .ok (.newarray .int, 2) := by decide +kernel
theorem dI6_33 : decode cX6_init 33 = .ok (.putfield 20, 3) := by decide +kernel
theorem dI6_36 : decode cX6_init 36 = .ok (.aload_n 0, 1) := by decide +kernel
theorem dI6_37 : decode cX6_init 37 = .ok (.sipush 746, 3) := by decide +kernel
theorem dI6_40 : decode cX6_init 40 = .ok (.newarray .int, 2) := by decide +kernel
theorem dI6_42 : decode cX6_init 42 = .ok (.putfield 23, 3) := by decide +kernel
theorem dI6_45 : decode cX6_init 45 = .ok (.aload_n 0, 1) := by decide +kernel
theorem dI6_46 : decode cX6_init 46 = .ok (.bipush 8, 2) := by decide +kernel
theorem dI6_48 : decode cX6_init 48 = .ok (.sipush 746, 3) := by decide +kernel
theorem dI6_51 : decode cX6_init 51 = .ok (.multianewarray 26 2, 4) := by decide +kernel
theorem dI6_55 : decode cX6_init 55 = .ok (.putfield 28, 3) := by decide +kernel
theorem dI6_58 : decode cX6_init 58 = .ok (.aload_n 0, 1) := by decide +kernel
theorem dI6_59 : decode cX6_init 59 = .ok (.sipush 180, 3) := by decide +kernel
theorem dI6_62 : decode cX6_init 62 = .ok (.newarray .int, 2) := by decide +kernel
theorem dI6_64 : decode cX6_init 64 = .ok (.putfield 31, 3) := by decide +kernel
theorem dI6_67 : decode cX6_init 67 = .ok (.aload_n 0, 1) := by decide +kernel
theorem dI6_68 : decode cX6_init 68 = .ok (.sipush 180, 3) := by decide +kernel
theorem dI6_71 : decode cX6_init 71 = .ok (.newarray .int, 2) := by decide +kernel
theorem dI6_73 : decode cX6_init 73 = .ok (.putfield 34, 3) := by decide +kernel
theorem dI6_76 : decode cX6_init 76 = .ok (.aload_n 0, 1) := by decide +kernel
theorem dI6_77 : decode cX6_init 77 = .ok (.sipush 180, 3) := by decide +kernel
theorem dI6_80 : decode cX6_init 80 = .ok (.newarray .int, 2) := by decide +kernel
theorem dI6_82 : decode cX6_init 82 = .ok (.putfield 37, 3) := by decide +kernel
theorem dI6_85 : decode cX6_init 85 = .ok (.aload_n 0, 1) := by decide +kernel
theorem dI6_86 : decode cX6_init 86 = .ok (.sipush 180, 3) := by decide +kernel
theorem dI6_89 : decode cX6_init 89 = .ok (.newarray .boolean, 2) := by decide +kernel
theorem dI6_91 : decode cX6_init 91 = .ok (.putfield 40, 3) := by decide +kernel
theorem dI6_94 : decode cX6_init 94 = .ok (.aload_n 0, 1) := by decide +kernel
theorem dI6_95 : decode cX6_init 95 = .ok (.sipush 180, 3) := by decide +kernel
theorem dI6_98 : decode cX6_init 98 = .ok (.newarray .int, 2) := by decide +kernel
theorem dI6_100 : decode cX6_init 100 = .ok (.putfield 44, 3) := by decide +kernel
theorem dI6_103 : decode cX6_init 103 = .ok (.aload_n 0, 1) := by decide +kernel
theorem dI6_104 : decode cX6_init 104 = .ok (.getfield 17, 3) := by decide +kernel
theorem dI6_107 : decode cX6_init 107 = .ok (.iconst 5, 1) := by decide +kernel
theorem dI6_108 : decode cX6_init 108 = .ok (.iconst 5, 1) := by decide +kernel
theorem dI6_109 : decode cX6_init 109 = .ok (.invokestatic 47, 3) := by decide +kernel
theorem dI6_112 : decode cX6_init 112 = .ok (.return_, 1) := by decide +kernel
theorem lnS_X6_47 : lnS M_X6_init 47 M_X6_layKite 3 := ⟨⟨gT_mem 961 (by decide +kernel) (by decide +kernel), mi_X6_layKite.1, mi_X6_layKite.2.1, ⟨by decide +kernel, by decide +kernel, by decide +kernel⟩, mi_X6_layKite.2.2, by decide, by decide⟩, mv_X6_layKite, by decide⟩
section CN2
variable {Γ : en} {l : Launch} {St : State → Prop} {z : Nat}
theorem gi_X5 (hE : envOK Γ St) {adV : Nat → Nat} (hX : envX Γ St adV) (hl9 : l.stackTraces = false) (hC : envC Γ St z) {h : hp} (ho : h 0 = .inr (5, [.null, .null, .null, .null, .null, .null, .int 0])) : MetG Γ l St z M_X5_init 1 111 9080 0 h (fun h1 => KO h1 (-1) ∧ SA 132 h1 1 (freshK 5 5) ∧ SA 132 h1 11 (freshK 5 5) ∧ CH 132 h1 (fun _ => freshK 5 5) 0 ∧ BO h1 ∧ row 0 (h1 104) 180 (fun _ => 0) ∧ row 0 (h1 105) 180 (fun _ => 0) ∧ FO h1 0 ∧ row 0 (h1 107) 180 (fun _ => 0) ∧ row 0 (h1 108) 180 (fun _ => 0) ∧ row 0 (h1 109) 180 (fun _ => 0) ∧ RO h1 (fun _ => 0) ∧ TR h1 (fun _ => 0)) := by
  refine gs_met (by decide) rfl (by decide) ?_
  refine gs_aload dX5_init_0 rfl ?_
  refine gs_obj0 dX5_init_1 (gT_mem 102 (by decide +kernel) (by decide +kernel)) (by decide) (by decide) ?_
  refine gs_aload dX5_init_4 rfl ?_
  refine gs_new hC (fs := [.int 0, .int 0, .int 0, .int 0, .int 0, .int 0, .null, .null, .null, .null, .null, .null, .null, .null, .null]) dX5_init_5 ck3 (gT_mem 105 (by decide +kernel) (by decide +kernel)) (gT_mem 106 (by decide +kernel) (by decide +kernel)) (gT_mem 77 (by decide +kernel) (by decide +kernel)) (fun j hj => ?_) (by omega) (by omega) (by omega) ?_
  · rcases (by omega : j = 0 ∨ j = 1 ∨ j = 2 ∨ j = 3 ∨ j = 4 ∨ j = 5 ∨ j = 6 ∨ j = 7 ∨ j = 8 ∨ j = 9 ∨ j = 10 ∨ j = 11 ∨ j = 12 ∨ j = 13 ∨ j = 14) with rfl | rfl | rfl | rfl | rfl | rfl | rfl | rfl | rfl | rfl | rfl | rfl | rfl | rfl | rfl <;> rfl
  refine gs_dup dX5_init_8 ?_
  refine gs_init hE hC (b := 1) (k2 := 9) (n2 := 740) dX5_init_9 lnI_X5_11 (gT_mem 107 (by decide +kernel) (by decide +kernel)) (Nat.le_of_ble_eq_true rfl) (gi_X3 hE hX hl9 hC (b := 1) (by omega) vu_eq) (by omega) (by omega) (fun g1 q1 => ?_)
  have c1 : ∀ a, a < 1 → g1 a = h a := fun a ha => (q1.2 a ha).trans (vu_ne (by omega))
  have o1 : g1 0 = .inr (5, [.null, .null, .null, .null, .null, .null, .int 0]) := (c1 0 (by omega)).trans ho
  refine gs_putF hC dX5_init_12 ck5 (by decide) fl_X5_12 (by omega) (by omega) o1 rfl rfl rfl (Nat.le_of_ble_eq_true rfl) ?_
  obtain ⟨p1, e1⟩ : ∃ x : hp, x = va_up g1 0 (.inr (5, ([.null, .null, .null, .null, .null, .null, .int 0] : List Value).set 0 (.ref (1)))) := ⟨_, rfl⟩
  rw [← e1]
  have u1 : p1 0 = .inr (5, [.ref 1, .null, .null, .null, .null, .null, .int 0]) := by rw [e1, vu_eq]; rfl
  have f1 : ∀ a, 0 < a → p1 a = g1 a := fun a ha => by rw [e1]; exact vu_ne (by omega)
  refine gs_aload dX5_init_15 rfl ?_
  refine gs_new hC (fs := [.int 0, .int 0, .int 0, .int 0, .int 0, .int 0, .null, .null, .null, .null, .null, .null, .null, .null, .null]) dX5_init_16 ck3 (gT_mem 105 (by decide +kernel) (by decide +kernel)) (gT_mem 106 (by decide +kernel) (by decide +kernel)) (gT_mem 77 (by decide +kernel) (by decide +kernel)) (fun j hj => ?_) (by omega) (by omega) (by omega) ?_
  · rcases (by omega : j = 0 ∨ j = 1 ∨ j = 2 ∨ j = 3 ∨ j = 4 ∨ j = 5 ∨ j = 6 ∨ j = 7 ∨ j = 8 ∨ j = 9 ∨ j = 10 ∨ j = 11 ∨ j = 12 ∨ j = 13 ∨ j = 14) with rfl | rfl | rfl | rfl | rfl | rfl | rfl | rfl | rfl | rfl | rfl | rfl | rfl | rfl | rfl <;> rfl
  refine gs_dup dX5_init_19 ?_
  refine gs_init hE hC (b := 11) (k2 := 9) (n2 := 740) dX5_init_20 lnI_X5_11 (gT_mem 107 (by decide +kernel) (by decide +kernel)) (Nat.le_of_ble_eq_true rfl) (gi_X3 hE hX hl9 hC (b := 11) (by omega) vu_eq) (by omega) (by omega) (fun g2 q2 => ?_)
  have c2 : ∀ a, a < 11 → g2 a = p1 a := fun a ha => (q2.2 a ha).trans (vu_ne (by omega))
  have o2 : g2 0 = .inr (5, [.ref 1, .null, .null, .null, .null, .null, .int 0]) := (c2 0 (by omega)).trans u1
  refine gs_putF hC dX5_init_23 ck5 (by decide) fl_X5_16 (by omega) (by omega) o2 rfl rfl rfl (Nat.le_of_ble_eq_true rfl) ?_
  obtain ⟨p2, e2⟩ : ∃ x : hp, x = va_up g2 0 (.inr (5, ([.ref 1, .null, .null, .null, .null, .null, .int 0] : List Value).set 1 (.ref (11)))) := ⟨_, rfl⟩
  rw [← e2]
  have u2 : p2 0 = .inr (5, [.ref 1, .ref 11, .null, .null, .null, .null, .int 0]) := by rw [e2, vu_eq]; rfl
  have f2 : ∀ a, 0 < a → p2 a = g2 a := fun a ha => by rw [e2]; exact vu_ne (by omega)
  refine gs_aload dX5_init_26 rfl ?_
  refine gs_new hC (fs := [.null, .int 0, .int 0]) dX5_init_27 ck1 (gT_mem 191 (by decide +kernel) (by decide +kernel)) (gT_mem 192 (by decide +kernel) (by decide +kernel)) (gT_mem 79 (by decide +kernel) (by decide +kernel)) (fun j hj => ?_) (by omega) (by omega) (by omega) ?_
  · rcases (by omega : j = 0 ∨ j = 1 ∨ j = 2) with rfl | rfl | rfl <;> rfl
  refine gs_dup dX5_init_30 ?_
  refine gs_init hE hC (b := 21) (k2 := 81) (n2 := 6048) dX5_init_31 lnI_X5_21 (gT_mem 193 (by decide +kernel) (by decide +kernel)) (Nat.le_of_ble_eq_true rfl) (gi_X1 hE hX hl9 hC vu_eq) (by omega) (by omega) (fun g3 q3 => ?_)
  have c3 : ∀ a, a < 21 → g3 a = p2 a := fun a ha => (q3.2.2.2 a ha).trans (vu_ne (by omega))
  have o3 : g3 0 = .inr (5, [.ref 1, .ref 11, .null, .null, .null, .null, .int 0]) := (c3 0 (by omega)).trans u2
  refine gs_putF hC dX5_init_34 ck5 (by decide) fl_X5_22 (by omega) (by omega) o3 rfl rfl rfl (Nat.le_of_ble_eq_true rfl) ?_
  obtain ⟨p3, e3⟩ : ∃ x : hp, x = va_up g3 0 (.inr (5, ([.ref 1, .ref 11, .null, .null, .null, .null, .int 0] : List Value).set 2 (.ref (21)))) := ⟨_, rfl⟩
  rw [← e3]
  have u3 : p3 0 = .inr (5, [.ref 1, .ref 11, .ref 21, .null, .null, .null, .int 0]) := by rw [e3, vu_eq]; rfl
  have f3 : ∀ a, 0 < a → p3 a = g3 a := fun a ha => by rw [e3]; exact vu_ne (by omega)
  refine gs_aload dX5_init_37 rfl ?_
  refine gs_new hC (fs := [.null, .null]) dX5_init_38 ck0 (gT_mem 211 (by decide +kernel) (by decide +kernel)) (gT_mem 212 (by decide +kernel) (by decide +kernel)) (gT_mem 80 (by decide +kernel) (by decide +kernel)) (fun j hj => ?_) (by omega) (by omega) (by omega) ?_
  · rcases (by omega : j = 0 ∨ j = 1) with rfl | rfl <;> rfl
  refine gs_dup dX5_init_41 ?_
  refine gs_initN hE hC (b := 103) (k2 := 2) (n2 := 360) dX5_init_42 lnI_X5_28 (host := "KitePainter") (by decide +kernel) (Nat.le_of_ble_eq_true rfl) (gi_X0 hE hX hl9 hC (b := 103) (by omega) vu_eq) (by omega) (by omega) (fun g4 q4 => ?_)
  have c4 : ∀ a, a < 103 → g4 a = p3 a := fun a ha => (q4.2.2.2 a ha).trans (vu_ne (by omega))
  have o4 : g4 0 = .inr (5, [.ref 1, .ref 11, .ref 21, .null, .null, .null, .int 0]) := (c4 0 (by omega)).trans u3
  refine gs_putF hC dX5_init_45 ck5 (by decide) fl_X5_29 (by omega) (by omega) o4 rfl rfl rfl (Nat.le_of_ble_eq_true rfl) ?_
  obtain ⟨p4, e4⟩ : ∃ x : hp, x = va_up g4 0 (.inr (5, ([.ref 1, .ref 11, .ref 21, .null, .null, .null, .int 0] : List Value).set 3 (.ref (103)))) := ⟨_, rfl⟩
  rw [← e4]
  have u4 : p4 0 = .inr (5, [.ref 1, .ref 11, .ref 21, .ref 103, .null, .null, .int 0]) := by rw [e4, vu_eq]; rfl
  have f4 : ∀ a, 0 < a → p4 a = g4 a := fun a ha => by rw [e4]; exact vu_ne (by omega)
  refine gs_aload dX5_init_48 rfl ?_
  refine gs_new hC (fs := [.null, .null, .null, .int 0]) dX5_init_49 ck2 (gT_mem 224 (by decide +kernel) (by decide +kernel)) (gT_mem 225 (by decide +kernel) (by decide +kernel)) (gT_mem 81 (by decide +kernel) (by decide +kernel)) (fun j hj => ?_) (by omega) (by omega) (by omega) ?_
  · rcases (by omega : j = 0 ∨ j = 1 ∨ j = 2 ∨ j = 3) with rfl | rfl | rfl | rfl <;> rfl
  refine gs_dup dX5_init_52 ?_
  refine gs_initN hE hC (b := 106) (k2 := 3) (n2 := 540) dX5_init_53 lnI_X5_35 (host := "KitePainter") (by decide +kernel) (Nat.le_of_ble_eq_true rfl) (gi_X2 hE hX hl9 hC (b := 106) (by omega) vu_eq) (by omega) (by omega) (fun g5 q5 => ?_)
  have c5 : ∀ a, a < 106 → g5 a = p4 a := fun a ha => (q5.2.2.2.2 a ha).trans (vu_ne (by omega))
  have o5 : g5 0 = .inr (5, [.ref 1, .ref 11, .ref 21, .ref 103, .null, .null, .int 0]) := (c5 0 (by omega)).trans u4
  refine gs_putF hC dX5_init_56 ck5 (by decide) fl_X5_36 (by omega) (by omega) o5 rfl rfl rfl (Nat.le_of_ble_eq_true rfl) ?_
  obtain ⟨p5, e5⟩ : ∃ x : hp, x = va_up g5 0 (.inr (5, ([.ref 1, .ref 11, .ref 21, .ref 103, .null, .null, .int 0] : List Value).set 4 (.ref (106)))) := ⟨_, rfl⟩
  rw [← e5]
  have u5 : p5 0 = .inr (5, [.ref 1, .ref 11, .ref 21, .ref 103, .ref 106, .null, .int 0]) := by rw [e5, vu_eq]; rfl
  have f5 : ∀ a, 0 < a → p5 a = g5 a := fun a ha => by rw [e5]; exact vu_ne (by omega)
  refine gs_aload dX5_init_59 rfl ?_
  refine gs_new hC (fs := [.null, .int 0, .int 0, .int 0, .int 0, .int 0, .int 0, .int 0, .int 0, .int 0, .int 0, .int 0, .int 0]) dX5_init_60 ck4 (gT_mem 243 (by decide +kernel) (by decide +kernel)) (gT_mem 244 (by decide +kernel) (by decide +kernel)) (gT_mem 82 (by decide +kernel) (by decide +kernel)) (fun j hj => ?_) (by omega) (by omega) (by omega) ?_
  · rcases (by omega : j = 0 ∨ j = 1 ∨ j = 2 ∨ j = 3 ∨ j = 4 ∨ j = 5 ∨ j = 6 ∨ j = 7 ∨ j = 8 ∨ j = 9 ∨ j = 10 ∨ j = 11 ∨ j = 12) with rfl | rfl | rfl | rfl | rfl | rfl | rfl | rfl | rfl | rfl | rfl | rfl | rfl <;> rfl
  refine gs_dup dX5_init_63 ?_
  refine gs_initN hE hC (b := 110) (k2 := 1) (n2 := 600) dX5_init_64 lnI_X5_42 (host := "KitePainter") (by decide +kernel) (Nat.le_of_ble_eq_true rfl) (gi_X4 hE hX hl9 hC (b := 110) (by omega) vu_eq) (by omega) (by omega) (fun g6 q6 => ?_)
  have c6 : ∀ a, a < 110 → g6 a = p5 a := fun a ha => (q6.2.2 a ha).trans (vu_ne (by omega))
  have o6 : g6 0 = .inr (5, [.ref 1, .ref 11, .ref 21, .ref 103, .ref 106, .null, .int 0]) := (c6 0 (by omega)).trans u5
  refine gs_putF hC dX5_init_67 ck5 (by decide) fl_X5_43 (by omega) (by omega) o6 rfl rfl rfl (Nat.le_of_ble_eq_true rfl) ?_
  obtain ⟨p6, e6⟩ : ∃ x : hp, x = va_up g6 0 (.inr (5, ([.ref 1, .ref 11, .ref 21, .ref 103, .ref 106, .null, .int 0] : List Value).set 5 (.ref (110)))) := ⟨_, rfl⟩
  rw [← e6]
  have u6 : p6 0 = .inr (5, [.ref 1, .ref 11, .ref 21, .ref 103, .ref 106, .ref 110, .int 0]) := by rw [e6, vu_eq]; rfl
  have f6 : ∀ a, 0 < a → p6 a = g6 a := fun a ha => by rw [e6]; exact vu_ne (by omega)
  refine gs_aload dX5_init_70 rfl ?_
  refine gs_iconst (v := I (-1)) (by decide) dX5_init_71 ?_
  refine gs_put hC dX5_init_72 ck5 (by decide) fl_X5_47 (by omega) (by omega) u6 rfl rfl (Nat.le_of_ble_eq_true rfl) ?_
  obtain ⟨p7, e7⟩ : ∃ x : hp, x = va_up p6 0 (.inr (5, ([.ref 1, .ref 11, .ref 21, .ref 103, .ref 106, .ref 110, .int 0] : List Value).set 6 (.int (I (-1))))) := ⟨_, rfl⟩
  rw [← e7]
  have u7 : KO p7 (-1) := by show p7 0 = _; rw [e7, vu_eq]; rfl
  have f7 : ∀ a, 0 < a → p7 a = p6 a := fun a ha => by rw [e7]; exact vu_ne (by omega)
  have r6 : ∀ a, 0 < a → p7 a = g6 a := fun a ha => (f7 a ha).trans (f6 a ha)
  have r5 : ∀ a, 0 < a → a < 110 → p7 a = g5 a := fun a h0 ha => (r6 a h0).trans ((c6 a ha).trans (f5 a h0))
  have r4 : ∀ a, 0 < a → a < 106 → p7 a = g4 a := fun a h0 ha => (r5 a h0 (by omega)).trans ((c5 a ha).trans (f4 a h0))
  have r3 : ∀ a, 0 < a → a < 103 → p7 a = g3 a := fun a h0 ha => (r4 a h0 (by omega)).trans ((c4 a ha).trans (f3 a h0))
  have r2 : ∀ a, 0 < a → a < 21 → p7 a = g2 a := fun a h0 ha => (r3 a h0 (by omega)).trans ((c3 a ha).trans (f2 a h0))
  have r1 : ∀ a, 0 < a → a < 11 → p7 a = g1 a := fun a h0 ha => (r2 a h0 (by omega)).trans ((c2 a ha).trans (f1 a h0))
  refine gs_ret dX5_init_75 rfl ⟨u7, (q1.1.wk (by omega)).eq (fun a a1 a2 => r1 a (by omega) (by omega)), (q2.1.wk (by omega)).eq (fun a a1 a2 => r2 a (by omega) (by omega)), ?_, (r4 103 (by omega) (by omega)).trans q4.1, ?_, ?_, (r5 106 (by omega) (by omega)).trans q5.1, ?_, ?_, ?_, (r6 110 (by omega)).trans q6.1, ?_⟩ rfl rfl
  · obtain ⟨f, f1, f2⟩ := q3.2.1
    exact ⟨0, by omega, by omega, (r3 21 (by omega) (by omega)).trans q3.1, ⟨f, (r3 22 (by omega) (by omega)).trans f1, f2⟩, fun k hk => ⟨_, ((q3.2.2.1 k hk).wk (by omega)).eq (fun a a1 a2 => r3 a (by omega) (by omega))⟩, fun t ht => absurd ht (by omega)⟩
  · exact ⟨_, (r4 104 (by omega) (by omega)).trans q4.2.1, fun _ _ => rfl⟩
  · exact ⟨_, (r4 105 (by omega) (by omega)).trans q4.2.2.1, fun _ _ => rfl⟩
  · exact ⟨_, (r5 107 (by omega) (by omega)).trans q5.2.1, fun _ _ => rfl⟩
  · exact ⟨_, (r5 108 (by omega) (by omega)).trans q5.2.2.1, fun _ _ => rfl⟩
  · exact ⟨_, (r5 109 (by omega) (by omega)).trans q5.2.2.2.1, fun _ _ => rfl⟩
  · exact ⟨_, (r6 111 (by omega)).trans q6.2.1, fun _ _ => rfl⟩
theorem gi_X6 (hE : envOK Γ St) {adV : Nat → Nat} (hX : envX Γ St adV) (hl9 : l.stackTraces = false) (hC : envC Γ St z) {h : hp} (ho : h 112 = .inr (6, [.int 0, .null, .int 0, .int 0, .int 0, .int 0, .int 0, .int 0, .null, .null, .null, .null, .int 0, .int 0, .int 0, .int 0, .null, .null, .null, .null, .null])) : MetG Γ l St z M_X6_init 113 18 9714 112 h (fun h1 => MD h1 (fun k => if k = 7 then -1 else 0) (freshK 5 5) ∧ MH h1 (fun _ => freshK 5 5) 0 ∧ BT h1 (fun _ => 0) ∧ sh 0 (h1 115) 746 ∧ sh 0 (h1 116) 746 ∧ sh 0 (h1 126) 180 ∧ sh 0 (h1 127) 180 ∧ sh 0 (h1 128) 180 ∧ sh 2 (h1 129) 180 ∧ sh 0 (h1 130) 180 ∧ ∀ a, a < 112 → h1 a = h a) := by
  refine gs_met (by decide) rfl (by decide) ?_
  refine gs_aload dI6_0 rfl ?_
  refine gs_obj0 dI6_1 (gT_mem 958 (by decide +kernel) (by decide +kernel)) (by decide) (by decide) ?_
  have l0 : ∀ a, a < 112 → h a = h a := fun _ _ => rfl
  refine gs_aload dI6_4 rfl ?_
  refine gs_sipush (v := nI 600) (by decide) dI6_5 ?_
  refine gs_newa_i hC (N := 600) dI6_8 rfl (by decide) (by omega) (by omega) (by omega) ?_
  obtain ⟨g1, e1⟩ : ∃ x : hp, x = va_up h (113) (.inl (0, 600, .inl (fun _ => 0))) := ⟨_, rfl⟩
  rw [← e1]
  have k112_1 : g1 112 = .inr (6, [.int 0, .null, .int 0, .int 0, .int 0, .int 0, .int 0, .int 0, .null, .null, .null, .null, .int 0, .int 0, .int 0, .int 0, .null, .null, .null, .null, .null]) := by rw [e1]; exact (vu_ne (by omega)).trans ho
  have k113_1 : g1 113 = .inl (0, 600, .inl (fun _ => 0)) := by rw [e1, vu_eq]
  have l1 : ∀ a, a < 112 → g1 a = h a := fun a ha => by rw [e1]; exact (vu_ne (by omega)).trans (l0 a ha)
  refine gs_putF hC dI6_10 ck6 (by decide) fl_X6_9 (by omega) (by omega) k112_1 rfl rfl rfl (Nat.le_of_ble_eq_true rfl) ?_
  obtain ⟨g2, e2⟩ : ∃ x : hp, x = va_up g1 (112) (.inr (6, ([.int 0, .null, .int 0, .int 0, .int 0, .int 0, .int 0, .int 0, .null, .null, .null, .null, .int 0, .int 0, .int 0, .int 0, .null, .null, .null, .null, .null] : List Value).set 1 (.ref (113)))) := ⟨_, rfl⟩
  rw [← e2]
  have k113_2 : g2 113 = .inl (0, 600, .inl (fun _ => 0)) := by rw [e2]; exact (vu_ne (by omega)).trans k113_1
  have k112_2 : g2 112 = .inr (6, [.int 0, .ref 113, .int 0, .int 0, .int 0, .int 0, .int 0, .int 0, .null, .null, .null, .null, .int 0, .int 0, .int 0, .int 0, .null, .null, .null, .null, .null]) := by rw [e2, vu_eq]; rfl
  have l2 : ∀ a, a < 112 → g2 a = h a := fun a ha => by rw [e2]; exact (vu_ne (by omega)).trans (l1 a ha)
  refine gs_aload dI6_13 rfl ?_
  refine gs_iconst (v := I (-1)) (by decide) dI6_14 ?_
  refine gs_put hC dI6_15 ck6 (by decide) fl_X6_13 (by omega) (by omega) k112_2 rfl rfl (Nat.le_of_ble_eq_true rfl) ?_
  obtain ⟨g3, e3⟩ : ∃ x : hp, x = va_up g2 (112) (.inr (6, ([.int 0, .ref 113, .int 0, .int 0, .int 0, .int 0, .int 0, .int 0, .null, .null, .null, .null, .int 0, .int 0, .int 0, .int 0, .null, .null, .null, .null, .null] : List Value).set 7 (.int (I (-1))))) := ⟨_, rfl⟩
  rw [← e3]
  have k113_3 : g3 113 = .inl (0, 600, .inl (fun _ => 0)) := by rw [e3]; exact (vu_ne (by omega)).trans k113_2
  have k112_3 : g3 112 = .inr (6, [.int 0, .ref 113, .int 0, .int 0, .int 0, .int 0, .int 0, .int (I (-1)), .null, .null, .null, .null, .int 0, .int 0, .int 0, .int 0, .null, .null, .null, .null, .null]) := by rw [e3, vu_eq]; rfl
  have l3 : ∀ a, a < 112 → g3 a = h a := fun a ha => by rw [e3]; exact (vu_ne (by omega)).trans (l2 a ha)
  refine gs_aload dI6_18 rfl ?_
  refine gs_sipush (v := nI 746) (by decide) dI6_19 ?_
  refine gs_newa_i hC (N := 746) dI6_22 rfl (by decide) (by omega) (by omega) (by omega) ?_
  obtain ⟨g4, e4⟩ : ∃ x : hp, x = va_up g3 (114) (.inl (0, 746, .inl (fun _ => 0))) := ⟨_, rfl⟩
  rw [← e4]
  have k112_4 : g4 112 = .inr (6, [.int 0, .ref 113, .int 0, .int 0, .int 0, .int 0, .int 0, .int (I (-1)), .null, .null, .null, .null, .int 0, .int 0, .int 0, .int 0, .null, .null, .null, .null, .null]) := by rw [e4]; exact (vu_ne (by omega)).trans k112_3
  have k113_4 : g4 113 = .inl (0, 600, .inl (fun _ => 0)) := by rw [e4]; exact (vu_ne (by omega)).trans k113_3
  have k114_4 : g4 114 = .inl (0, 746, .inl (fun _ => 0)) := by rw [e4, vu_eq]
  have l4 : ∀ a, a < 112 → g4 a = h a := fun a ha => by rw [e4]; exact (vu_ne (by omega)).trans (l3 a ha)
  refine gs_putF hC dI6_24 ck6 (by decide) fl_X6_17 (by omega) (by omega) k112_4 rfl rfl rfl (Nat.le_of_ble_eq_true rfl) ?_
  obtain ⟨g5, e5⟩ : ∃ x : hp, x = va_up g4 (112) (.inr (6, ([.int 0, .ref 113, .int 0, .int 0, .int 0, .int 0, .int 0, .int (I (-1)), .null, .null, .null, .null, .int 0, .int 0, .int 0, .int 0, .null, .null, .null, .null, .null] : List Value).set 8 (.ref (114)))) := ⟨_, rfl⟩
  rw [← e5]
  have k113_5 : g5 113 = .inl (0, 600, .inl (fun _ => 0)) := by rw [e5]; exact (vu_ne (by omega)).trans k113_4
  have k114_5 : g5 114 = .inl (0, 746, .inl (fun _ => 0)) := by rw [e5]; exact (vu_ne (by omega)).trans k114_4
  have k112_5 : g5 112 = .inr (6, [.int 0, .ref 113, .int 0, .int 0, .int 0, .int 0, .int 0, .int (I (-1)), .ref 114, .null, .null, .null, .int 0, .int 0, .int 0, .int 0, .null, .null, .null, .null, .null]) := by rw [e5, vu_eq]; rfl
  have l5 : ∀ a, a < 112 → g5 a = h a := fun a ha => by rw [e5]; exact (vu_ne (by omega)).trans (l4 a ha)
  refine gs_aload dI6_27 rfl ?_
  refine gs_sipush (v := nI 746) (by decide) dI6_28 ?_
  refine gs_newa_i hC (N := 746) dI6_31 rfl (by decide) (by omega) (by omega) (by omega) ?_
  obtain ⟨g6, e6⟩ : ∃ x : hp, x = va_up g5 (115) (.inl (0, 746, .inl (fun _ => 0))) := ⟨_, rfl⟩
  rw [← e6]
  have k112_6 : g6 112 = .inr (6, [.int 0, .ref 113, .int 0, .int 0, .int 0, .int 0, .int 0, .int (I (-1)), .ref 114, .null, .null, .null, .int 0, .int 0, .int 0, .int 0, .null, .null, .null, .null, .null]) := by rw [e6]; exact (vu_ne (by omega)).trans k112_5
  have k113_6 : g6 113 = .inl (0, 600, .inl (fun _ => 0)) := by rw [e6]; exact (vu_ne (by omega)).trans k113_5
  have k114_6 : g6 114 = .inl (0, 746, .inl (fun _ => 0)) := by rw [e6]; exact (vu_ne (by omega)).trans k114_5
  have k115_6 : g6 115 = .inl (0, 746, .inl (fun _ => 0)) := by rw [e6, vu_eq]
  have l6 : ∀ a, a < 112 → g6 a = h a := fun a ha => by rw [e6]; exact (vu_ne (by omega)).trans (l5 a ha)
  refine gs_putF hC dI6_33 ck6 (by decide) fl_X6_20 (by omega) (by omega) k112_6 rfl rfl rfl (Nat.le_of_ble_eq_true rfl) ?_
  obtain ⟨g7, e7⟩ : ∃ x : hp, x = va_up g6 (112) (.inr (6, ([.int 0, .ref 113, .int 0, .int 0, .int 0, .int 0, .int 0, .int (I (-1)), .ref 114, .null, .null, .null, .int 0, .int 0, .int 0, .int 0, .null, .null, .null, .null, .null] : List Value).set 9 (.ref (115)))) := ⟨_, rfl⟩
  rw [← e7]
  have k113_7 : g7 113 = .inl (0, 600, .inl (fun _ => 0)) := by rw [e7]; exact (vu_ne (by omega)).trans k113_6
  have k114_7 : g7 114 = .inl (0, 746, .inl (fun _ => 0)) := by rw [e7]; exact (vu_ne (by omega)).trans k114_6
  have k115_7 : g7 115 = .inl (0, 746, .inl (fun _ => 0)) := by rw [e7]; exact (vu_ne (by omega)).trans k115_6
  have k112_7 : g7 112 = .inr (6, [.int 0, .ref 113, .int 0, .int 0, .int 0, .int 0, .int 0, .int (I (-1)), .ref 114, .ref 115, .null, .null, .int 0, .int 0, .int 0, .int 0, .null, .null, .null, .null, .null]) := by rw [e7, vu_eq]; rfl
  have l7 : ∀ a, a < 112 → g7 a = h a := fun a ha => by rw [e7]; exact (vu_ne (by omega)).trans (l6 a ha)
  refine gs_aload dI6_36 rfl ?_
  refine gs_sipush (v := nI 746) (by decide) dI6_37 ?_
  refine gs_newa_i hC (N := 746) dI6_40 rfl (by decide) (by omega) (by omega) (by omega) ?_
  obtain ⟨g8, e8⟩ : ∃ x : hp, x = va_up g7 (116) (.inl (0, 746, .inl (fun _ => 0))) := ⟨_, rfl⟩
  rw [← e8]
  have k112_8 : g8 112 = .inr (6, [.int 0, .ref 113, .int 0, .int 0, .int 0, .int 0, .int 0, .int (I (-1)), .ref 114, .ref 115, .null, .null, .int 0, .int 0, .int 0, .int 0, .null, .null, .null, .null, .null]) := by rw [e8]; exact (vu_ne (by omega)).trans k112_7
  have k113_8 : g8 113 = .inl (0, 600, .inl (fun _ => 0)) := by rw [e8]; exact (vu_ne (by omega)).trans k113_7
  have k114_8 : g8 114 = .inl (0, 746, .inl (fun _ => 0)) := by rw [e8]; exact (vu_ne (by omega)).trans k114_7
  have k115_8 : g8 115 = .inl (0, 746, .inl (fun _ => 0)) := by rw [e8]; exact (vu_ne (by omega)).trans k115_7
  have k116_8 : g8 116 = .inl (0, 746, .inl (fun _ => 0)) := by rw [e8, vu_eq]
  have l8 : ∀ a, a < 112 → g8 a = h a := fun a ha => by rw [e8]; exact (vu_ne (by omega)).trans (l7 a ha)
  refine gs_putF hC dI6_42 ck6 (by decide) fl_X6_23 (by omega) (by omega) k112_8 rfl rfl rfl (Nat.le_of_ble_eq_true rfl) ?_
  obtain ⟨g9, e9⟩ : ∃ x : hp, x = va_up g8 (112) (.inr (6, ([.int 0, .ref 113, .int 0, .int 0, .int 0, .int 0, .int 0, .int (I (-1)), .ref 114, .ref 115, .null, .null, .int 0, .int 0, .int 0, .int 0, .null, .null, .null, .null, .null] : List Value).set 10 (.ref (116)))) := ⟨_, rfl⟩
  rw [← e9]
  have k113_9 : g9 113 = .inl (0, 600, .inl (fun _ => 0)) := by rw [e9]; exact (vu_ne (by omega)).trans k113_8
  have k114_9 : g9 114 = .inl (0, 746, .inl (fun _ => 0)) := by rw [e9]; exact (vu_ne (by omega)).trans k114_8
  have k115_9 : g9 115 = .inl (0, 746, .inl (fun _ => 0)) := by rw [e9]; exact (vu_ne (by omega)).trans k115_8
  have k116_9 : g9 116 = .inl (0, 746, .inl (fun _ => 0)) := by rw [e9]; exact (vu_ne (by omega)).trans k116_8
  have k112_9 : g9 112 = .inr (6, [.int 0, .ref 113, .int 0, .int 0, .int 0, .int 0, .int 0, .int (I (-1)), .ref 114, .ref 115, .ref 116, .null, .int 0, .int 0, .int 0, .int 0, .null, .null, .null, .null, .null]) := by rw [e9, vu_eq]; rfl
  have l9 : ∀ a, a < 112 → g9 a = h a := fun a ha => by rw [e9]; exact (vu_ne (by omega)).trans (l8 a ha)
  refine gs_aload dI6_45 rfl ?_
  refine gs_bipush (v := 8) (by decide) dI6_46 ?_
  refine gs_sipush (v := nI 746) (by decide) dI6_48 ?_
  refine gs_mna hC (K9 := 746) dI6_51 (gT_mem 959 (by decide +kernel) (by decide +kernel)) rfl rfl (by omega) (by omega) (by omega) (by omega) (fun m1 w1 w2 w3 => ?_)
  have k112_10 : m1 112 = .inr (6, [.int 0, .ref 113, .int 0, .int 0, .int 0, .int 0, .int 0, .int (I (-1)), .ref 114, .ref 115, .ref 116, .null, .int 0, .int 0, .int 0, .int 0, .null, .null, .null, .null, .null]) := (w1 _ (by omega)).trans k112_9
  have k113_10 : m1 113 = .inl (0, 600, .inl (fun _ => 0)) := (w1 _ (by omega)).trans k113_9
  have k114_10 : m1 114 = .inl (0, 746, .inl (fun _ => 0)) := (w1 _ (by omega)).trans k114_9
  have k115_10 : m1 115 = .inl (0, 746, .inl (fun _ => 0)) := (w1 _ (by omega)).trans k115_9
  have k116_10 : m1 116 = .inl (0, 746, .inl (fun _ => 0)) := (w1 _ (by omega)).trans k116_9
  have l10 : ∀ a, a < 112 → m1 a = h a := fun a ha => (w1 a (by omega)).trans (l9 a ha)
  have z117_10 : m1 117 = .inl (4, 8, .inr (.inr (.inr (.inr (fun i => if i < 8 then some (118 + i) else none))))) := w2
  have z118_10 : m1 118 = .inl (0, 746, .inl (fun _ => 0)) := w3 0 (by omega)
  have z119_10 : m1 119 = .inl (0, 746, .inl (fun _ => 0)) := w3 1 (by omega)
  have z120_10 : m1 120 = .inl (0, 746, .inl (fun _ => 0)) := w3 2 (by omega)
  have z121_10 : m1 121 = .inl (0, 746, .inl (fun _ => 0)) := w3 3 (by omega)
  have z122_10 : m1 122 = .inl (0, 746, .inl (fun _ => 0)) := w3 4 (by omega)
  have z123_10 : m1 123 = .inl (0, 746, .inl (fun _ => 0)) := w3 5 (by omega)
  have z124_10 : m1 124 = .inl (0, 746, .inl (fun _ => 0)) := w3 6 (by omega)
  have z125_10 : m1 125 = .inl (0, 746, .inl (fun _ => 0)) := w3 7 (by omega)
  refine gs_putF hC dI6_55 ck6 (by decide) fl_X6_28 (by omega) (by omega) k112_10 rfl rfl rfl (Nat.le_of_ble_eq_true rfl) ?_
  obtain ⟨g11, e11⟩ : ∃ x : hp, x = va_up m1 (112) (.inr (6, ([.int 0, .ref 113, .int 0, .int 0, .int 0, .int 0, .int 0, .int (I (-1)), .ref 114, .ref 115, .ref 116, .null, .int 0, .int 0, .int 0, .int 0, .null, .null, .null, .null, .null] : List Value).set 11 (.ref (117)))) := ⟨_, rfl⟩
  rw [← e11]
  have k113_11 : g11 113 = .inl (0, 600, .inl (fun _ => 0)) := by rw [e11]; exact (vu_ne (by omega)).trans k113_10
  have k114_11 : g11 114 = .inl (0, 746, .inl (fun _ => 0)) := by rw [e11]; exact (vu_ne (by omega)).trans k114_10
  have k115_11 : g11 115 = .inl (0, 746, .inl (fun _ => 0)) := by rw [e11]; exact (vu_ne (by omega)).trans k115_10
  have k116_11 : g11 116 = .inl (0, 746, .inl (fun _ => 0)) := by rw [e11]; exact (vu_ne (by omega)).trans k116_10
  have k117_11 : g11 117 = .inl (4, 8, .inr (.inr (.inr (.inr (fun i => if i < 8 then some (118 + i) else none))))) := by rw [e11]; exact (vu_ne (by omega)).trans z117_10
  have k118_11 : g11 118 = .inl (0, 746, .inl (fun _ => 0)) := by rw [e11]; exact (vu_ne (by omega)).trans z118_10
  have k119_11 : g11 119 = .inl (0, 746, .inl (fun _ => 0)) := by rw [e11]; exact (vu_ne (by omega)).trans z119_10
  have k120_11 : g11 120 = .inl (0, 746, .inl (fun _ => 0)) := by rw [e11]; exact (vu_ne (by omega)).trans z120_10
  have k121_11 : g11 121 = .inl (0, 746, .inl (fun _ => 0)) := by rw [e11]; exact (vu_ne (by omega)).trans z121_10
  have k122_11 : g11 122 = .inl (0, 746, .inl (fun _ => 0)) := by rw [e11]; exact (vu_ne (by omega)).trans z122_10
  have k123_11 : g11 123 = .inl (0, 746, .inl (fun _ => 0)) := by rw [e11]; exact (vu_ne (by omega)).trans z123_10
  have k124_11 : g11 124 = .inl (0, 746, .inl (fun _ => 0)) := by rw [e11]; exact (vu_ne (by omega)).trans z124_10
  have k125_11 : g11 125 = .inl (0, 746, .inl (fun _ => 0)) := by rw [e11]; exact (vu_ne (by omega)).trans z125_10
  have k112_11 : g11 112 = .inr (6, [.int 0, .ref 113, .int 0, .int 0, .int 0, .int 0, .int 0, .int (I (-1)), .ref 114, .ref 115, .ref 116, .ref 117, .int 0, .int 0, .int 0, .int 0, .null, .null, .null, .null, .null]) := by rw [e11, vu_eq]; rfl
  have l11 : ∀ a, a < 112 → g11 a = h a := fun a ha => by rw [e11]; exact (vu_ne (by omega)).trans (l10 a ha)
  refine gs_aload dI6_58 rfl ?_
  refine gs_sipush (v := nI 180) (by decide) dI6_59 ?_
  refine gs_newa_i hC (N := 180) dI6_62 rfl (by decide) (by omega) (by omega) (by omega) ?_
  obtain ⟨g12, e12⟩ : ∃ x : hp, x = va_up g11 (126) (.inl (0, 180, .inl (fun _ => 0))) := ⟨_, rfl⟩
  rw [← e12]
  have k112_12 : g12 112 = .inr (6, [.int 0, .ref 113, .int 0, .int 0, .int 0, .int 0, .int 0, .int (I (-1)), .ref 114, .ref 115, .ref 116, .ref 117, .int 0, .int 0, .int 0, .int 0, .null, .null, .null, .null, .null]) := by rw [e12]; exact (vu_ne (by omega)).trans k112_11
  have k113_12 : g12 113 = .inl (0, 600, .inl (fun _ => 0)) := by rw [e12]; exact (vu_ne (by omega)).trans k113_11
  have k114_12 : g12 114 = .inl (0, 746, .inl (fun _ => 0)) := by rw [e12]; exact (vu_ne (by omega)).trans k114_11
  have k115_12 : g12 115 = .inl (0, 746, .inl (fun _ => 0)) := by rw [e12]; exact (vu_ne (by omega)).trans k115_11
  have k116_12 : g12 116 = .inl (0, 746, .inl (fun _ => 0)) := by rw [e12]; exact (vu_ne (by omega)).trans k116_11
  have k117_12 : g12 117 = .inl (4, 8, .inr (.inr (.inr (.inr (fun i => if i < 8 then some (118 + i) else none))))) := by rw [e12]; exact (vu_ne (by omega)).trans k117_11
  have k118_12 : g12 118 = .inl (0, 746, .inl (fun _ => 0)) := by rw [e12]; exact (vu_ne (by omega)).trans k118_11
  have k119_12 : g12 119 = .inl (0, 746, .inl (fun _ => 0)) := by rw [e12]; exact (vu_ne (by omega)).trans k119_11
  have k120_12 : g12 120 = .inl (0, 746, .inl (fun _ => 0)) := by rw [e12]; exact (vu_ne (by omega)).trans k120_11
  have k121_12 : g12 121 = .inl (0, 746, .inl (fun _ => 0)) := by rw [e12]; exact (vu_ne (by omega)).trans k121_11
  have k122_12 : g12 122 = .inl (0, 746, .inl (fun _ => 0)) := by rw [e12]; exact (vu_ne (by omega)).trans k122_11
  have k123_12 : g12 123 = .inl (0, 746, .inl (fun _ => 0)) := by rw [e12]; exact (vu_ne (by omega)).trans k123_11
  have k124_12 : g12 124 = .inl (0, 746, .inl (fun _ => 0)) := by rw [e12]; exact (vu_ne (by omega)).trans k124_11
  have k125_12 : g12 125 = .inl (0, 746, .inl (fun _ => 0)) := by rw [e12]; exact (vu_ne (by omega)).trans k125_11
  have k126_12 : g12 126 = .inl (0, 180, .inl (fun _ => 0)) := by rw [e12, vu_eq]
  have l12 : ∀ a, a < 112 → g12 a = h a := fun a ha => by rw [e12]; exact (vu_ne (by omega)).trans (l11 a ha)
  refine gs_putF hC dI6_64 ck6 (by decide) fl_X6_31 (by omega) (by omega) k112_12 rfl rfl rfl (Nat.le_of_ble_eq_true rfl) ?_
  obtain ⟨g13, e13⟩ : ∃ x : hp, x = va_up g12 (112) (.inr (6, ([.int 0, .ref 113, .int 0, .int 0, .int 0, .int 0, .int 0, .int (I (-1)), .ref 114, .ref 115, .ref 116, .ref 117, .int 0, .int 0, .int 0, .int 0, .null, .null, .null, .null, .null] : List Value).set 16 (.ref (126)))) := ⟨_, rfl⟩
  rw [← e13]
  have k113_13 : g13 113 = .inl (0, 600, .inl (fun _ => 0)) := by rw [e13]; exact (vu_ne (by omega)).trans k113_12
  have k114_13 : g13 114 = .inl (0, 746, .inl (fun _ => 0)) := by rw [e13]; exact (vu_ne (by omega)).trans k114_12
  have k115_13 : g13 115 = .inl (0, 746, .inl (fun _ => 0)) := by rw [e13]; exact (vu_ne (by omega)).trans k115_12
  have k116_13 : g13 116 = .inl (0, 746, .inl (fun _ => 0)) := by rw [e13]; exact (vu_ne (by omega)).trans k116_12
  have k117_13 : g13 117 = .inl (4, 8, .inr (.inr (.inr (.inr (fun i => if i < 8 then some (118 + i) else none))))) := by rw [e13]; exact (vu_ne (by omega)).trans k117_12
  have k118_13 : g13 118 = .inl (0, 746, .inl (fun _ => 0)) := by rw [e13]; exact (vu_ne (by omega)).trans k118_12
  have k119_13 : g13 119 = .inl (0, 746, .inl (fun _ => 0)) := by rw [e13]; exact (vu_ne (by omega)).trans k119_12
  have k120_13 : g13 120 = .inl (0, 746, .inl (fun _ => 0)) := by rw [e13]; exact (vu_ne (by omega)).trans k120_12
  have k121_13 : g13 121 = .inl (0, 746, .inl (fun _ => 0)) := by rw [e13]; exact (vu_ne (by omega)).trans k121_12
  have k122_13 : g13 122 = .inl (0, 746, .inl (fun _ => 0)) := by rw [e13]; exact (vu_ne (by omega)).trans k122_12
  have k123_13 : g13 123 = .inl (0, 746, .inl (fun _ => 0)) := by rw [e13]; exact (vu_ne (by omega)).trans k123_12
  have k124_13 : g13 124 = .inl (0, 746, .inl (fun _ => 0)) := by rw [e13]; exact (vu_ne (by omega)).trans k124_12
  have k125_13 : g13 125 = .inl (0, 746, .inl (fun _ => 0)) := by rw [e13]; exact (vu_ne (by omega)).trans k125_12
  have k126_13 : g13 126 = .inl (0, 180, .inl (fun _ => 0)) := by rw [e13]; exact (vu_ne (by omega)).trans k126_12
  have k112_13 : g13 112 = .inr (6, [.int 0, .ref 113, .int 0, .int 0, .int 0, .int 0, .int 0, .int (I (-1)), .ref 114, .ref 115, .ref 116, .ref 117, .int 0, .int 0, .int 0, .int 0, .ref 126, .null, .null, .null, .null]) := by rw [e13, vu_eq]; rfl
  have l13 : ∀ a, a < 112 → g13 a = h a := fun a ha => by rw [e13]; exact (vu_ne (by omega)).trans (l12 a ha)
  refine gs_aload dI6_67 rfl ?_
  refine gs_sipush (v := nI 180) (by decide) dI6_68 ?_
  refine gs_newa_i hC (N := 180) dI6_71 rfl (by decide) (by omega) (by omega) (by omega) ?_
  obtain ⟨g14, e14⟩ : ∃ x : hp, x = va_up g13 (127) (.inl (0, 180, .inl (fun _ => 0))) := ⟨_, rfl⟩
  rw [← e14]
  have k112_14 : g14 112 = .inr (6, [.int 0, .ref 113, .int 0, .int 0, .int 0, .int 0, .int 0, .int (I (-1)), .ref 114, .ref 115, .ref 116, .ref 117, .int 0, .int 0, .int 0, .int 0, .ref 126, .null, .null, .null, .null]) := by rw [e14]; exact (vu_ne (by omega)).trans k112_13
  have k113_14 : g14 113 = .inl (0, 600, .inl (fun _ => 0)) := by rw [e14]; exact (vu_ne (by omega)).trans k113_13
  have k114_14 : g14 114 = .inl (0, 746, .inl (fun _ => 0)) := by rw [e14]; exact (vu_ne (by omega)).trans k114_13
  have k115_14 : g14 115 = .inl (0, 746, .inl (fun _ => 0)) := by rw [e14]; exact (vu_ne (by omega)).trans k115_13
  have k116_14 : g14 116 = .inl (0, 746, .inl (fun _ => 0)) := by rw [e14]; exact (vu_ne (by omega)).trans k116_13
  have k117_14 : g14 117 = .inl (4, 8, .inr (.inr (.inr (.inr (fun i => if i < 8 then some (118 + i) else none))))) := by rw [e14]; exact (vu_ne (by omega)).trans k117_13
  have k118_14 : g14 118 = .inl (0, 746, .inl (fun _ => 0)) := by rw [e14]; exact (vu_ne (by omega)).trans k118_13
  have k119_14 : g14 119 = .inl (0, 746, .inl (fun _ => 0)) := by rw [e14]; exact (vu_ne (by omega)).trans k119_13
  have k120_14 : g14 120 = .inl (0, 746, .inl (fun _ => 0)) := by rw [e14]; exact (vu_ne (by omega)).trans k120_13
  have k121_14 : g14 121 = .inl (0, 746, .inl (fun _ => 0)) := by rw [e14]; exact (vu_ne (by omega)).trans k121_13
  have k122_14 : g14 122 = .inl (0, 746, .inl (fun _ => 0)) := by rw [e14]; exact (vu_ne (by omega)).trans k122_13
  have k123_14 : g14 123 = .inl (0, 746, .inl (fun _ => 0)) := by rw [e14]; exact (vu_ne (by omega)).trans k123_13
  have k124_14 : g14 124 = .inl (0, 746, .inl (fun _ => 0)) := by rw [e14]; exact (vu_ne (by omega)).trans k124_13
  have k125_14 : g14 125 = .inl (0, 746, .inl (fun _ => 0)) := by rw [e14]; exact (vu_ne (by omega)).trans k125_13
  have k126_14 : g14 126 = .inl (0, 180, .inl (fun _ => 0)) := by rw [e14]; exact (vu_ne (by omega)).trans k126_13
  have k127_14 : g14 127 = .inl (0, 180, .inl (fun _ => 0)) := by rw [e14, vu_eq]
  have l14 : ∀ a, a < 112 → g14 a = h a := fun a ha => by rw [e14]; exact (vu_ne (by omega)).trans (l13 a ha)
  refine gs_putF hC dI6_73 ck6 (by decide) fl_X6_34 (by omega) (by omega) k112_14 rfl rfl rfl (Nat.le_of_ble_eq_true rfl) ?_
  obtain ⟨g15, e15⟩ : ∃ x : hp, x = va_up g14 (112) (.inr (6, ([.int 0, .ref 113, .int 0, .int 0, .int 0, .int 0, .int 0, .int (I (-1)), .ref 114, .ref 115, .ref 116, .ref 117, .int 0, .int 0, .int 0, .int 0, .ref 126, .null, .null, .null, .null] : List Value).set 17 (.ref (127)))) := ⟨_, rfl⟩
  rw [← e15]
  have k113_15 : g15 113 = .inl (0, 600, .inl (fun _ => 0)) := by rw [e15]; exact (vu_ne (by omega)).trans k113_14
  have k114_15 : g15 114 = .inl (0, 746, .inl (fun _ => 0)) := by rw [e15]; exact (vu_ne (by omega)).trans k114_14
  have k115_15 : g15 115 = .inl (0, 746, .inl (fun _ => 0)) := by rw [e15]; exact (vu_ne (by omega)).trans k115_14
  have k116_15 : g15 116 = .inl (0, 746, .inl (fun _ => 0)) := by rw [e15]; exact (vu_ne (by omega)).trans k116_14
  have k117_15 : g15 117 = .inl (4, 8, .inr (.inr (.inr (.inr (fun i => if i < 8 then some (118 + i) else none))))) := by rw [e15]; exact (vu_ne (by omega)).trans k117_14
  have k118_15 : g15 118 = .inl (0, 746, .inl (fun _ => 0)) := by rw [e15]; exact (vu_ne (by omega)).trans k118_14
  have k119_15 : g15 119 = .inl (0, 746, .inl (fun _ => 0)) := by rw [e15]; exact (vu_ne (by omega)).trans k119_14
  have k120_15 : g15 120 = .inl (0, 746, .inl (fun _ => 0)) := by rw [e15]; exact (vu_ne (by omega)).trans k120_14
  have k121_15 : g15 121 = .inl (0, 746, .inl (fun _ => 0)) := by rw [e15]; exact (vu_ne (by omega)).trans k121_14
  have k122_15 : g15 122 = .inl (0, 746, .inl (fun _ => 0)) := by rw [e15]; exact (vu_ne (by omega)).trans k122_14
  have k123_15 : g15 123 = .inl (0, 746, .inl (fun _ => 0)) := by rw [e15]; exact (vu_ne (by omega)).trans k123_14
  have k124_15 : g15 124 = .inl (0, 746, .inl (fun _ => 0)) := by rw [e15]; exact (vu_ne (by omega)).trans k124_14
  have k125_15 : g15 125 = .inl (0, 746, .inl (fun _ => 0)) := by rw [e15]; exact (vu_ne (by omega)).trans k125_14
  have k126_15 : g15 126 = .inl (0, 180, .inl (fun _ => 0)) := by rw [e15]; exact (vu_ne (by omega)).trans k126_14
  have k127_15 : g15 127 = .inl (0, 180, .inl (fun _ => 0)) := by rw [e15]; exact (vu_ne (by omega)).trans k127_14
  have k112_15 : g15 112 = .inr (6, [.int 0, .ref 113, .int 0, .int 0, .int 0, .int 0, .int 0, .int (I (-1)), .ref 114, .ref 115, .ref 116, .ref 117, .int 0, .int 0, .int 0, .int 0, .ref 126, .ref 127, .null, .null, .null]) := by rw [e15, vu_eq]; rfl
  have l15 : ∀ a, a < 112 → g15 a = h a := fun a ha => by rw [e15]; exact (vu_ne (by omega)).trans (l14 a ha)
  refine gs_aload dI6_76 rfl ?_
  refine gs_sipush (v := nI 180) (by decide) dI6_77 ?_
  refine gs_newa_i hC (N := 180) dI6_80 rfl (by decide) (by omega) (by omega) (by omega) ?_
  obtain ⟨g16, e16⟩ : ∃ x : hp, x = va_up g15 (128) (.inl (0, 180, .inl (fun _ => 0))) := ⟨_, rfl⟩
  rw [← e16]
  have k112_16 : g16 112 = .inr (6, [.int 0, .ref 113, .int 0, .int 0, .int 0, .int 0, .int 0, .int (I (-1)), .ref 114, .ref 115, .ref 116, .ref 117, .int 0, .int 0, .int 0, .int 0, .ref 126, .ref 127, .null, .null, .null]) := by rw [e16]; exact (vu_ne (by omega)).trans k112_15
  have k113_16 : g16 113 = .inl (0, 600, .inl (fun _ => 0)) := by rw [e16]; exact (vu_ne (by omega)).trans k113_15
  have k114_16 : g16 114 = .inl (0, 746, .inl (fun _ => 0)) := by rw [e16]; exact (vu_ne (by omega)).trans k114_15
  have k115_16 : g16 115 = .inl (0, 746, .inl (fun _ => 0)) := by rw [e16]; exact (vu_ne (by omega)).trans k115_15
  have k116_16 : g16 116 = .inl (0, 746, .inl (fun _ => 0)) := by rw [e16]; exact (vu_ne (by omega)).trans k116_15
  have k117_16 : g16 117 = .inl (4, 8, .inr (.inr (.inr (.inr (fun i => if i < 8 then some (118 + i) else none))))) := by rw [e16]; exact (vu_ne (by omega)).trans k117_15
  have k118_16 : g16 118 = .inl (0, 746, .inl (fun _ => 0)) := by rw [e16]; exact (vu_ne (by omega)).trans k118_15
  have k119_16 : g16 119 = .inl (0, 746, .inl (fun _ => 0)) := by rw [e16]; exact (vu_ne (by omega)).trans k119_15
  have k120_16 : g16 120 = .inl (0, 746, .inl (fun _ => 0)) := by rw [e16]; exact (vu_ne (by omega)).trans k120_15
  have k121_16 : g16 121 = .inl (0, 746, .inl (fun _ => 0)) := by rw [e16]; exact (vu_ne (by omega)).trans k121_15
  have k122_16 : g16 122 = .inl (0, 746, .inl (fun _ => 0)) := by rw [e16]; exact (vu_ne (by omega)).trans k122_15
  have k123_16 : g16 123 = .inl (0, 746, .inl (fun _ => 0)) := by rw [e16]; exact (vu_ne (by omega)).trans k123_15
  have k124_16 : g16 124 = .inl (0, 746, .inl (fun _ => 0)) := by rw [e16]; exact (vu_ne (by omega)).trans k124_15
  have k125_16 : g16 125 = .inl (0, 746, .inl (fun _ => 0)) := by rw [e16]; exact (vu_ne (by omega)).trans k125_15
  have k126_16 : g16 126 = .inl (0, 180, .inl (fun _ => 0)) := by rw [e16]; exact (vu_ne (by omega)).trans k126_15
  have k127_16 : g16 127 = .inl (0, 180, .inl (fun _ => 0)) := by rw [e16]; exact (vu_ne (by omega)).trans k127_15
  have k128_16 : g16 128 = .inl (0, 180, .inl (fun _ => 0)) := by rw [e16, vu_eq]
  have l16 : ∀ a, a < 112 → g16 a = h a := fun a ha => by rw [e16]; exact (vu_ne (by omega)).trans (l15 a ha)
  refine gs_putF hC dI6_82 ck6 (by decide) fl_X6_37 (by omega) (by omega) k112_16 rfl rfl rfl (Nat.le_of_ble_eq_true rfl) ?_
  obtain ⟨g17, e17⟩ : ∃ x : hp, x = va_up g16 (112) (.inr (6, ([.int 0, .ref 113, .int 0, .int 0, .int 0, .int 0, .int 0, .int (I (-1)), .ref 114, .ref 115, .ref 116, .ref 117, .int 0, .int 0, .int 0, .int 0, .ref 126, .ref 127, .null, .null, .null] : List Value).set 18 (.ref (128)))) := ⟨_, rfl⟩
  rw [← e17]
  have k113_17 : g17 113 = .inl (0, 600, .inl (fun _ => 0)) := by rw [e17]; exact (vu_ne (by omega)).trans k113_16
  have k114_17 : g17 114 = .inl (0, 746, .inl (fun _ => 0)) := by rw [e17]; exact (vu_ne (by omega)).trans k114_16
  have k115_17 : g17 115 = .inl (0, 746, .inl (fun _ => 0)) := by rw [e17]; exact (vu_ne (by omega)).trans k115_16
  have k116_17 : g17 116 = .inl (0, 746, .inl (fun _ => 0)) := by rw [e17]; exact (vu_ne (by omega)).trans k116_16
  have k117_17 : g17 117 = .inl (4, 8, .inr (.inr (.inr (.inr (fun i => if i < 8 then some (118 + i) else none))))) := by rw [e17]; exact (vu_ne (by omega)).trans k117_16
  have k118_17 : g17 118 = .inl (0, 746, .inl (fun _ => 0)) := by rw [e17]; exact (vu_ne (by omega)).trans k118_16
  have k119_17 : g17 119 = .inl (0, 746, .inl (fun _ => 0)) := by rw [e17]; exact (vu_ne (by omega)).trans k119_16
  have k120_17 : g17 120 = .inl (0, 746, .inl (fun _ => 0)) := by rw [e17]; exact (vu_ne (by omega)).trans k120_16
  have k121_17 : g17 121 = .inl (0, 746, .inl (fun _ => 0)) := by rw [e17]; exact (vu_ne (by omega)).trans k121_16
  have k122_17 : g17 122 = .inl (0, 746, .inl (fun _ => 0)) := by rw [e17]; exact (vu_ne (by omega)).trans k122_16
  have k123_17 : g17 123 = .inl (0, 746, .inl (fun _ => 0)) := by rw [e17]; exact (vu_ne (by omega)).trans k123_16
  have k124_17 : g17 124 = .inl (0, 746, .inl (fun _ => 0)) := by rw [e17]; exact (vu_ne (by omega)).trans k124_16
  have k125_17 : g17 125 = .inl (0, 746, .inl (fun _ => 0)) := by rw [e17]; exact (vu_ne (by omega)).trans k125_16
  have k126_17 : g17 126 = .inl (0, 180, .inl (fun _ => 0)) := by rw [e17]; exact (vu_ne (by omega)).trans k126_16
  have k127_17 : g17 127 = .inl (0, 180, .inl (fun _ => 0)) := by rw [e17]; exact (vu_ne (by omega)).trans k127_16
  have k128_17 : g17 128 = .inl (0, 180, .inl (fun _ => 0)) := by rw [e17]; exact (vu_ne (by omega)).trans k128_16
  have k112_17 : g17 112 = .inr (6, [.int 0, .ref 113, .int 0, .int 0, .int 0, .int 0, .int 0, .int (I (-1)), .ref 114, .ref 115, .ref 116, .ref 117, .int 0, .int 0, .int 0, .int 0, .ref 126, .ref 127, .ref 128, .null, .null]) := by rw [e17, vu_eq]; rfl
  have l17 : ∀ a, a < 112 → g17 a = h a := fun a ha => by rw [e17]; exact (vu_ne (by omega)).trans (l16 a ha)
  refine gs_aload dI6_85 rfl ?_
  refine gs_sipush (v := nI 180) (by decide) dI6_86 ?_
  refine gs_newa_z hC (N := 180) dI6_89 rfl (by decide) (by omega) (by omega) (by omega) ?_
  obtain ⟨g18, e18⟩ : ∃ x : hp, x = va_up g17 (129) (.inl (2, 180, .inl (fun _ => 0))) := ⟨_, rfl⟩
  rw [← e18]
  have k112_18 : g18 112 = .inr (6, [.int 0, .ref 113, .int 0, .int 0, .int 0, .int 0, .int 0, .int (I (-1)), .ref 114, .ref 115, .ref 116, .ref 117, .int 0, .int 0, .int 0, .int 0, .ref 126, .ref 127, .ref 128, .null, .null]) := by rw [e18]; exact (vu_ne (by omega)).trans k112_17
  have k113_18 : g18 113 = .inl (0, 600, .inl (fun _ => 0)) := by rw [e18]; exact (vu_ne (by omega)).trans k113_17
  have k114_18 : g18 114 = .inl (0, 746, .inl (fun _ => 0)) := by rw [e18]; exact (vu_ne (by omega)).trans k114_17
  have k115_18 : g18 115 = .inl (0, 746, .inl (fun _ => 0)) := by rw [e18]; exact (vu_ne (by omega)).trans k115_17
  have k116_18 : g18 116 = .inl (0, 746, .inl (fun _ => 0)) := by rw [e18]; exact (vu_ne (by omega)).trans k116_17
  have k117_18 : g18 117 = .inl (4, 8, .inr (.inr (.inr (.inr (fun i => if i < 8 then some (118 + i) else none))))) := by rw [e18]; exact (vu_ne (by omega)).trans k117_17
  have k118_18 : g18 118 = .inl (0, 746, .inl (fun _ => 0)) := by rw [e18]; exact (vu_ne (by omega)).trans k118_17
  have k119_18 : g18 119 = .inl (0, 746, .inl (fun _ => 0)) := by rw [e18]; exact (vu_ne (by omega)).trans k119_17
  have k120_18 : g18 120 = .inl (0, 746, .inl (fun _ => 0)) := by rw [e18]; exact (vu_ne (by omega)).trans k120_17
  have k121_18 : g18 121 = .inl (0, 746, .inl (fun _ => 0)) := by rw [e18]; exact (vu_ne (by omega)).trans k121_17
  have k122_18 : g18 122 = .inl (0, 746, .inl (fun _ => 0)) := by rw [e18]; exact (vu_ne (by omega)).trans k122_17
  have k123_18 : g18 123 = .inl (0, 746, .inl (fun _ => 0)) := by rw [e18]; exact (vu_ne (by omega)).trans k123_17
  have k124_18 : g18 124 = .inl (0, 746, .inl (fun _ => 0)) := by rw [e18]; exact (vu_ne (by omega)).trans k124_17
  have k125_18 : g18 125 = .inl (0, 746, .inl (fun _ => 0)) := by rw [e18]; exact (vu_ne (by omega)).trans k125_17
  have k126_18 : g18 126 = .inl (0, 180, .inl (fun _ => 0)) := by rw [e18]; exact (vu_ne (by omega)).trans k126_17
  have k127_18 : g18 127 = .inl (0, 180, .inl (fun _ => 0)) := by rw [e18]; exact (vu_ne (by omega)).trans k127_17
  have k128_18 : g18 128 = .inl (0, 180, .inl (fun _ => 0)) := by rw [e18]; exact (vu_ne (by omega)).trans k128_17
  have k129_18 : g18 129 = .inl (2, 180, .inl (fun _ => 0)) := by rw [e18, vu_eq]
  have l18 : ∀ a, a < 112 → g18 a = h a := fun a ha => by rw [e18]; exact (vu_ne (by omega)).trans (l17 a ha)
  refine gs_putF hC dI6_91 ck6 (by decide) fl_X6_40 (by omega) (by omega) k112_18 rfl rfl rfl (Nat.le_of_ble_eq_true rfl) ?_
  obtain ⟨g19, e19⟩ : ∃ x : hp, x = va_up g18 (112) (.inr (6, ([.int 0, .ref 113, .int 0, .int 0, .int 0, .int 0, .int 0, .int (I (-1)), .ref 114, .ref 115, .ref 116, .ref 117, .int 0, .int 0, .int 0, .int 0, .ref 126, .ref 127, .ref 128, .null, .null] : List Value).set 19 (.ref (129)))) := ⟨_, rfl⟩
  rw [← e19]
  have k113_19 : g19 113 = .inl (0, 600, .inl (fun _ => 0)) := by rw [e19]; exact (vu_ne (by omega)).trans k113_18
  have k114_19 : g19 114 = .inl (0, 746, .inl (fun _ => 0)) := by rw [e19]; exact (vu_ne (by omega)).trans k114_18
  have k115_19 : g19 115 = .inl (0, 746, .inl (fun _ => 0)) := by rw [e19]; exact (vu_ne (by omega)).trans k115_18
  have k116_19 : g19 116 = .inl (0, 746, .inl (fun _ => 0)) := by rw [e19]; exact (vu_ne (by omega)).trans k116_18
  have k117_19 : g19 117 = .inl (4, 8, .inr (.inr (.inr (.inr (fun i => if i < 8 then some (118 + i) else none))))) := by rw [e19]; exact (vu_ne (by omega)).trans k117_18
  have k118_19 : g19 118 = .inl (0, 746, .inl (fun _ => 0)) := by rw [e19]; exact (vu_ne (by omega)).trans k118_18
  have k119_19 : g19 119 = .inl (0, 746, .inl (fun _ => 0)) := by rw [e19]; exact (vu_ne (by omega)).trans k119_18
  have k120_19 : g19 120 = .inl (0, 746, .inl (fun _ => 0)) := by rw [e19]; exact (vu_ne (by omega)).trans k120_18
  have k121_19 : g19 121 = .inl (0, 746, .inl (fun _ => 0)) := by rw [e19]; exact (vu_ne (by omega)).trans k121_18
  have k122_19 : g19 122 = .inl (0, 746, .inl (fun _ => 0)) := by rw [e19]; exact (vu_ne (by omega)).trans k122_18
  have k123_19 : g19 123 = .inl (0, 746, .inl (fun _ => 0)) := by rw [e19]; exact (vu_ne (by omega)).trans k123_18
  have k124_19 : g19 124 = .inl (0, 746, .inl (fun _ => 0)) := by rw [e19]; exact (vu_ne (by omega)).trans k124_18
  have k125_19 : g19 125 = .inl (0, 746, .inl (fun _ => 0)) := by rw [e19]; exact (vu_ne (by omega)).trans k125_18
  have k126_19 : g19 126 = .inl (0, 180, .inl (fun _ => 0)) := by rw [e19]; exact (vu_ne (by omega)).trans k126_18
  have k127_19 : g19 127 = .inl (0, 180, .inl (fun _ => 0)) := by rw [e19]; exact (vu_ne (by omega)).trans k127_18
  have k128_19 : g19 128 = .inl (0, 180, .inl (fun _ => 0)) := by rw [e19]; exact (vu_ne (by omega)).trans k128_18
  have k129_19 : g19 129 = .inl (2, 180, .inl (fun _ => 0)) := by rw [e19]; exact (vu_ne (by omega)).trans k129_18
  have k112_19 : g19 112 = .inr (6, [.int 0, .ref 113, .int 0, .int 0, .int 0, .int 0, .int 0, .int (I (-1)), .ref 114, .ref 115, .ref 116, .ref 117, .int 0, .int 0, .int 0, .int 0, .ref 126, .ref 127, .ref 128, .ref 129, .null]) := by rw [e19, vu_eq]; rfl
  have l19 : ∀ a, a < 112 → g19 a = h a := fun a ha => by rw [e19]; exact (vu_ne (by omega)).trans (l18 a ha)
  refine gs_aload dI6_94 rfl ?_
  refine gs_sipush (v := nI 180) (by decide) dI6_95 ?_
  refine gs_newa_i hC (N := 180) dI6_98 rfl (by decide) (by omega) (by omega) (by omega) ?_
  obtain ⟨g20, e20⟩ : ∃ x : hp, x = va_up g19 (130) (.inl (0, 180, .inl (fun _ => 0))) := ⟨_, rfl⟩
  rw [← e20]
  have k112_20 : g20 112 = .inr (6, [.int 0, .ref 113, .int 0, .int 0, .int 0, .int 0, .int 0, .int (I (-1)), .ref 114, .ref 115, .ref 116, .ref 117, .int 0, .int 0, .int 0, .int 0, .ref 126, .ref 127, .ref 128, .ref 129, .null]) := by rw [e20]; exact (vu_ne (by omega)).trans k112_19
  have k113_20 : g20 113 = .inl (0, 600, .inl (fun _ => 0)) := by rw [e20]; exact (vu_ne (by omega)).trans k113_19
  have k114_20 : g20 114 = .inl (0, 746, .inl (fun _ => 0)) := by rw [e20]; exact (vu_ne (by omega)).trans k114_19
  have k115_20 : g20 115 = .inl (0, 746, .inl (fun _ => 0)) := by rw [e20]; exact (vu_ne (by omega)).trans k115_19
  have k116_20 : g20 116 = .inl (0, 746, .inl (fun _ => 0)) := by rw [e20]; exact (vu_ne (by omega)).trans k116_19
  have k117_20 : g20 117 = .inl (4, 8, .inr (.inr (.inr (.inr (fun i => if i < 8 then some (118 + i) else none))))) := by rw [e20]; exact (vu_ne (by omega)).trans k117_19
  have k118_20 : g20 118 = .inl (0, 746, .inl (fun _ => 0)) := by rw [e20]; exact (vu_ne (by omega)).trans k118_19
  have k119_20 : g20 119 = .inl (0, 746, .inl (fun _ => 0)) := by rw [e20]; exact (vu_ne (by omega)).trans k119_19
  have k120_20 : g20 120 = .inl (0, 746, .inl (fun _ => 0)) := by rw [e20]; exact (vu_ne (by omega)).trans k120_19
  have k121_20 : g20 121 = .inl (0, 746, .inl (fun _ => 0)) := by rw [e20]; exact (vu_ne (by omega)).trans k121_19
  have k122_20 : g20 122 = .inl (0, 746, .inl (fun _ => 0)) := by rw [e20]; exact (vu_ne (by omega)).trans k122_19
  have k123_20 : g20 123 = .inl (0, 746, .inl (fun _ => 0)) := by rw [e20]; exact (vu_ne (by omega)).trans k123_19
  have k124_20 : g20 124 = .inl (0, 746, .inl (fun _ => 0)) := by rw [e20]; exact (vu_ne (by omega)).trans k124_19
  have k125_20 : g20 125 = .inl (0, 746, .inl (fun _ => 0)) := by rw [e20]; exact (vu_ne (by omega)).trans k125_19
  have k126_20 : g20 126 = .inl (0, 180, .inl (fun _ => 0)) := by rw [e20]; exact (vu_ne (by omega)).trans k126_19
  have k127_20 : g20 127 = .inl (0, 180, .inl (fun _ => 0)) := by rw [e20]; exact (vu_ne (by omega)).trans k127_19
  have k128_20 : g20 128 = .inl (0, 180, .inl (fun _ => 0)) := by rw [e20]; exact (vu_ne (by omega)).trans k128_19
  have k129_20 : g20 129 = .inl (2, 180, .inl (fun _ => 0)) := by rw [e20]; exact (vu_ne (by omega)).trans k129_19
  have k130_20 : g20 130 = .inl (0, 180, .inl (fun _ => 0)) := by rw [e20, vu_eq]
  have l20 : ∀ a, a < 112 → g20 a = h a := fun a ha => by rw [e20]; exact (vu_ne (by omega)).trans (l19 a ha)
  refine gs_putF hC dI6_100 ck6 (by decide) fl_X6_44 (by omega) (by omega) k112_20 rfl rfl rfl (Nat.le_of_ble_eq_true rfl) ?_
  obtain ⟨g21, e21⟩ : ∃ x : hp, x = va_up g20 (112) (.inr (6, ([.int 0, .ref 113, .int 0, .int 0, .int 0, .int 0, .int 0, .int (I (-1)), .ref 114, .ref 115, .ref 116, .ref 117, .int 0, .int 0, .int 0, .int 0, .ref 126, .ref 127, .ref 128, .ref 129, .null] : List Value).set 20 (.ref (130)))) := ⟨_, rfl⟩
  rw [← e21]
  have k113_21 : g21 113 = .inl (0, 600, .inl (fun _ => 0)) := by rw [e21]; exact (vu_ne (by omega)).trans k113_20
  have k114_21 : g21 114 = .inl (0, 746, .inl (fun _ => 0)) := by rw [e21]; exact (vu_ne (by omega)).trans k114_20
  have k115_21 : g21 115 = .inl (0, 746, .inl (fun _ => 0)) := by rw [e21]; exact (vu_ne (by omega)).trans k115_20
  have k116_21 : g21 116 = .inl (0, 746, .inl (fun _ => 0)) := by rw [e21]; exact (vu_ne (by omega)).trans k116_20
  have k117_21 : g21 117 = .inl (4, 8, .inr (.inr (.inr (.inr (fun i => if i < 8 then some (118 + i) else none))))) := by rw [e21]; exact (vu_ne (by omega)).trans k117_20
  have k118_21 : g21 118 = .inl (0, 746, .inl (fun _ => 0)) := by rw [e21]; exact (vu_ne (by omega)).trans k118_20
  have k119_21 : g21 119 = .inl (0, 746, .inl (fun _ => 0)) := by rw [e21]; exact (vu_ne (by omega)).trans k119_20
  have k120_21 : g21 120 = .inl (0, 746, .inl (fun _ => 0)) := by rw [e21]; exact (vu_ne (by omega)).trans k120_20
  have k121_21 : g21 121 = .inl (0, 746, .inl (fun _ => 0)) := by rw [e21]; exact (vu_ne (by omega)).trans k121_20
  have k122_21 : g21 122 = .inl (0, 746, .inl (fun _ => 0)) := by rw [e21]; exact (vu_ne (by omega)).trans k122_20
  have k123_21 : g21 123 = .inl (0, 746, .inl (fun _ => 0)) := by rw [e21]; exact (vu_ne (by omega)).trans k123_20
  have k124_21 : g21 124 = .inl (0, 746, .inl (fun _ => 0)) := by rw [e21]; exact (vu_ne (by omega)).trans k124_20
  have k125_21 : g21 125 = .inl (0, 746, .inl (fun _ => 0)) := by rw [e21]; exact (vu_ne (by omega)).trans k125_20
  have k126_21 : g21 126 = .inl (0, 180, .inl (fun _ => 0)) := by rw [e21]; exact (vu_ne (by omega)).trans k126_20
  have k127_21 : g21 127 = .inl (0, 180, .inl (fun _ => 0)) := by rw [e21]; exact (vu_ne (by omega)).trans k127_20
  have k128_21 : g21 128 = .inl (0, 180, .inl (fun _ => 0)) := by rw [e21]; exact (vu_ne (by omega)).trans k128_20
  have k129_21 : g21 129 = .inl (2, 180, .inl (fun _ => 0)) := by rw [e21]; exact (vu_ne (by omega)).trans k129_20
  have k130_21 : g21 130 = .inl (0, 180, .inl (fun _ => 0)) := by rw [e21]; exact (vu_ne (by omega)).trans k130_20
  have k112_21 : g21 112 = .inr (6, [.int 0, .ref 113, .int 0, .int 0, .int 0, .int 0, .int 0, .int (I (-1)), .ref 114, .ref 115, .ref 116, .ref 117, .int 0, .int 0, .int 0, .int 0, .ref 126, .ref 127, .ref 128, .ref 129, .ref 130]) := by rw [e21, vu_eq]; rfl
  have l21 : ∀ a, a < 112 → g21 a = h a := fun a ha => by rw [e21]; exact (vu_ne (by omega)).trans (l20 a ha)
  refine gs_aload dI6_103 rfl ?_
  refine gs_getf dI6_104 ck6 (by decide) fl_X6_17 (by omega) k112_21 rfl ?_
  refine gs_iconst (v := I ((5 : Nat) : Int)) (by decide) dI6_107 ?_
  refine gs_iconst (v := I ((5 : Nat) : Int)) (by decide) dI6_108 ?_
  refine gs_csv hE hX hl9 hC (As := [.ref 114, .int (I ((5 : Nat) : Int)), .int (I ((5 : Nat) : Int))]) (S := []) dI6_109 lnS_X6_47 rfl rfl (Nat.le_of_ble_eq_true rfl) (by omega) rfl (s6_layKite (a := 114) (w := 5) (u := 5) (by omega) (by omega) ⟨fun _ => 0, _, k114_21, fun _ _ => rfl⟩) (by omega) (by omega) (fun h1 hq => ?_)
  refine gs_ret dI6_112 rfl ⟨⟨?_, hq.1⟩, ⟨by omega, ⟨_, (hq.2 117 (by decide)).trans k117_21, fun k hk => if_pos hk⟩, ?_, fun t ht => absurd ht (by omega)⟩, ⟨_, (hq.2 113 (by decide)).trans k113_21, fun _ _ => rfl⟩, ⟨fun _ => 0, _, (hq.2 115 (by decide)).trans k115_21, fun _ _ => rfl⟩, ⟨fun _ => 0, _, (hq.2 116 (by decide)).trans k116_21, fun _ _ => rfl⟩, ⟨fun _ => 0, _, (hq.2 126 (by decide)).trans k126_21, fun _ _ => rfl⟩, ⟨fun _ => 0, _, (hq.2 127 (by decide)).trans k127_21, fun _ _ => rfl⟩, ⟨fun _ => 0, _, (hq.2 128 (by decide)).trans k128_21, fun _ _ => rfl⟩, ⟨fun _ => 0, _, (hq.2 129 (by decide)).trans k129_21, fun _ _ => rfl⟩, ⟨fun _ => 0, _, (hq.2 130 (by decide)).trans k130_21, fun _ _ => rfl⟩, fun a ha => (hq.2 a (fun q => by cases List.mem_singleton.mp q; omega)).trans (l21 a ha)⟩ rfl rfl
  · exact (hq.2 112 (by decide)).trans k112_21
  · intro k hk
    rcases (by omega : k = 0 ∨ k = 1 ∨ k = 2 ∨ k = 3 ∨ k = 4 ∨ k = 5 ∨ k = 6 ∨ k = 7) with rfl | rfl | rfl | rfl | rfl | rfl | rfl | rfl
    · exact ⟨fun _ => 0, _, (hq.2 118 (by decide)).trans k118_21, fun _ _ => rfl⟩
    · exact ⟨fun _ => 0, _, (hq.2 119 (by decide)).trans k119_21, fun _ _ => rfl⟩
    · exact ⟨fun _ => 0, _, (hq.2 120 (by decide)).trans k120_21, fun _ _ => rfl⟩
    · exact ⟨fun _ => 0, _, (hq.2 121 (by decide)).trans k121_21, fun _ _ => rfl⟩
    · exact ⟨fun _ => 0, _, (hq.2 122 (by decide)).trans k122_21, fun _ _ => rfl⟩
    · exact ⟨fun _ => 0, _, (hq.2 123 (by decide)).trans k123_21, fun _ _ => rfl⟩
    · exact ⟨fun _ => 0, _, (hq.2 124 (by decide)).trans k124_21, fun _ _ => rfl⟩
    · exact ⟨fun _ => 0, _, (hq.2 125 (by decide)).trans k125_21, fun _ _ => rfl⟩
end CN2
