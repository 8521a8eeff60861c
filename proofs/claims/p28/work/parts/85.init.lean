/-! the constructors -/
theorem SA.wk {NC NC' b : Nat} {h : hp} {K : Nat → Nat} (hS : SA NC h b K) (e : b + 10 ≤ NC') : SA NC' h b K := ⟨e, hS.2⟩
abbrev M_X3_init : mt := (yX3_init, cX3_init, 1, none, 3, 72)
abbrev M_X0_init : mt := (yX0_init, cX0_init, 1, none, 1, 12)
abbrev M_X2_init : mt := (yX2_init, cX2_init, 1, none, 1, 12)
abbrev M_X4_init : mt := (yX4_init, cX4_init, 1, none, 1, 12)
abbrev M_X1_init : mt := (yX1_init, cX1_init, 2, none, 4, 92)
abbrev M_X5_init : mt := (yX5_init, cX5_init, 1, none, 5, 113)
theorem dI3_0 : decode cX3_init 0 = .ok (.aload_n 0, 1) := by decide +kernel
theorem dI3_1 : decode cX3_init 1 = .ok (.invokespecial 3, 3) := by decide +kernel
theorem dI3_4 : decode cX3_init 4 = .ok (.aload_n 0, 1) := by decide +kernel
theorem dI3_5 : decode cX3_init 5 = .ok (.bipush 12, 2) := by decide +kernel
theorem dI3_7 : decode cX3_init 7 = .ok (.newarray .int, 2) := by decide +kernel
theorem dI3_9 : decode cX3_init 9 = .ok (.putfield 9, 3) := by decide +kernel
theorem dI3_12 : decode cX3_init 12 = .ok (.aload_n 0, 1) := by decide +kernel
theorem dI3_13 : decode cX3_init 13 = .ok (.bipush 7, 2) := by decide +kernel
theorem dI3_15 : decode cX3_init 15 = .ok (.newarray .int, 2) := by decide +kernel
theorem dI3_17 : decode cX3_init 17 = .ok (.putfield 15, 3) := by decide +kernel
theorem dI3_20 : decode cX3_init 20 = .ok (.aload_n 0, 1) := by decide +kernel
theorem dI3_21 : decode cX3_init 21 = .ok (.bipush 49, 2) := by decide +kernel
theorem dI3_23 : decode cX3_init 23 = .ok (.newarray .int, 2) := by decide +kernel
theorem dI3_25 : decode cX3_init 25 = .ok (.putfield 18, 3) := by decide +kernel
theorem dI3_28 : decode cX3_init 28 = .ok (.aload_n 0, 1) := by decide +kernel
theorem dI3_29 : decode cX3_init 29 = .ok (.iconst 3, 1) := by decide +kernel
theorem dI3_30 : decode cX3_init 30 = .ok (.newarray .int, 2) := by decide +kernel
theorem dI3_32 : decode cX3_init 32 = .ok (.putfield 21, 3) := by decide +kernel
theorem dI3_35 : decode cX3_init 35 = .ok (.aload_n 0, 1) := by decide +kernel
theorem dI3_36 : decode cX3_init 36 = .ok (.iconst 3, 1) := by decide +kernel
theorem dI3_37 : decode cX3_init 37 = .ok (.newarray .int, 2) := by decide +kernel
theorem dI3_39 : decode cX3_init 39 = .ok (.putfield 24, 3) := by decide +kernel
theorem dI3_42 : decode cX3_init 42 = .ok (.aload_n 0, 1) := by decide +kernel
theorem dI3_43 : decode cX3_init 43 = .ok (.bipush 126, 2) := by decide +kernel
theorem dI3_45 : decode cX3_init 45 = .ok (.newarray .int, 2) := by decide +kernel
theorem dI3_47 : decode cX3_init 47 = .ok (.putfield 27, 3) := by decide +kernel
theorem dI3_50 : decode cX3_init 50 = .ok (.aload_n 0, 1) := by decide +kernel
theorem dI3_51 : decode cX3_init 51 = .ok (.sipush 180, 3) := by decide +kernel
theorem dI3_54 : decode cX3_init 54 = .ok (.newarray .int, 2) := by decide +kernel
theorem dI3_56 : decode cX3_init 56 = .ok (.putfield 30, 3) := by decide +kernel
theorem dI3_59 : decode cX3_init 59 = .ok (.aload_n 0, 1) := by decide +kernel
theorem dI3_60 : decode cX3_init 60 = .ok (.sipush 180, 3) := by decide +kernel
theorem dI3_63 : decode cX3_init 63 = .ok (.newarray .int, 2) := by decide +kernel
theorem dI3_65 : decode cX3_init 65 = .ok (.putfield 33, 3) := by decide +kernel
theorem dI3_68 : decode cX3_init 68 = .ok (.aload_n 0, 1) := by decide +kernel
theorem dI3_69 : decode cX3_init 69 = .ok (.sipush 180, 3) := by decide +kernel
theorem dI3_72 : decode cX3_init 72 = .ok (.newarray .int, 2) := by decide +kernel
theorem dI3_74 : decode cX3_init 74 = .ok (.putfield 36, 3) := by decide +kernel
theorem dI3_77 : decode cX3_init 77 = .ok (.aload_n 0, 1) := by decide +kernel
theorem dI3_78 : decode cX3_init 78 = .ok (.iconst 5, 1) := by decide +kernel
theorem dI3_79 : decode cX3_init 79 = .ok (.iconst 5, 1) := by decide +kernel
theorem dI3_80 : decode cX3_init 80 = .ok (.invokevirtual 39, 3) := by decide +kernel
theorem dI3_83 : decode cX3_init 83 = .ok (.return_, 1) := by decide +kernel
theorem ln_init_39 : lnV M_X3_init 39 M_X3_beginAnew 2 := ⟨⟨gT_mem 69 (by decide +kernel) (by decide +kernel), mi_X3_beginAnew.1, mi_X3_beginAnew.2.1, ⟨by decide +kernel, by decide +kernel, by decide +kernel⟩, mi_X3_beginAnew.2.2, by decide, by decide⟩, mv_X3_beginAnew.1, mv_X3_beginAnew.2, by decide⟩
section CN
variable {Γ : en} {l : Launch} {St : State → Prop} {z : Nat}
theorem gi_X3 (hE : envOK Γ St) {adV : Nat → Nat} (hX : envX Γ St adV) (hl9 : l.stackTraces = false) (hC : envC Γ St z) {b : Nat} {h : hp} (hb : b + 10 ≤ 1000) (ho : h b = .inr (3, [.int 0, .int 0, .int 0, .int 0, .int 0, .int 0, .null, .null, .null, .null, .null, .null, .null, .null, .null])) : MetG Γ l St z M_X3_init (b + 1) 9 740 b h (fun h1 => SA (b + 10) h1 b (freshK 5 5) ∧ ∀ a, a < b → h1 a = h a) := by
  refine gs_met (by decide) rfl (by decide) ?_
  have o_h : h b = .inr (3, [.int 0, .int 0, .int 0, .int 0, .int 0, .int 0, .null, .null, .null, .null, .null, .null, .null, .null, .null]) := ho
  have f_h : ∀ a, a < b → h a = h a := fun _ _ => rfl
  refine gs_aload dI3_0 rfl ?_
  refine gs_obj0 dI3_1 (gT_mem 68 (by decide +kernel) (by decide +kernel)) (by decide) (by decide) ?_
  refine gs_aload dI3_4 rfl ?_
  refine gs_bipush (v := nI 12) (by decide) dI3_5 ?_
  refine gs_newa_i hC (N := 12) dI3_7 rfl (by decide) (by omega) (by decide) (by decide) ?_
  obtain ⟨g1, eg1⟩ : ∃ x : hp, x = va_up h (b + 1 + 0) (.inl (0, 12, .inl (fun _ => 0))) := ⟨_, rfl⟩
  rw [← eg1]
  have o_g1 : g1 (b) = .inr (3, [.int 0, .int 0, .int 0, .int 0, .int 0, .int 0, .null, .null, .null, .null, .null, .null, .null, .null, .null]) := by rw [eg1, vu_ne (by omega)]; exact o_h
  have f_g1 : ∀ a, a < b → g1 a = h a := fun a ha => by rw [eg1]; exact (vu_ne (by omega)).trans (f_h a ha)
  have r0_g1 : g1 (b + 1 + 0) = .inl (0, 12, .inl (fun _ => 0)) := by rw [eg1, vu_eq]
  refine gs_putF hC dI3_9 ck3 (by decide) fl_X3_9 (by omega) (by omega) o_g1 rfl rfl rfl (Nat.le_of_ble_eq_true rfl) ?_
  obtain ⟨g2, eg2⟩ : ∃ x : hp, x = va_up g1 (b) (.inr (3, ([.int 0, .int 0, .int 0, .int 0, .int 0, .int 0, .null, .null, .null, .null, .null, .null, .null, .null, .null] : List Value).set 6 (.ref (b + 1 + 0)))) := ⟨_, rfl⟩
  rw [← eg2]
  have f_g2 : ∀ a, a < b → g2 a = h a := fun a ha => by rw [eg2]; exact (vu_ne (by omega)).trans (f_g1 a ha)
  have r0_g2 : g2 (b + 1 + 0) = .inl (0, 12, .inl (fun _ => 0)) := by rw [eg2, vu_ne (by omega)]; exact r0_g1
  have o_g2 : g2 (b) = .inr (3, [.int 0, .int 0, .int 0, .int 0, .int 0, .int 0, .ref (b + 1 + 0), .null, .null, .null, .null, .null, .null, .null, .null]) := by rw [eg2, vu_eq]; rfl
  refine gs_aload dI3_12 rfl ?_
  refine gs_bipush (v := nI 7) (by decide) dI3_13 ?_
  refine gs_newa_i hC (N := 7) dI3_15 rfl (by decide) (by omega) (by decide) (by decide) ?_
  obtain ⟨g3, eg3⟩ : ∃ x : hp, x = va_up g2 (b + 1 + 1) (.inl (0, 7, .inl (fun _ => 0))) := ⟨_, rfl⟩
  rw [← eg3]
  have f_g3 : ∀ a, a < b → g3 a = h a := fun a ha => by rw [eg3]; exact (vu_ne (by omega)).trans (f_g2 a ha)
  have r0_g3 : g3 (b + 1 + 0) = .inl (0, 12, .inl (fun _ => 0)) := by rw [eg3, vu_ne (by omega)]; exact r0_g2
  have o_g3 : g3 (b) = .inr (3, [.int 0, .int 0, .int 0, .int 0, .int 0, .int 0, .ref (b + 1 + 0), .null, .null, .null, .null, .null, .null, .null, .null]) := by rw [eg3, vu_ne (by omega)]; exact o_g2
  have r1_g3 : g3 (b + 1 + 1) = .inl (0, 7, .inl (fun _ => 0)) := by rw [eg3, vu_eq]
  refine gs_putF hC dI3_17 ck3 (by decide) fl_X3_15 (by omega) (by omega) o_g3 rfl rfl rfl (Nat.le_of_ble_eq_true rfl) ?_
  obtain ⟨g4, eg4⟩ : ∃ x : hp, x = va_up g3 (b) (.inr (3, ([.int 0, .int 0, .int 0, .int 0, .int 0, .int 0, .ref (b + 1 + 0), .null, .null, .null, .null, .null, .null, .null, .null] : List Value).set 7 (.ref (b + 1 + 1)))) := ⟨_, rfl⟩
  rw [← eg4]
  have f_g4 : ∀ a, a < b → g4 a = h a := fun a ha => by rw [eg4]; exact (vu_ne (by omega)).trans (f_g3 a ha)
  have r0_g4 : g4 (b + 1 + 0) = .inl (0, 12, .inl (fun _ => 0)) := by rw [eg4, vu_ne (by omega)]; exact r0_g3
  have r1_g4 : g4 (b + 1 + 1) = .inl (0, 7, .inl (fun _ => 0)) := by rw [eg4, vu_ne (by omega)]; exact r1_g3
  have o_g4 : g4 (b) = .inr (3, [.int 0, .int 0, .int 0, .int 0, .int 0, .int 0, .ref (b + 1 + 0), .ref (b + 1 + 1), .null, .null, .null, .null, .null, .null, .null]) := by rw [eg4, vu_eq]; rfl
  refine gs_aload dI3_20 rfl ?_
  refine gs_bipush (v := nI 49) (by decide) dI3_21 ?_
  refine gs_newa_i hC (N := 49) dI3_23 rfl (by decide) (by omega) (by decide) (by decide) ?_
  obtain ⟨g5, eg5⟩ : ∃ x : hp, x = va_up g4 (b + 1 + 2) (.inl (0, 49, .inl (fun _ => 0))) := ⟨_, rfl⟩
  rw [← eg5]
  have f_g5 : ∀ a, a < b → g5 a = h a := fun a ha => by rw [eg5]; exact (vu_ne (by omega)).trans (f_g4 a ha)
  have r0_g5 : g5 (b + 1 + 0) = .inl (0, 12, .inl (fun _ => 0)) := by rw [eg5, vu_ne (by omega)]; exact r0_g4
  have r1_g5 : g5 (b + 1 + 1) = .inl (0, 7, .inl (fun _ => 0)) := by rw [eg5, vu_ne (by omega)]; exact r1_g4
  have o_g5 : g5 (b) = .inr (3, [.int 0, .int 0, .int 0, .int 0, .int 0, .int 0, .ref (b + 1 + 0), .ref (b + 1 + 1), .null, .null, .null, .null, .null, .null, .null]) := by rw [eg5, vu_ne (by omega)]; exact o_g4
  have r2_g5 : g5 (b + 1 + 2) = .inl (0, 49, .inl (fun _ => 0)) := by rw [eg5, vu_eq]
  refine gs_putF hC dI3_25 ck3 (by decide) fl_X3_18 (by omega) (by omega) o_g5 rfl rfl rfl (Nat.le_of_ble_eq_true rfl) ?_
  obtain ⟨g6, eg6⟩ : ∃ x : hp, x = va_up g5 (b) (.inr (3, ([.int 0, .int 0, .int 0, .int 0, .int 0, .int 0, .ref (b + 1 + 0), .ref (b + 1 + 1), .null, .null, .null, .null, .null, .null, .null] : List Value).set 8 (.ref (b + 1 + 2)))) := ⟨_, rfl⟩
  rw [← eg6]
  have f_g6 : ∀ a, a < b → g6 a = h a := fun a ha => by rw [eg6]; exact (vu_ne (by omega)).trans (f_g5 a ha)
  have r0_g6 : g6 (b + 1 + 0) = .inl (0, 12, .inl (fun _ => 0)) := by rw [eg6, vu_ne (by omega)]; exact r0_g5
  have r1_g6 : g6 (b + 1 + 1) = .inl (0, 7, .inl (fun _ => 0)) := by rw [eg6, vu_ne (by omega)]; exact r1_g5
  have r2_g6 : g6 (b + 1 + 2) = .inl (0, 49, .inl (fun _ => 0)) := by rw [eg6, vu_ne (by omega)]; exact r2_g5
  have o_g6 : g6 (b) = .inr (3, [.int 0, .int 0, .int 0, .int 0, .int 0, .int 0, .ref (b + 1 + 0), .ref (b + 1 + 1), .ref (b + 1 + 2), .null, .null, .null, .null, .null, .null]) := by rw [eg6, vu_eq]; rfl
  refine gs_aload dI3_28 rfl ?_
  refine gs_iconst (v := nI 3) (by decide) dI3_29 ?_
  refine gs_newa_i hC (N := 3) dI3_30 rfl (by decide) (by omega) (by decide) (by decide) ?_
  obtain ⟨g7, eg7⟩ : ∃ x : hp, x = va_up g6 (b + 1 + 3) (.inl (0, 3, .inl (fun _ => 0))) := ⟨_, rfl⟩
  rw [← eg7]
  have f_g7 : ∀ a, a < b → g7 a = h a := fun a ha => by rw [eg7]; exact (vu_ne (by omega)).trans (f_g6 a ha)
  have r0_g7 : g7 (b + 1 + 0) = .inl (0, 12, .inl (fun _ => 0)) := by rw [eg7, vu_ne (by omega)]; exact r0_g6
  have r1_g7 : g7 (b + 1 + 1) = .inl (0, 7, .inl (fun _ => 0)) := by rw [eg7, vu_ne (by omega)]; exact r1_g6
  have r2_g7 : g7 (b + 1 + 2) = .inl (0, 49, .inl (fun _ => 0)) := by rw [eg7, vu_ne (by omega)]; exact r2_g6
  have o_g7 : g7 (b) = .inr (3, [.int 0, .int 0, .int 0, .int 0, .int 0, .int 0, .ref (b + 1 + 0), .ref (b + 1 + 1), .ref (b + 1 + 2), .null, .null, .null, .null, .null, .null]) := by rw [eg7, vu_ne (by omega)]; exact o_g6
  have r3_g7 : g7 (b + 1 + 3) = .inl (0, 3, .inl (fun _ => 0)) := by rw [eg7, vu_eq]
  refine gs_putF hC dI3_32 ck3 (by decide) fl_X3_21 (by omega) (by omega) o_g7 rfl rfl rfl (Nat.le_of_ble_eq_true rfl) ?_
  obtain ⟨g8, eg8⟩ : ∃ x : hp, x = va_up g7 (b) (.inr (3, ([.int 0, .int 0, .int 0, .int 0, .int 0, .int 0, .ref (b + 1 + 0), .ref (b + 1 + 1), .ref (b + 1 + 2), .null, .null, .null, .null, .null, .null] : List Value).set 9 (.ref (b + 1 + 3)))) := ⟨_, rfl⟩
  rw [← eg8]
  have f_g8 : ∀ a, a < b → g8 a = h a := fun a ha => by rw [eg8]; exact (vu_ne (by omega)).trans (f_g7 a ha)
  have r0_g8 : g8 (b + 1 + 0) = .inl (0, 12, .inl (fun _ => 0)) := by rw [eg8, vu_ne (by omega)]; exact r0_g7
  have r1_g8 : g8 (b + 1 + 1) = .inl (0, 7, .inl (fun _ => 0)) := by rw [eg8, vu_ne (by omega)]; exact r1_g7
  have r2_g8 : g8 (b + 1 + 2) = .inl (0, 49, .inl (fun _ => 0)) := by rw [eg8, vu_ne (by omega)]; exact r2_g7
  have r3_g8 : g8 (b + 1 + 3) = .inl (0, 3, .inl (fun _ => 0)) := by rw [eg8, vu_ne (by omega)]; exact r3_g7
  have o_g8 : g8 (b) = .inr (3, [.int 0, .int 0, .int 0, .int 0, .int 0, .int 0, .ref (b + 1 + 0), .ref (b + 1 + 1), .ref (b + 1 + 2), .ref (b + 1 + 3), .null, .null, .null, .null, .null]) := by rw [eg8, vu_eq]; rfl
  refine gs_aload dI3_35 rfl ?_
  refine gs_iconst (v := nI 3) (by decide) dI3_36 ?_
  refine gs_newa_i hC (N := 3) dI3_37 rfl (by decide) (by omega) (by decide) (by decide) ?_
  obtain ⟨g9, eg9⟩ : ∃ x : hp, x = va_up g8 (b + 1 + 4) (.inl (0, 3, .inl (fun _ => 0))) := ⟨_, rfl⟩
  rw [← eg9]
  have f_g9 : ∀ a, a < b → g9 a = h a := fun a ha => by rw [eg9]; exact (vu_ne (by omega)).trans (f_g8 a ha)
  have r0_g9 : g9 (b + 1 + 0) = .inl (0, 12, .inl (fun _ => 0)) := by rw [eg9, vu_ne (by omega)]; exact r0_g8
  have r1_g9 : g9 (b + 1 + 1) = .inl (0, 7, .inl (fun _ => 0)) := by rw [eg9, vu_ne (by omega)]; exact r1_g8
  have r2_g9 : g9 (b + 1 + 2) = .inl (0, 49, .inl (fun _ => 0)) := by rw [eg9, vu_ne (by omega)]; exact r2_g8
  have r3_g9 : g9 (b + 1 + 3) = .inl (0, 3, .inl (fun _ => 0)) := by rw [eg9, vu_ne (by omega)]; exact r3_g8
  have o_g9 : g9 (b) = .inr (3, [.int 0, .int 0, .int 0, .int 0, .int 0, .int 0, .ref (b + 1 + 0), .ref (b + 1 + 1), .ref (b + 1 + 2), .ref (b + 1 + 3), .null, .null, .null, .null, .null]) := by rw [eg9, vu_ne (by omega)]; exact o_g8
  have r4_g9 : g9 (b + 1 + 4) = .inl (0, 3, .inl (fun _ => 0)) := by rw [eg9, vu_eq]
  refine gs_putF hC dI3_39 ck3 (by decide) fl_X3_24 (by omega) (by omega) o_g9 rfl rfl rfl (Nat.le_of_ble_eq_true rfl) ?_
  obtain ⟨g10, eg10⟩ : ∃ x : hp, x = va_up g9 (b) (.inr (3, ([.int 0, .int 0, .int 0, .int 0, .int 0, .int 0, .ref (b + 1 + 0), .ref (b + 1 + 1), .ref (b + 1 + 2), .ref (b + 1 + 3), .null, .null, .null, .null, .null] : List Value).set 10 (.ref (b + 1 + 4)))) := ⟨_, rfl⟩
  rw [← eg10]
  have f_g10 : ∀ a, a < b → g10 a = h a := fun a ha => by rw [eg10]; exact (vu_ne (by omega)).trans (f_g9 a ha)
  have r0_g10 : g10 (b + 1 + 0) = .inl (0, 12, .inl (fun _ => 0)) := by rw [eg10, vu_ne (by omega)]; exact r0_g9
  have r1_g10 : g10 (b + 1 + 1) = .inl (0, 7, .inl (fun _ => 0)) := by rw [eg10, vu_ne (by omega)]; exact r1_g9
  have r2_g10 : g10 (b + 1 + 2) = .inl (0, 49, .inl (fun _ => 0)) := by rw [eg10, vu_ne (by omega)]; exact r2_g9
  have r3_g10 : g10 (b + 1 + 3) = .inl (0, 3, .inl (fun _ => 0)) := by rw [eg10, vu_ne (by omega)]; exact r3_g9
  have r4_g10 : g10 (b + 1 + 4) = .inl (0, 3, .inl (fun _ => 0)) := by rw [eg10, vu_ne (by omega)]; exact r4_g9
  have o_g10 : g10 (b) = .inr (3, [.int 0, .int 0, .int 0, .int 0, .int 0, .int 0, .ref (b + 1 + 0), .ref (b + 1 + 1), .ref (b + 1 + 2), .ref (b + 1 + 3), .ref (b + 1 + 4), .null, .null, .null, .null]) := by rw [eg10, vu_eq]; rfl
  refine gs_aload dI3_42 rfl ?_
  refine gs_bipush (v := nI 126) (by decide) dI3_43 ?_
  refine gs_newa_i hC (N := 126) dI3_45 rfl (by decide) (by omega) (by decide) (by decide) ?_
  obtain ⟨g11, eg11⟩ : ∃ x : hp, x = va_up g10 (b + 1 + 5) (.inl (0, 126, .inl (fun _ => 0))) := ⟨_, rfl⟩
  rw [← eg11]
  have f_g11 : ∀ a, a < b → g11 a = h a := fun a ha => by rw [eg11]; exact (vu_ne (by omega)).trans (f_g10 a ha)
  have r0_g11 : g11 (b + 1 + 0) = .inl (0, 12, .inl (fun _ => 0)) := by rw [eg11, vu_ne (by omega)]; exact r0_g10
  have r1_g11 : g11 (b + 1 + 1) = .inl (0, 7, .inl (fun _ => 0)) := by rw [eg11, vu_ne (by omega)]; exact r1_g10
  have r2_g11 : g11 (b + 1 + 2) = .inl (0, 49, .inl (fun _ => 0)) := by rw [eg11, vu_ne (by omega)]; exact r2_g10
  have r3_g11 : g11 (b + 1 + 3) = .inl (0, 3, .inl (fun _ => 0)) := by rw [eg11, vu_ne (by omega)]; exact r3_g10
  have r4_g11 : g11 (b + 1 + 4) = .inl (0, 3, .inl (fun _ => 0)) := by rw [eg11, vu_ne (by omega)]; exact r4_g10
  have o_g11 : g11 (b) = .inr (3, [.int 0, .int 0, .int 0, .int 0, .int 0, .int 0, .ref (b + 1 + 0), .ref (b + 1 + 1), .ref (b + 1 + 2), .ref (b + 1 + 3), .ref (b + 1 + 4), .null, .null, .null, .null]) := by rw [eg11, vu_ne (by omega)]; exact o_g10
  have r5_g11 : g11 (b + 1 + 5) = .inl (0, 126, .inl (fun _ => 0)) := by rw [eg11, vu_eq]
  refine gs_putF hC dI3_47 ck3 (by decide) fl_X3_27 (by omega) (by omega) o_g11 rfl rfl rfl (Nat.le_of_ble_eq_true rfl) ?_
  obtain ⟨g12, eg12⟩ : ∃ x : hp, x = va_up g11 (b) (.inr (3, ([.int 0, .int 0, .int 0, .int 0, .int 0, .int 0, .ref (b + 1 + 0), .ref (b + 1 + 1), .ref (b + 1 + 2), .ref (b + 1 + 3), .ref (b + 1 + 4), .null, .null, .null, .null] : List Value).set 11 (.ref (b + 1 + 5)))) := ⟨_, rfl⟩
  rw [← eg12]
  have f_g12 : ∀ a, a < b → g12 a = h a := fun a ha => by rw [eg12]; exact (vu_ne (by omega)).trans (f_g11 a ha)
  have r0_g12 : g12 (b + 1 + 0) = .inl (0, 12, .inl (fun _ => 0)) := by rw [eg12, vu_ne (by omega)]; exact r0_g11
  have r1_g12 : g12 (b + 1 + 1) = .inl (0, 7, .inl (fun _ => 0)) := by rw [eg12, vu_ne (by omega)]; exact r1_g11
  have r2_g12 : g12 (b + 1 + 2) = .inl (0, 49, .inl (fun _ => 0)) := by rw [eg12, vu_ne (by omega)]; exact r2_g11
  have r3_g12 : g12 (b + 1 + 3) = .inl (0, 3, .inl (fun _ => 0)) := by rw [eg12, vu_ne (by omega)]; exact r3_g11
  have r4_g12 : g12 (b + 1 + 4) = .inl (0, 3, .inl (fun _ => 0)) := by rw [eg12, vu_ne (by omega)]; exact r4_g11
  have r5_g12 : g12 (b + 1 + 5) = .inl (0, 126, .inl (fun _ => 0)) := by rw [eg12, vu_ne (by omega)]; exact r5_g11
  have o_g12 : g12 (b) = .inr (3, [.int 0, .int 0, .int 0, .int 0, .int 0, .int 0, .ref (b + 1 + 0), .ref (b + 1 + 1), .ref (b + 1 + 2), .ref (b + 1 + 3), .ref (b + 1 + 4), .ref (b + 1 + 5), .null, .null, .null]) := by rw [eg12, vu_eq]; rfl
  refine gs_aload dI3_50 rfl ?_
  refine gs_sipush (v := nI 180) (by decide) dI3_51 ?_
  refine gs_newa_i hC (N := 180) dI3_54 rfl (by decide) (by omega) (by decide) (by decide) ?_
  obtain ⟨g13, eg13⟩ : ∃ x : hp, x = va_up g12 (b + 1 + 6) (.inl (0, 180, .inl (fun _ => 0))) := ⟨_, rfl⟩
  rw [← eg13]
  have f_g13 : ∀ a, a < b → g13 a = h a := fun a ha => by rw [eg13]; exact (vu_ne (by omega)).trans (f_g12 a ha)
  have r0_g13 : g13 (b + 1 + 0) = .inl (0, 12, .inl (fun _ => 0)) := by rw [eg13, vu_ne (by omega)]; exact r0_g12
  have r1_g13 : g13 (b + 1 + 1) = .inl (0, 7, .inl (fun _ => 0)) := by rw [eg13, vu_ne (by omega)]; exact r1_g12
  have r2_g13 : g13 (b + 1 + 2) = .inl (0, 49, .inl (fun _ => 0)) := by rw [eg13, vu_ne (by omega)]; exact r2_g12
  have r3_g13 : g13 (b + 1 + 3) = .inl (0, 3, .inl (fun _ => 0)) := by rw [eg13, vu_ne (by omega)]; exact r3_g12
  have r4_g13 : g13 (b + 1 + 4) = .inl (0, 3, .inl (fun _ => 0)) := by rw [eg13, vu_ne (by omega)]; exact r4_g12
  have r5_g13 : g13 (b + 1 + 5) = .inl (0, 126, .inl (fun _ => 0)) := by rw [eg13, vu_ne (by omega)]; exact r5_g12
  have o_g13 : g13 (b) = .inr (3, [.int 0, .int 0, .int 0, .int 0, .int 0, .int 0, .ref (b + 1 + 0), .ref (b + 1 + 1), .ref (b + 1 + 2), .ref (b + 1 + 3), .ref (b + 1 + 4), .ref (b + 1 + 5), .null, .null, .null]) := by rw [eg13, vu_ne (by omega)]; exact o_g12
  have r6_g13 : g13 (b + 1 + 6) = .inl (0, 180, .inl (fun _ => 0)) := by rw [eg13, vu_eq]
  refine gs_putF hC dI3_56 ck3 (by decide) fl_X3_30 (by omega) (by omega) o_g13 rfl rfl rfl (Nat.le_of_ble_eq_true rfl) ?_
  obtain ⟨g14, eg14⟩ : ∃ x : hp, x = va_up g13 (b) (.inr (3, ([.int 0, .int 0, .int 0, .int 0, .int 0, .int 0, .ref (b + 1 + 0), .ref (b + 1 + 1), .ref (b + 1 + 2), .ref (b + 1 + 3), .ref (b + 1 + 4), .ref (b + 1 + 5), .null, .null, .null] : List Value).set 12 (.ref (b + 1 + 6)))) := ⟨_, rfl⟩
  rw [← eg14]
  have f_g14 : ∀ a, a < b → g14 a = h a := fun a ha => by rw [eg14]; exact (vu_ne (by omega)).trans (f_g13 a ha)
  have r0_g14 : g14 (b + 1 + 0) = .inl (0, 12, .inl (fun _ => 0)) := by rw [eg14, vu_ne (by omega)]; exact r0_g13
  have r1_g14 : g14 (b + 1 + 1) = .inl (0, 7, .inl (fun _ => 0)) := by rw [eg14, vu_ne (by omega)]; exact r1_g13
  have r2_g14 : g14 (b + 1 + 2) = .inl (0, 49, .inl (fun _ => 0)) := by rw [eg14, vu_ne (by omega)]; exact r2_g13
  have r3_g14 : g14 (b + 1 + 3) = .inl (0, 3, .inl (fun _ => 0)) := by rw [eg14, vu_ne (by omega)]; exact r3_g13
  have r4_g14 : g14 (b + 1 + 4) = .inl (0, 3, .inl (fun _ => 0)) := by rw [eg14, vu_ne (by omega)]; exact r4_g13
  have r5_g14 : g14 (b + 1 + 5) = .inl (0, 126, .inl (fun _ => 0)) := by rw [eg14, vu_ne (by omega)]; exact r5_g13
  have r6_g14 : g14 (b + 1 + 6) = .inl (0, 180, .inl (fun _ => 0)) := by rw [eg14, vu_ne (by omega)]; exact r6_g13
  have o_g14 : g14 (b) = .inr (3, [.int 0, .int 0, .int 0, .int 0, .int 0, .int 0, .ref (b + 1 + 0), .ref (b + 1 + 1), .ref (b + 1 + 2), .ref (b + 1 + 3), .ref (b + 1 + 4), .ref (b + 1 + 5), .ref (b + 1 + 6), .null, .null]) := by rw [eg14, vu_eq]; rfl
  refine gs_aload dI3_59 rfl ?_
  refine gs_sipush (v := nI 180) (by decide) dI3_60 ?_
  refine gs_newa_i hC (N := 180) dI3_63 rfl (by decide) (by omega) (by decide) (by decide) ?_
  obtain ⟨g15, eg15⟩ : ∃ x : hp, x = va_up g14 (b + 1 + 7) (.inl (0, 180, .inl (fun _ => 0))) := ⟨_, rfl⟩
  rw [← eg15]
  have f_g15 : ∀ a, a < b → g15 a = h a := fun a ha => by rw [eg15]; exact (vu_ne (by omega)).trans (f_g14 a ha)
  have r0_g15 : g15 (b + 1 + 0) = .inl (0, 12, .inl (fun _ => 0)) := by rw [eg15, vu_ne (by omega)]; exact r0_g14
  have r1_g15 : g15 (b + 1 + 1) = .inl (0, 7, .inl (fun _ => 0)) := by rw [eg15, vu_ne (by omega)]; exact r1_g14
  have r2_g15 : g15 (b + 1 + 2) = .inl (0, 49, .inl (fun _ => 0)) := by rw [eg15, vu_ne (by omega)]; exact r2_g14
  have r3_g15 : g15 (b + 1 + 3) = .inl (0, 3, .inl (fun _ => 0)) := by rw [eg15, vu_ne (by omega)]; exact r3_g14
  have r4_g15 : g15 (b + 1 + 4) = .inl (0, 3, .inl (fun _ => 0)) := by rw [eg15, vu_ne (by omega)]; exact r4_g14
  have r5_g15 : g15 (b + 1 + 5) = .inl (0, 126, .inl (fun _ => 0)) := by rw [eg15, vu_ne (by omega)]; exact r5_g14
  have r6_g15 : g15 (b + 1 + 6) = .inl (0, 180, .inl (fun _ => 0)) := by rw [eg15, vu_ne (by omega)]; exact r6_g14
  have o_g15 : g15 (b) = .inr (3, [.int 0, .int 0, .int 0, .int 0, .int 0, .int 0, .ref (b + 1 + 0), .ref (b + 1 + 1), .ref (b + 1 + 2), .ref (b + 1 + 3), .ref (b + 1 + 4), .ref (b + 1 + 5), .ref (b + 1 + 6), .null, .null]) := by rw [eg15, vu_ne (by omega)]; exact o_g14
  have r7_g15 : g15 (b + 1 + 7) = .inl (0, 180, .inl (fun _ => 0)) := by rw [eg15, vu_eq]
  refine gs_putF hC dI3_65 ck3 (by decide) fl_X3_33 (by omega) (by omega) o_g15 rfl rfl rfl (Nat.le_of_ble_eq_true rfl) ?_
  obtain ⟨g16, eg16⟩ : ∃ x : hp, x = va_up g15 (b) (.inr (3, ([.int 0, .int 0, .int 0, .int 0, .int 0, .int 0, .ref (b + 1 + 0), .ref (b + 1 + 1), .ref (b + 1 + 2), .ref (b + 1 + 3), .ref (b + 1 + 4), .ref (b + 1 + 5), .ref (b + 1 + 6), .null, .null] : List Value).set 13 (.ref (b + 1 + 7)))) := ⟨_, rfl⟩
  rw [← eg16]
  have f_g16 : ∀ a, a < b → g16 a = h a := fun a ha => by rw [eg16]; exact (vu_ne (by omega)).trans (f_g15 a ha)
  have r0_g16 : g16 (b + 1 + 0) = .inl (0, 12, .inl (fun _ => 0)) := by rw [eg16, vu_ne (by omega)]; exact r0_g15
  have r1_g16 : g16 (b + 1 + 1) = .inl (0, 7, .inl (fun _ => 0)) := by rw [eg16, vu_ne (by omega)]; exact r1_g15
  have r2_g16 : g16 (b + 1 + 2) = .inl (0, 49, .inl (fun _ => 0)) := by rw [eg16, vu_ne (by omega)]; exact r2_g15
  have r3_g16 : g16 (b + 1 + 3) = .inl (0, 3, .inl (fun _ => 0)) := by rw [eg16, vu_ne (by omega)]; exact r3_g15
  have r4_g16 : g16 (b + 1 + 4) = .inl (0, 3, .inl (fun _ => 0)) := by rw [eg16, vu_ne (by omega)]; exact r4_g15
  have r5_g16 : g16 (b + 1 + 5) = .inl (0, 126, .inl (fun _ => 0)) := by rw [eg16, vu_ne (by omega)]; exact r5_g15
  have r6_g16 : g16 (b + 1 + 6) = .inl (0, 180, .inl (fun _ => 0)) := by rw [eg16, vu_ne (by omega)]; exact r6_g15
  have r7_g16 : g16 (b + 1 + 7) = .inl (0, 180, .inl (fun _ => 0)) := by rw [eg16, vu_ne (by omega)]; exact r7_g15
  have o_g16 : g16 (b) = .inr (3, [.int 0, .int 0, .int 0, .int 0, .int 0, .int 0, .ref (b + 1 + 0), .ref (b + 1 + 1), .ref (b + 1 + 2), .ref (b + 1 + 3), .ref (b + 1 + 4), .ref (b + 1 + 5), .ref (b + 1 + 6), .ref (b + 1 + 7), .null]) := by rw [eg16, vu_eq]; rfl
  refine gs_aload dI3_68 rfl ?_
  refine gs_sipush (v := nI 180) (by decide) dI3_69 ?_
  refine gs_newa_i hC (N := 180) dI3_72 rfl (by decide) (by omega) (by decide) (by decide) ?_
  obtain ⟨g17, eg17⟩ : ∃ x : hp, x = va_up g16 (b + 1 + 8) (.inl (0, 180, .inl (fun _ => 0))) := ⟨_, rfl⟩
  rw [← eg17]
  have f_g17 : ∀ a, a < b → g17 a = h a := fun a ha => by rw [eg17]; exact (vu_ne (by omega)).trans (f_g16 a ha)
  have r0_g17 : g17 (b + 1 + 0) = .inl (0, 12, .inl (fun _ => 0)) := by rw [eg17, vu_ne (by omega)]; exact r0_g16
  have r1_g17 : g17 (b + 1 + 1) = .inl (0, 7, .inl (fun _ => 0)) := by rw [eg17, vu_ne (by omega)]; exact r1_g16
  have r2_g17 : g17 (b + 1 + 2) = .inl (0, 49, .inl (fun _ => 0)) := by rw [eg17, vu_ne (by omega)]; exact r2_g16
  have r3_g17 : g17 (b + 1 + 3) = .inl (0, 3, .inl (fun _ => 0)) := by rw [eg17, vu_ne (by omega)]; exact r3_g16
  have r4_g17 : g17 (b + 1 + 4) = .inl (0, 3, .inl (fun _ => 0)) := by rw [eg17, vu_ne (by omega)]; exact r4_g16
  have r5_g17 : g17 (b + 1 + 5) = .inl (0, 126, .inl (fun _ => 0)) := by rw [eg17, vu_ne (by omega)]; exact r5_g16
  have r6_g17 : g17 (b + 1 + 6) = .inl (0, 180, .inl (fun _ => 0)) := by rw [eg17, vu_ne (by omega)]; exact r6_g16
  have r7_g17 : g17 (b + 1 + 7) = .inl (0, 180, .inl (fun _ => 0)) := by rw [eg17, vu_ne (by omega)]; exact r7_g16
  have o_g17 : g17 (b) = .inr (3, [.int 0, .int 0, .int 0, .int 0, .int 0, .int 0, .ref (b + 1 + 0), .ref (b + 1 + 1), .ref (b + 1 + 2), .ref (b + 1 + 3), .ref (b + 1 + 4), .ref (b + 1 + 5), .ref (b + 1 + 6), .ref (b + 1 + 7), .null]) := by rw [eg17, vu_ne (by omega)]; exact o_g16
  have r8_g17 : g17 (b + 1 + 8) = .inl (0, 180, .inl (fun _ => 0)) := by rw [eg17, vu_eq]
  refine gs_putF hC dI3_74 ck3 (by decide) fl_X3_36 (by omega) (by omega) o_g17 rfl rfl rfl (Nat.le_of_ble_eq_true rfl) ?_
  obtain ⟨g18, eg18⟩ : ∃ x : hp, x = va_up g17 (b) (.inr (3, ([.int 0, .int 0, .int 0, .int 0, .int 0, .int 0, .ref (b + 1 + 0), .ref (b + 1 + 1), .ref (b + 1 + 2), .ref (b + 1 + 3), .ref (b + 1 + 4), .ref (b + 1 + 5), .ref (b + 1 + 6), .ref (b + 1 + 7), .null] : List Value).set 14 (.ref (b + 1 + 8)))) := ⟨_, rfl⟩
  rw [← eg18]
  have f_g18 : ∀ a, a < b → g18 a = h a := fun a ha => by rw [eg18]; exact (vu_ne (by omega)).trans (f_g17 a ha)
  have r0_g18 : g18 (b + 1 + 0) = .inl (0, 12, .inl (fun _ => 0)) := by rw [eg18, vu_ne (by omega)]; exact r0_g17
  have r1_g18 : g18 (b + 1 + 1) = .inl (0, 7, .inl (fun _ => 0)) := by rw [eg18, vu_ne (by omega)]; exact r1_g17
  have r2_g18 : g18 (b + 1 + 2) = .inl (0, 49, .inl (fun _ => 0)) := by rw [eg18, vu_ne (by omega)]; exact r2_g17
  have r3_g18 : g18 (b + 1 + 3) = .inl (0, 3, .inl (fun _ => 0)) := by rw [eg18, vu_ne (by omega)]; exact r3_g17
  have r4_g18 : g18 (b + 1 + 4) = .inl (0, 3, .inl (fun _ => 0)) := by rw [eg18, vu_ne (by omega)]; exact r4_g17
  have r5_g18 : g18 (b + 1 + 5) = .inl (0, 126, .inl (fun _ => 0)) := by rw [eg18, vu_ne (by omega)]; exact r5_g17
  have r6_g18 : g18 (b + 1 + 6) = .inl (0, 180, .inl (fun _ => 0)) := by rw [eg18, vu_ne (by omega)]; exact r6_g17
  have r7_g18 : g18 (b + 1 + 7) = .inl (0, 180, .inl (fun _ => 0)) := by rw [eg18, vu_ne (by omega)]; exact r7_g17
  have r8_g18 : g18 (b + 1 + 8) = .inl (0, 180, .inl (fun _ => 0)) := by rw [eg18, vu_ne (by omega)]; exact r8_g17
  have o_g18 : g18 (b) = .inr (3, [.int 0, .int 0, .int 0, .int 0, .int 0, .int 0, .ref (b + 1 + 0), .ref (b + 1 + 1), .ref (b + 1 + 2), .ref (b + 1 + 3), .ref (b + 1 + 4), .ref (b + 1 + 5), .ref (b + 1 + 6), .ref (b + 1 + 7), .ref (b + 1 + 8)]) := by rw [eg18, vu_eq]; rfl
  refine gs_aload dI3_77 rfl ?_
  refine gs_iconst (v := I ((5 : Nat) : Int)) rfl dI3_78 ?_
  refine gs_iconst (v := I ((5 : Nat) : Int)) rfl dI3_79 ?_
  have hS : SA (b + 1 + 9) g18 b (fun _ => 0) := ⟨by omega, o_g18, ⟨_, r0_g18, fun _ _ => rfl⟩, ⟨_, r1_g18, fun _ _ => rfl⟩, ⟨_, r2_g18, fun _ _ => rfl⟩, ⟨_, r3_g18, fun _ _ => rfl⟩, ⟨_, r4_g18, fun _ _ => rfl⟩, ⟨_, r5_g18, fun _ _ => rfl⟩, ⟨_, r6_g18, fun _ _ => rfl⟩, ⟨_, r7_g18, fun _ _ => rfl⟩, ⟨_, r8_g18, fun _ _ => rfl⟩⟩
  refine gs_cvv hE hX hl9 hC (As := [.int (I ((5 : Nat) : Int)), .int (I ((5 : Nat) : Int))]) (n := 2) dI3_80 ln_init_39 rfl rfl (Nat.le_of_ble_eq_true rfl) (by omega) (by omega) o_g18 rfl rfl (sp_beginAnew hS (w := 5) (t := 5) (by decide)) (by decide) (by decide) (fun h1 hq => ?_)
  exact gs_ret dI3_83 rfl ⟨hq.1, fun a ha => (hq.2 a (Or.inl ha)).trans (f_g18 a ha)⟩ rfl rfl
theorem dI0_0 : decode cX0_init 0 = .ok (.aload_n 0, 1) := by decide +kernel
theorem dI0_1 : decode cX0_init 1 = .ok (.invokespecial 3, 3) := by decide +kernel
theorem dI0_4 : decode cX0_init 4 = .ok (.aload_n 0, 1) := by decide +kernel
theorem dI0_5 : decode cX0_init 5 = .ok (.sipush 180, 3) := by decide +kernel
theorem dI0_8 : decode cX0_init 8 = .ok (.newarray .int, 2) := by decide +kernel
theorem dI0_10 : decode cX0_init 10 = .ok (.putfield 9, 3) := by decide +kernel
theorem dI0_13 : decode cX0_init 13 = .ok (.aload_n 0, 1) := by decide +kernel
theorem dI0_14 : decode cX0_init 14 = .ok (.sipush 180, 3) := by decide +kernel
theorem dI0_17 : decode cX0_init 17 = .ok (.newarray .int, 2) := by decide +kernel
theorem dI0_19 : decode cX0_init 19 = .ok (.putfield 15, 3) := by decide +kernel
theorem dI0_22 : decode cX0_init 22 = .ok (.return_, 1) := by decide +kernel
theorem gi_X0 (hE : envOK Γ St) {adV : Nat → Nat} (hX : envX Γ St adV) (hl9 : l.stackTraces = false) (hC : envC Γ St z) {b : Nat} {h : hp} (hb : b + 10 ≤ 1000) (ho : h b = .inr (0, [.null, .null])) : MetG Γ l St z M_X0_init (b + 1) 2 360 b h (fun h1 => h1 b = .inr (0, [.ref (b + 1 + 0), .ref (b + 1 + 1)]) ∧ h1 (b + 1 + 0) = .inl (0, 180, .inl (fun _ => 0)) ∧ h1 (b + 1 + 1) = .inl (0, 180, .inl (fun _ => 0)) ∧ ∀ a, a < b → h1 a = h a) := by
  refine gs_met (by decide) rfl (by decide) ?_
  have o_h : h b = .inr (0, [.null, .null]) := ho
  have f_h : ∀ a, a < b → h a = h a := fun _ _ => rfl
  refine gs_aload dI0_0 rfl ?_
  refine gs_obj0 dI0_1 (gT_mem 174 (by decide +kernel) (by decide +kernel)) (by decide) (by decide) ?_
  refine gs_aload dI0_4 rfl ?_
  refine gs_sipush (v := nI 180) (by decide) dI0_5 ?_
  refine gs_newa_i hC (N := 180) dI0_8 rfl (by decide) (by omega) (by decide) (by decide) ?_
  obtain ⟨g1, eg1⟩ : ∃ x : hp, x = va_up h (b + 1 + 0) (.inl (0, 180, .inl (fun _ => 0))) := ⟨_, rfl⟩
  rw [← eg1]
  have o_g1 : g1 (b) = .inr (0, [.null, .null]) := by rw [eg1, vu_ne (by omega)]; exact o_h
  have f_g1 : ∀ a, a < b → g1 a = h a := fun a ha => by rw [eg1]; exact (vu_ne (by omega)).trans (f_h a ha)
  have r0_g1 : g1 (b + 1 + 0) = .inl (0, 180, .inl (fun _ => 0)) := by rw [eg1, vu_eq]
  refine gs_putF hC dI0_10 ck0 (by decide) fl_X0_9 (by omega) (by omega) o_g1 rfl rfl rfl (Nat.le_of_ble_eq_true rfl) ?_
  obtain ⟨g2, eg2⟩ : ∃ x : hp, x = va_up g1 (b) (.inr (0, ([.null, .null] : List Value).set 0 (.ref (b + 1 + 0)))) := ⟨_, rfl⟩
  rw [← eg2]
  have f_g2 : ∀ a, a < b → g2 a = h a := fun a ha => by rw [eg2]; exact (vu_ne (by omega)).trans (f_g1 a ha)
  have r0_g2 : g2 (b + 1 + 0) = .inl (0, 180, .inl (fun _ => 0)) := by rw [eg2, vu_ne (by omega)]; exact r0_g1
  have o_g2 : g2 (b) = .inr (0, [.ref (b + 1 + 0), .null]) := by rw [eg2, vu_eq]; rfl
  refine gs_aload dI0_13 rfl ?_
  refine gs_sipush (v := nI 180) (by decide) dI0_14 ?_
  refine gs_newa_i hC (N := 180) dI0_17 rfl (by decide) (by omega) (by decide) (by decide) ?_
  obtain ⟨g3, eg3⟩ : ∃ x : hp, x = va_up g2 (b + 1 + 1) (.inl (0, 180, .inl (fun _ => 0))) := ⟨_, rfl⟩
  rw [← eg3]
  have f_g3 : ∀ a, a < b → g3 a = h a := fun a ha => by rw [eg3]; exact (vu_ne (by omega)).trans (f_g2 a ha)
  have r0_g3 : g3 (b + 1 + 0) = .inl (0, 180, .inl (fun _ => 0)) := by rw [eg3, vu_ne (by omega)]; exact r0_g2
  have o_g3 : g3 (b) = .inr (0, [.ref (b + 1 + 0), .null]) := by rw [eg3, vu_ne (by omega)]; exact o_g2
  have r1_g3 : g3 (b + 1 + 1) = .inl (0, 180, .inl (fun _ => 0)) := by rw [eg3, vu_eq]
  refine gs_putF hC dI0_19 ck0 (by decide) fl_X0_15 (by omega) (by omega) o_g3 rfl rfl rfl (Nat.le_of_ble_eq_true rfl) ?_
  obtain ⟨g4, eg4⟩ : ∃ x : hp, x = va_up g3 (b) (.inr (0, ([.ref (b + 1 + 0), .null] : List Value).set 1 (.ref (b + 1 + 1)))) := ⟨_, rfl⟩
  rw [← eg4]
  have f_g4 : ∀ a, a < b → g4 a = h a := fun a ha => by rw [eg4]; exact (vu_ne (by omega)).trans (f_g3 a ha)
  have r0_g4 : g4 (b + 1 + 0) = .inl (0, 180, .inl (fun _ => 0)) := by rw [eg4, vu_ne (by omega)]; exact r0_g3
  have r1_g4 : g4 (b + 1 + 1) = .inl (0, 180, .inl (fun _ => 0)) := by rw [eg4, vu_ne (by omega)]; exact r1_g3
  have o_g4 : g4 (b) = .inr (0, [.ref (b + 1 + 0), .ref (b + 1 + 1)]) := by rw [eg4, vu_eq]; rfl
  exact gs_ret dI0_22 rfl ⟨o_g4, r0_g4, r1_g4, f_g4⟩ rfl rfl
theorem dI2_0 : decode cX2_init 0 = .ok (.aload_n 0, 1) := by decide +kernel
theorem dI2_1 : decode cX2_init 1 = .ok (.invokespecial 3, 3) := by decide +kernel
theorem dI2_4 : decode cX2_init 4 = .ok (.aload_n 0, 1) := by decide +kernel
theorem dI2_5 : decode cX2_init 5 = .ok (.sipush 180, 3) := by decide +kernel
theorem dI2_8 : decode cX2_init 8 = .ok (.newarray .int, 2) := by decide +kernel
theorem dI2_10 : decode cX2_init 10 = .ok (.putfield 9, 3) := by decide +kernel
theorem dI2_13 : decode cX2_init 13 = .ok (.aload_n 0, 1) := by decide +kernel
theorem dI2_14 : decode cX2_init 14 = .ok (.sipush 180, 3) := by decide +kernel
theorem dI2_17 : decode cX2_init 17 = .ok (.newarray .int, 2) := by decide +kernel
theorem dI2_19 : decode cX2_init 19 = .ok (.putfield 15, 3) := by decide +kernel
theorem dI2_22 : decode cX2_init 22 = .ok (.aload_n 0, 1) := by decide +kernel
theorem dI2_23 : decode cX2_init 23 = .ok (.sipush 180, 3) := by decide +kernel
theorem dI2_26 : decode cX2_init 26 = .ok (.newarray .int, 2) := by decide +kernel
theorem dI2_28 : decode cX2_init 28 = .ok (.putfield 18, 3) := by decide +kernel
theorem dI2_31 : decode cX2_init 31 = .ok (.return_, 1) := by decide +kernel
theorem gi_X2 (hE : envOK Γ St) {adV : Nat → Nat} (hX : envX Γ St adV) (hl9 : l.stackTraces = false) (hC : envC Γ St z) {b : Nat} {h : hp} (hb : b + 10 ≤ 1000) (ho : h b = .inr (2, [.null, .null, .null, .int 0])) : MetG Γ l St z M_X2_init (b + 1) 3 540 b h (fun h1 => h1 b = .inr (2, [.ref (b + 1 + 0), .ref (b + 1 + 1), .ref (b + 1 + 2), .int 0]) ∧ h1 (b + 1 + 0) = .inl (0, 180, .inl (fun _ => 0)) ∧ h1 (b + 1 + 1) = .inl (0, 180, .inl (fun _ => 0)) ∧ h1 (b + 1 + 2) = .inl (0, 180, .inl (fun _ => 0)) ∧ ∀ a, a < b → h1 a = h a) := by
  refine gs_met (by decide) rfl (by decide) ?_
  have o_h : h b = .inr (2, [.null, .null, .null, .int 0]) := ho
  have f_h : ∀ a, a < b → h a = h a := fun _ _ => rfl
  refine gs_aload dI2_0 rfl ?_
  refine gs_obj0 dI2_1 (gT_mem 187 (by decide +kernel) (by decide +kernel)) (by decide) (by decide) ?_
  refine gs_aload dI2_4 rfl ?_
  refine gs_sipush (v := nI 180) (by decide) dI2_5 ?_
  refine gs_newa_i hC (N := 180) dI2_8 rfl (by decide) (by omega) (by decide) (by decide) ?_
  obtain ⟨g1, eg1⟩ : ∃ x : hp, x = va_up h (b + 1 + 0) (.inl (0, 180, .inl (fun _ => 0))) := ⟨_, rfl⟩
  rw [← eg1]
  have o_g1 : g1 (b) = .inr (2, [.null, .null, .null, .int 0]) := by rw [eg1, vu_ne (by omega)]; exact o_h
  have f_g1 : ∀ a, a < b → g1 a = h a := fun a ha => by rw [eg1]; exact (vu_ne (by omega)).trans (f_h a ha)
  have r0_g1 : g1 (b + 1 + 0) = .inl (0, 180, .inl (fun _ => 0)) := by rw [eg1, vu_eq]
  refine gs_putF hC dI2_10 ck2 (by decide) fl_X2_9 (by omega) (by omega) o_g1 rfl rfl rfl (Nat.le_of_ble_eq_true rfl) ?_
  obtain ⟨g2, eg2⟩ : ∃ x : hp, x = va_up g1 (b) (.inr (2, ([.null, .null, .null, .int 0] : List Value).set 0 (.ref (b + 1 + 0)))) := ⟨_, rfl⟩
  rw [← eg2]
  have f_g2 : ∀ a, a < b → g2 a = h a := fun a ha => by rw [eg2]; exact (vu_ne (by omega)).trans (f_g1 a ha)
  have r0_g2 : g2 (b + 1 + 0) = .inl (0, 180, .inl (fun _ => 0)) := by rw [eg2, vu_ne (by omega)]; exact r0_g1
  have o_g2 : g2 (b) = .inr (2, [.ref (b + 1 + 0), .null, .null, .int 0]) := by rw [eg2, vu_eq]; rfl
  refine gs_aload dI2_13 rfl ?_
  refine gs_sipush (v := nI 180) (by decide) dI2_14 ?_
  refine gs_newa_i hC (N := 180) dI2_17 rfl (by decide) (by omega) (by decide) (by decide) ?_
  obtain ⟨g3, eg3⟩ : ∃ x : hp, x = va_up g2 (b + 1 + 1) (.inl (0, 180, .inl (fun _ => 0))) := ⟨_, rfl⟩
  rw [← eg3]
  have f_g3 : ∀ a, a < b → g3 a = h a := fun a ha => by rw [eg3]; exact (vu_ne (by omega)).trans (f_g2 a ha)
  have r0_g3 : g3 (b + 1 + 0) = .inl (0, 180, .inl (fun _ => 0)) := by rw [eg3, vu_ne (by omega)]; exact r0_g2
  have o_g3 : g3 (b) = .inr (2, [.ref (b + 1 + 0), .null, .null, .int 0]) := by rw [eg3, vu_ne (by omega)]; exact o_g2
  have r1_g3 : g3 (b + 1 + 1) = .inl (0, 180, .inl (fun _ => 0)) := by rw [eg3, vu_eq]
  refine gs_putF hC dI2_19 ck2 (by decide) fl_X2_15 (by omega) (by omega) o_g3 rfl rfl rfl (Nat.le_of_ble_eq_true rfl) ?_
  obtain ⟨g4, eg4⟩ : ∃ x : hp, x = va_up g3 (b) (.inr (2, ([.ref (b + 1 + 0), .null, .null, .int 0] : List Value).set 1 (.ref (b + 1 + 1)))) := ⟨_, rfl⟩
  rw [← eg4]
  have f_g4 : ∀ a, a < b → g4 a = h a := fun a ha => by rw [eg4]; exact (vu_ne (by omega)).trans (f_g3 a ha)
  have r0_g4 : g4 (b + 1 + 0) = .inl (0, 180, .inl (fun _ => 0)) := by rw [eg4, vu_ne (by omega)]; exact r0_g3
  have r1_g4 : g4 (b + 1 + 1) = .inl (0, 180, .inl (fun _ => 0)) := by rw [eg4, vu_ne (by omega)]; exact r1_g3
  have o_g4 : g4 (b) = .inr (2, [.ref (b + 1 + 0), .ref (b + 1 + 1), .null, .int 0]) := by rw [eg4, vu_eq]; rfl
  refine gs_aload dI2_22 rfl ?_
  refine gs_sipush (v := nI 180) (by decide) dI2_23 ?_
  refine gs_newa_i hC (N := 180) dI2_26 rfl (by decide) (by omega) (by decide) (by decide) ?_
  obtain ⟨g5, eg5⟩ : ∃ x : hp, x = va_up g4 (b + 1 + 2) (.inl (0, 180, .inl (fun _ => 0))) := ⟨_, rfl⟩
  rw [← eg5]
  have f_g5 : ∀ a, a < b → g5 a = h a := fun a ha => by rw [eg5]; exact (vu_ne (by omega)).trans (f_g4 a ha)
  have r0_g5 : g5 (b + 1 + 0) = .inl (0, 180, .inl (fun _ => 0)) := by rw [eg5, vu_ne (by omega)]; exact r0_g4
  have r1_g5 : g5 (b + 1 + 1) = .inl (0, 180, .inl (fun _ => 0)) := by rw [eg5, vu_ne (by omega)]; exact r1_g4
  have o_g5 : g5 (b) = .inr (2, [.ref (b + 1 + 0), .ref (b + 1 + 1), .null, .int 0]) := by rw [eg5, vu_ne (by omega)]; exact o_g4
  have r2_g5 : g5 (b + 1 + 2) = .inl (0, 180, .inl (fun _ => 0)) := by rw [eg5, vu_eq]
  refine gs_putF hC dI2_28 ck2 (by decide) fl_X2_18 (by omega) (by omega) o_g5 rfl rfl rfl (Nat.le_of_ble_eq_true rfl) ?_
  obtain ⟨g6, eg6⟩ : ∃ x : hp, x = va_up g5 (b) (.inr (2, ([.ref (b + 1 + 0), .ref (b + 1 + 1), .null, .int 0] : List Value).set 2 (.ref (b + 1 + 2)))) := ⟨_, rfl⟩
  rw [← eg6]
  have f_g6 : ∀ a, a < b → g6 a = h a := fun a ha => by rw [eg6]; exact (vu_ne (by omega)).trans (f_g5 a ha)
  have r0_g6 : g6 (b + 1 + 0) = .inl (0, 180, .inl (fun _ => 0)) := by rw [eg6, vu_ne (by omega)]; exact r0_g5
  have r1_g6 : g6 (b + 1 + 1) = .inl (0, 180, .inl (fun _ => 0)) := by rw [eg6, vu_ne (by omega)]; exact r1_g5
  have r2_g6 : g6 (b + 1 + 2) = .inl (0, 180, .inl (fun _ => 0)) := by rw [eg6, vu_ne (by omega)]; exact r2_g5
  have o_g6 : g6 (b) = .inr (2, [.ref (b + 1 + 0), .ref (b + 1 + 1), .ref (b + 1 + 2), .int 0]) := by rw [eg6, vu_eq]; rfl
  exact gs_ret dI2_31 rfl ⟨o_g6, r0_g6, r1_g6, r2_g6, f_g6⟩ rfl rfl
theorem dI4_0 : decode cX4_init 0 = .ok (.aload_n 0, 1) := by decide +kernel
theorem dI4_1 : decode cX4_init 1 = .ok (.invokespecial 3, 3) := by decide +kernel
theorem dI4_4 : decode cX4_init 4 = .ok (.aload_n 0, 1) := by decide +kernel
theorem dI4_5 : decode cX4_init 5 = .ok (.sipush 600, 3) := by decide +kernel
theorem dI4_8 : decode cX4_init 8 = .ok (.newarray .byte, 2) := by decide +kernel
theorem dI4_10 : decode cX4_init 10 = .ok (.putfield 9, 3) := by decide +kernel
theorem dI4_13 : decode cX4_init 13 = .ok (.return_, 1) := by decide +kernel
theorem gi_X4 (hE : envOK Γ St) {adV : Nat → Nat} (hX : envX Γ St adV) (hl9 : l.stackTraces = false) (hC : envC Γ St z) {b : Nat} {h : hp} (hb : b + 10 ≤ 1000) (ho : h b = .inr (4, [.null, .int 0, .int 0, .int 0, .int 0, .int 0, .int 0, .int 0, .int 0, .int 0, .int 0, .int 0, .int 0])) : MetG Γ l St z M_X4_init (b + 1) 1 600 b h (fun h1 => h1 b = .inr (4, [.ref (b + 1 + 0), .int 0, .int 0, .int 0, .int 0, .int 0, .int 0, .int 0, .int 0, .int 0, .int 0, .int 0, .int 0]) ∧ h1 (b + 1 + 0) = .inl (1, 600, .inl (fun _ => 0)) ∧ ∀ a, a < b → h1 a = h a) := by
  refine gs_met (by decide) rfl (by decide) ?_
  have o_h : h b = .inr (4, [.null, .int 0, .int 0, .int 0, .int 0, .int 0, .int 0, .int 0, .int 0, .int 0, .int 0, .int 0, .int 0]) := ho
  have f_h : ∀ a, a < b → h a = h a := fun _ _ => rfl
  refine gs_aload dI4_0 rfl ?_
  refine gs_obj0 dI4_1 (gT_mem 206 (by decide +kernel) (by decide +kernel)) (by decide) (by decide) ?_
  refine gs_aload dI4_4 rfl ?_
  refine gs_sipush (v := nI 600) (by decide) dI4_5 ?_
  refine gs_newa_b hC (N := 600) dI4_8 rfl (by decide) (by omega) (by decide) (by decide) ?_
  obtain ⟨g1, eg1⟩ : ∃ x : hp, x = va_up h (b + 1 + 0) (.inl (1, 600, .inl (fun _ => 0))) := ⟨_, rfl⟩
  rw [← eg1]
  have o_g1 : g1 (b) = .inr (4, [.null, .int 0, .int 0, .int 0, .int 0, .int 0, .int 0, .int 0, .int 0, .int 0, .int 0, .int 0, .int 0]) := by rw [eg1, vu_ne (by omega)]; exact o_h
  have f_g1 : ∀ a, a < b → g1 a = h a := fun a ha => by rw [eg1]; exact (vu_ne (by omega)).trans (f_h a ha)
  have r0_g1 : g1 (b + 1 + 0) = .inl (1, 600, .inl (fun _ => 0)) := by rw [eg1, vu_eq]
  refine gs_putF hC dI4_10 ck4 (by decide) fl_X4_9 (by omega) (by omega) o_g1 rfl rfl rfl (Nat.le_of_ble_eq_true rfl) ?_
  obtain ⟨g2, eg2⟩ : ∃ x : hp, x = va_up g1 (b) (.inr (4, ([.null, .int 0, .int 0, .int 0, .int 0, .int 0, .int 0, .int 0, .int 0, .int 0, .int 0, .int 0, .int 0] : List Value).set 0 (.ref (b + 1 + 0)))) := ⟨_, rfl⟩
  rw [← eg2]
  have f_g2 : ∀ a, a < b → g2 a = h a := fun a ha => by rw [eg2]; exact (vu_ne (by omega)).trans (f_g1 a ha)
  have r0_g2 : g2 (b + 1 + 0) = .inl (1, 600, .inl (fun _ => 0)) := by rw [eg2, vu_ne (by omega)]; exact r0_g1
  have o_g2 : g2 (b) = .inr (4, [.ref (b + 1 + 0), .int 0, .int 0, .int 0, .int 0, .int 0, .int 0, .int 0, .int 0, .int 0, .int 0, .int 0, .int 0]) := by rw [eg2, vu_eq]; rfl
  exact gs_ret dI4_13 rfl ⟨o_g2, r0_g2, f_g2⟩ rfl rfl
theorem dI1_0 : decode cX1_init 0 = .ok (.aload_n 0, 1) := by decide +kernel
theorem dI1_1 : decode cX1_init 1 = .ok (.invokespecial 3, 3) := by decide +kernel
theorem dI1_4 : decode cX1_init 4 = .ok (.aload_n 0, 1) := by decide +kernel
theorem dI1_5 : decode cX1_init 5 = .ok (.bipush 8, 2) := by decide +kernel
theorem dI1_7 : decode cX1_init 7 = .ok (.anewarray 9, 3) := by decide +kernel
theorem dI1_10 : decode cX1_init 10 = .ok (.putfield 11, 3) := by decide +kernel
theorem dI1_13 : decode cX1_init 13 = .ok (.iconst 0, 1) := by decide +kernel
theorem dI1_14 : decode cX1_init 14 = .ok (.istore_n 1, 1) := by decide +kernel
theorem dI1_15 : decode cX1_init 15 = .ok (.iload_n 1, 1) := by decide +kernel
theorem dI1_16 : decode cX1_init 16 = .ok (.bipush 8, 2) := by decide +kernel
theorem dI1_18 : decode cX1_init 18 = .ok (.if_icmp .ge 22, 3) := by decide +kernel
theorem dI1_21 : decode cX1_init 21 = .ok (.aload_n 0, 1) := by decide +kernel
theorem dI1_22 : decode cX1_init 22 = .ok (.getfield 11, 3) := by decide +kernel
theorem dI1_25 : decode cX1_init 25 = .ok (.iload_n 1, 1) := by decide +kernel
theorem dI1_26 : decode cX1_init 26 = .ok (.new 9, 3) := by decide +kernel
theorem dI1_29 : decode cX1_init 29 = .ok (.dup, 1) := by decide +kernel
theorem dI1_30 : decode cX1_init 30 = .ok (.invokespecial 17, 3) := by decide +kernel
theorem dI1_33 : decode cX1_init 33 = .ok (.aastore, 1) := by decide +kernel
theorem dI1_34 : decode cX1_init 34 = .ok (.iinc 1 1, 3) := by decide +kernel
theorem dI1_37 : decode cX1_init 37 = .ok (.goto (-22), 3) := by decide +kernel
theorem dI1_40 : decode cX1_init 40 = .ok (.aload_n 0, 1) := by decide +kernel
theorem dI1_41 : decode cX1_init 41 = .ok (.iconst 0, 1) := by decide +kernel
theorem dI1_42 : decode cX1_init 42 = .ok (.putfield 18, 3) := by decide +kernel
theorem dI1_45 : decode cX1_init 45 = .ok (.aload_n 0, 1) := by decide +kernel
theorem dI1_46 : decode cX1_init 46 = .ok (.iconst 0, 1) := by decide +kernel
theorem dI1_47 : decode cX1_init 47 = .ok (.putfield 22, 3) := by decide +kernel
theorem dI1_50 : decode cX1_init 50 = .ok (.return_, 1) := by decide +kernel
theorem lnI_X1_17 : lnI M_X1_init 17 M_X3_init := ⟨gT_mem 29 (by decide +kernel) (by decide +kernel), gT_mem 67 (by decide +kernel) (by decide +kernel), gT_mem 66 (by decide +kernel) (by decide +kernel), rfl, rfl, ⟨by decide +kernel, by decide +kernel, by decide +kernel⟩, by decide, by decide⟩
theorem hl_loop (hE : envOK Γ St) {adV : Nat → Nat} (hX : envX Γ St adV) (hl9 : l.stackTraces = false) (hC : envC Γ St z) {h0 : hp} : ∀ (n i : Nat) (f : Nat → Option Nat) (h : hp), i + n = 8 → h 21 = .inr (1, [.ref 22, .int 0, .int 0]) → h 22 = .inl (3, 8, .inr (.inr (.inr (.inr f)))) → (∀ j, j < i → f j = some (23 + 10 * j)) → (∀ j, j < i → SA (23 + 10 * i) h (23 + 10 * j) (freshK 5 5)) → (∀ a, a < 21 → h a = h0 a) → Gs Γ l St z M_X1_init 22 81 6048 (fun h1 => h1 21 = .inr (1, [.ref 22, .int 0, .int 0]) ∧ HR h1 ∧ (∀ j, j < 8 → SA 103 h1 (23 + 10 * j) (freshK 5 5)) ∧ ∀ a, a < 21 → h1 a = h0 a) 15 [.ref 21, .int (nI i)] [] (1 + 10 * i) (8 + 755 * i) h := by
  intro n
  induction n with
  | zero =>
    intro i f h hi h1 h2 hf hs hfr
    have e : i = 8 := by omega
    subst e
    refine gs_iload dI1_15 rfl ?_
    refine gs_bipush (v := nI 8) (by decide) dI1_16 ?_
    refine gs_icmp_ge (tgt := 40) dI1_18 (by decide) (fun q => ?_) (fun q => absurd (by decide) q)
    refine gs_aload dI1_40 rfl ?_
    refine gs_iconst (v := 0) (by decide) dI1_41 ?_
    refine gs_put hC dI1_42 ck1 (by decide) fl_X1_18 (by omega) (by omega) h1 rfl rfl (by decide) ?_
    rw [up_id (by exact h1)]
    refine gs_aload dI1_45 rfl ?_
    refine gs_iconst (v := 0) (by decide) dI1_46 ?_
    refine gs_put hC dI1_47 ck1 (by decide) fl_X1_22 (by omega) (by omega) h1 rfl rfl (by decide) ?_
    rw [up_id (by exact h1)]
    exact gs_ret dI1_50 rfl ⟨h1, ⟨f, h2, hf⟩, hs, hfr⟩ rfl rfl
  | succ n ih =>
    intro i f h hi h1 h2 hf hs hfr
    refine gs_iload dI1_15 rfl ?_
    refine gs_bipush (v := nI 8) (by decide) dI1_16 ?_
    refine gs_icmp_ge (tgt := 40) dI1_18 (by decide) (fun q => absurd q (nI_ge (by omega) (by decide))) (fun q => ?_)
    refine gs_aload dI1_21 rfl ?_
    refine gs_getf dI1_22 ck1 (by decide) fl_X1_11 (by omega) h1 rfl ?_
    refine gs_iload dI1_25 rfl ?_
    refine gs_new hC (fs := [.int 0, .int 0, .int 0, .int 0, .int 0, .int 0, .null, .null, .null, .null, .null, .null, .null, .null, .null]) dI1_26 ck3 (gT_mem 155 (by decide +kernel) (by decide +kernel)) (gT_mem 64 (by decide +kernel) (by decide +kernel)) (gT_mem 29 (by decide +kernel) (by decide +kernel)) (fun j hj => ?_) (by omega) (by omega) (by omega) ?_
    · rcases (by omega : j = 0 ∨ j = 1 ∨ j = 2 ∨ j = 3 ∨ j = 4 ∨ j = 5 ∨ j = 6 ∨ j = 7 ∨ j = 8 ∨ j = 9 ∨ j = 10 ∨ j = 11 ∨ j = 12 ∨ j = 13 ∨ j = 14) with rfl | rfl | rfl | rfl | rfl | rfl | rfl | rfl | rfl | rfl | rfl | rfl | rfl | rfl | rfl <;> rfl
    refine gs_dup dI1_29 ?_
    refine gs_init hE hC (b := 22 + (1 + 10 * i)) (k2 := 9) (n2 := 740) dI1_30 lnI_X1_17 (gT_mem 157 (by decide +kernel) (by decide +kernel)) (Nat.le_of_ble_eq_true rfl) (gi_X3 hE hX hl9 hC (b := 22 + (1 + 10 * i)) (by omega) vu_eq) (by omega) (by omega) (fun g hg => ?_)
    have e9 : 22 + (1 + 10 * i) = 23 + 10 * i := by omega
    have hfg : ∀ a, a < 23 + 10 * i → g a = h a := fun a ha => (hg.2 a (by omega)).trans (vu_ne (by omega))
    have hSg : SA (23 + 10 * i + 10) g (23 + 10 * i) (freshK 5 5) := by have := hg.1; rw [e9] at this; exact this
    have g1 : g 21 = _ := (hfg 21 (by omega)).trans h1
    have g2 : g 22 = _ := (hfg 22 (by omega)).trans h2
    refine gs_aast hC (i := i) (fs := sailF (freshK 5 5) (22 + (1 + 10 * i))) dI1_33 (by omega) (by omega) (by omega) g2 (by have := hg.1.2.1; exact this) rfl (by omega) (by decide) ?_
    refine gs_iinc (v := nI (i + 1)) dI1_34 rfl (nI_1 i) (by decide) ?_
    refine gs_goto (tgt := 15) dI1_37 (by decide) ?_
    have := ih (i + 1) (va_up f i (some (22 + (1 + 10 * i)))) (va_up g 22 (.inl (3, 8, .inr (.inr (.inr (.inr (va_up f i (some (22 + (1 + 10 * i)))))))))) (by omega) ((vu_ne (by decide)).trans g1) vu_eq (fun j hj => ?_) (fun j hj => ?_) (fun a ha => (vu_ne (by omega)).trans ((hfg a (by omega)).trans (hfr a ha)))
    · rw [show 1 + 10 * (i + 1) = 1 + 10 * i + 1 + 9 by omega, show 8 + 755 * (i + 1) = 8 + 755 * i + 15 + 740 by omega] at this
      exact this
    · unfold va_up
      by_cases q9 : j = i
      · subst q9; rw [if_pos rfl, e9]
      · rw [if_neg q9]; exact hf j (by omega)
    · by_cases q9 : j = i
      · subst q9
        exact (hSg.wk (by omega)).eq (fun a a1 a2 => vu_ne (by omega))
      · exact ((hs j (by omega)).wk (by omega)).eq (fun a a1 a2 => (vu_ne (by omega)).trans (hfg a (by omega)))
theorem gi_X1 (hE : envOK Γ St) {adV : Nat → Nat} (hX : envX Γ St adV) (hl9 : l.stackTraces = false) (hC : envC Γ St z) {h : hp} (ho : h 21 = .inr (1, [.null, .int 0, .int 0])) : MetG Γ l St z M_X1_init 22 81 6048 21 h (fun h1 => h1 21 = .inr (1, [.ref 22, .int 0, .int 0]) ∧ HR h1 ∧ (∀ j, j < 8 → SA 103 h1 (23 + 10 * j) (freshK 5 5)) ∧ ∀ a, a < 21 → h1 a = h a) := by
  refine gs_met (by decide) rfl (by decide) ?_
  refine gs_aload dI1_0 rfl ?_
  refine gs_obj0 dI1_1 (gT_mem 154 (by decide +kernel) (by decide +kernel)) (by decide) (by decide) ?_
  refine gs_aload dI1_4 rfl ?_
  refine gs_bipush (v := nI 8) (by decide) dI1_5 ?_
  refine gs_newq hC (N := 8) dI1_7 (gT_mem 155 (by decide +kernel) (by decide +kernel)) rfl (by decide) (by decide) (by decide) (by decide) ?_
  refine gs_putF hC dI1_10 ck1 (by decide) fl_X1_11 (by decide) (by decide) ((vu_ne (by decide)).trans ho) rfl rfl rfl (by decide) ?_
  refine gs_iconst (v := nI 0) (by decide) dI1_13 ?_
  refine gs_istore dI1_14 (by decide) ?_
  exact hl_loop hE hX hl9 hC (h0 := h) 8 0 (fun _ => none) _ (by decide) vu_eq ((vu_ne (by decide)).trans vu_eq) (fun j hj => by omega) (fun j hj => by omega) (fun a ha => (vu_ne (by omega)).trans (vu_ne (by omega)))
end CN
