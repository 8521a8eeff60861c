/-! the sail of the class: anew, and a copy -/
section AF
variable {NC : Nat} {b0 : Option String} {M : mt} {pc : Nat} {L S : List Value} {h : hp} {Q : qt}
theorem row.mv {t n : Nat} {e e' : va_E} {f : Nat → Int} (h : row t e n f) (q : e' = e) : row t e' n f := q ▸ h
theorem ax_fill {ix a n : Nat} {f : Nat → Int} {v : Int} (hd : decode M.2.1 pc = .ok (.invokestatic ix, 3)) (hi : (M.1.cls, ix, 5) ∈ libL) (hr : lbR M 5) (hS : catS S) (hn : a < NC) (ha : row 0 (h a) n f) (hn2 : n < 100000) (kk : ∀ e, row 0 e n (fun _ => v) → Ex NC b0 M (pc + 3) L S (va_up h a e) Q) : Ex NC b0 M pc L (.int (I v) :: .ref a :: S) h Q := by
  obtain ⟨g, h1, h2⟩ := ha
  exact ex_l_fill hd hi hr hS hn h1 hn2 (kk _ ⟨_, rfl, fun i hi => rfl⟩)
theorem ax_copy {ix a c n : Nat} {f g : Nat → Int} (hd : decode M.2.1 pc = .ok (.invokestatic ix, 3)) (hi : (M.1.cls, ix, 6) ∈ libL) (hr : lbR M 6) (hS : catS S) (hn : a < NC) (hn' : c < NC) (ha : row 0 (h a) n f) (hc : row 0 (h c) n g) (hn2 : n < 100000) (kk : ∀ e, row 0 e n f → Ex NC b0 M (pc + 3) L S (va_up h c e) Q) : Ex NC b0 M pc L (.int (I (n : Int)) :: .int (I 0) :: .ref c :: .int (I 0) :: .ref a :: S) h Q := by
  obtain ⟨g1, h1, h2⟩ := ha
  obtain ⟨g2, h3, h4⟩ := hc
  rw [← I_0]
  have e1 : (I (n : Int)).toNatClampNeg = n := I_clamp (by omega)
  refine ex_l_copy hd hi hr hS hn hn' h1 h3 (by rw [I_0, I_lt (by omega) (by omega)]; omega) (by omega) (by omega) (kk _ ⟨_, rfl, fun i hi => ?_⟩)
  rw [e1]
  unfold va_cpy
  rw [if_pos (by omega), ← h2 i hi]
  congr 1; omega
end AF
def freshK (w t : Nat) : Nat → Nat := fun j => if j = 0 then w else if j = 1 then t else if j = 3 then 1 else if j = 4 then 5 else if 6 ≤ j ∧ j < 18 then w / 2 else if 19 ≤ j ∧ j < 25 then 2 else 0
theorem fresh_cw {w t : Nat} : ∀ i, i < 7 → upZ (fun _ => (2 : Int)) 0 0 i = (freshK w t (18 + i) : Int) := by
  intro i hi
  unfold freshK upZ
  by_cases q : i = 0
  · subst q; rfl
  · rw [if_neg q]
    (repeat (first | rw [if_neg (by omega)] | rw [if_pos (by omega)])) <;> (try rfl)
section SN3
variable {NC b : Nat} {h : hp} {K : Nat → Nat} {Q : qt}
theorem sp_beginAnew (hS : SA NC h b K) {w t : Nat} (hw : w < 1000) : Cl NC M_X3_beginAnew [.ref b, .int (I (w : Int)), .int (I (t : Int))] h (fun _ h1 => SW NC h h1 b (freshK w t)) := by
  have hn := hS.n0
  have hnk := hS.n
  obtain ⟨H0, hH0⟩ : ∃ z, z = h := ⟨_, rfl⟩
  have fr0 : Fr H0 H0 b := Fr.rf
  have o0 := (congrFun hH0 b).trans hS.o
  have r1_0 := hS.re.mv (congrFun hH0 (b + 1))
  have r2_0 := hS.cw.mv (congrFun hH0 (b + 2))
  have r3_0 := hS.mx.mv (congrFun hH0 (b + 3))
  have r4_0 := hS.pl.mv (congrFun hH0 (b + 4))
  have r5_0 := hS.pd.mv (congrFun hH0 (b + 5))
  have r6_0 := hS.pc.mv (congrFun hH0 (b + 6))
  have r7_0 := hS.co.mv (congrFun hH0 (b + 7))
  have r8_0 := hS.we.mv (congrFun hH0 (b + 8))
  have r9_0 := hS.sp.mv (congrFun hH0 (b + 9))
  unfold sailF at o0
  rw [← hH0]
  refine ax_aload_n dX3_beginAnew_0 rfl ?_
  refine ax_iload_n dX3_beginAnew_1 rfl ?_
  refine ax_putf dX3_beginAnew_2 ck3 fl_X3_43 (by decide) hn o0 rfl (Or.inl rfl) (Nat.le_of_ble_eq_true rfl) rfl ?_
  generalize hE1 : (Sum.inr (3, _) : va_E) = E1
  obtain ⟨H1, hH1⟩ : ∃ z, z = va_up H0 b E1 := ⟨_, rfl⟩
  rw [← hH1]
  have o1 := (congrFun hH1 b).trans (vu_eq.trans hE1.symm)
  have r1_1 := r1_0.mv ((congrFun hH1 (b + 1)).trans (vu_ne (by omega)))
  have r2_1 := r2_0.mv ((congrFun hH1 (b + 2)).trans (vu_ne (by omega)))
  have r3_1 := r3_0.mv ((congrFun hH1 (b + 3)).trans (vu_ne (by omega)))
  have r4_1 := r4_0.mv ((congrFun hH1 (b + 4)).trans (vu_ne (by omega)))
  have r5_1 := r5_0.mv ((congrFun hH1 (b + 5)).trans (vu_ne (by omega)))
  have r6_1 := r6_0.mv ((congrFun hH1 (b + 6)).trans (vu_ne (by omega)))
  have r7_1 := r7_0.mv ((congrFun hH1 (b + 7)).trans (vu_ne (by omega)))
  have r8_1 := r8_0.mv ((congrFun hH1 (b + 8)).trans (vu_ne (by omega)))
  have r9_1 := r9_0.mv ((congrFun hH1 (b + 9)).trans (vu_ne (by omega)))
  have fr1 : Fr H0 H1 b := fun a ha => (congrFun hH1 a).trans ((vu_ne (by omega)).trans (fr0 a ha))
  refine ax_aload_n dX3_beginAnew_5 rfl ?_
  refine ax_iload_n dX3_beginAnew_6 rfl ?_
  refine ax_putf dX3_beginAnew_7 ck3 fl_X3_47 (by decide) hn o1 rfl (Or.inl rfl) (Nat.le_of_ble_eq_true rfl) rfl ?_
  generalize hE2 : (Sum.inr (3, _) : va_E) = E2
  obtain ⟨H2, hH2⟩ : ∃ z, z = va_up H1 b E2 := ⟨_, rfl⟩
  rw [← hH2]
  have o2 := (congrFun hH2 b).trans (vu_eq.trans hE2.symm)
  have r1_2 := r1_1.mv ((congrFun hH2 (b + 1)).trans (vu_ne (by omega)))
  have r2_2 := r2_1.mv ((congrFun hH2 (b + 2)).trans (vu_ne (by omega)))
  have r3_2 := r3_1.mv ((congrFun hH2 (b + 3)).trans (vu_ne (by omega)))
  have r4_2 := r4_1.mv ((congrFun hH2 (b + 4)).trans (vu_ne (by omega)))
  have r5_2 := r5_1.mv ((congrFun hH2 (b + 5)).trans (vu_ne (by omega)))
  have r6_2 := r6_1.mv ((congrFun hH2 (b + 6)).trans (vu_ne (by omega)))
  have r7_2 := r7_1.mv ((congrFun hH2 (b + 7)).trans (vu_ne (by omega)))
  have r8_2 := r8_1.mv ((congrFun hH2 (b + 8)).trans (vu_ne (by omega)))
  have r9_2 := r9_1.mv ((congrFun hH2 (b + 9)).trans (vu_ne (by omega)))
  have fr2 : Fr H0 H2 b := fun a ha => (congrFun hH2 a).trans ((vu_ne (by omega)).trans (fr1 a ha))
  refine ax_aload_n dX3_beginAnew_10 rfl ?_
  refine ax_iconst dX3_beginAnew_11 ?_
  refine ax_putf dX3_beginAnew_12 ck3 fl_X3_50 (by decide) hn o2 rfl (Or.inl rfl) (Nat.le_of_ble_eq_true rfl) rfl ?_
  generalize hE3 : (Sum.inr (3, _) : va_E) = E3
  obtain ⟨H3, hH3⟩ : ∃ z, z = va_up H2 b E3 := ⟨_, rfl⟩
  rw [← hH3]
  have o3 := (congrFun hH3 b).trans (vu_eq.trans hE3.symm)
  have r1_3 := r1_2.mv ((congrFun hH3 (b + 1)).trans (vu_ne (by omega)))
  have r2_3 := r2_2.mv ((congrFun hH3 (b + 2)).trans (vu_ne (by omega)))
  have r3_3 := r3_2.mv ((congrFun hH3 (b + 3)).trans (vu_ne (by omega)))
  have r4_3 := r4_2.mv ((congrFun hH3 (b + 4)).trans (vu_ne (by omega)))
  have r5_3 := r5_2.mv ((congrFun hH3 (b + 5)).trans (vu_ne (by omega)))
  have r6_3 := r6_2.mv ((congrFun hH3 (b + 6)).trans (vu_ne (by omega)))
  have r7_3 := r7_2.mv ((congrFun hH3 (b + 7)).trans (vu_ne (by omega)))
  have r8_3 := r8_2.mv ((congrFun hH3 (b + 8)).trans (vu_ne (by omega)))
  have r9_3 := r9_2.mv ((congrFun hH3 (b + 9)).trans (vu_ne (by omega)))
  have fr3 : Fr H0 H3 b := fun a ha => (congrFun hH3 a).trans ((vu_ne (by omega)).trans (fr2 a ha))
  refine ax_aload_n dX3_beginAnew_15 rfl ?_
  refine ax_iconst dX3_beginAnew_16 ?_
  refine ax_putf dX3_beginAnew_17 ck3 fl_X3_53 (by decide) hn o3 rfl (Or.inl rfl) (Nat.le_of_ble_eq_true rfl) rfl ?_
  generalize hE4 : (Sum.inr (3, _) : va_E) = E4
  obtain ⟨H4, hH4⟩ : ∃ z, z = va_up H3 b E4 := ⟨_, rfl⟩
  rw [← hH4]
  have o4 := (congrFun hH4 b).trans (vu_eq.trans hE4.symm)
  have r1_4 := r1_3.mv ((congrFun hH4 (b + 1)).trans (vu_ne (by omega)))
  have r2_4 := r2_3.mv ((congrFun hH4 (b + 2)).trans (vu_ne (by omega)))
  have r3_4 := r3_3.mv ((congrFun hH4 (b + 3)).trans (vu_ne (by omega)))
  have r4_4 := r4_3.mv ((congrFun hH4 (b + 4)).trans (vu_ne (by omega)))
  have r5_4 := r5_3.mv ((congrFun hH4 (b + 5)).trans (vu_ne (by omega)))
  have r6_4 := r6_3.mv ((congrFun hH4 (b + 6)).trans (vu_ne (by omega)))
  have r7_4 := r7_3.mv ((congrFun hH4 (b + 7)).trans (vu_ne (by omega)))
  have r8_4 := r8_3.mv ((congrFun hH4 (b + 8)).trans (vu_ne (by omega)))
  have r9_4 := r9_3.mv ((congrFun hH4 (b + 9)).trans (vu_ne (by omega)))
  have fr4 : Fr H0 H4 b := fun a ha => (congrFun hH4 a).trans ((vu_ne (by omega)).trans (fr3 a ha))
  refine ax_aload_n dX3_beginAnew_20 rfl ?_
  refine ax_iconst dX3_beginAnew_21 ?_
  refine ax_putf dX3_beginAnew_22 ck3 fl_X3_56 (by decide) hn o4 rfl (Or.inl rfl) (Nat.le_of_ble_eq_true rfl) rfl ?_
  generalize hE5 : (Sum.inr (3, _) : va_E) = E5
  obtain ⟨H5, hH5⟩ : ∃ z, z = va_up H4 b E5 := ⟨_, rfl⟩
  rw [← hH5]
  have o5 := (congrFun hH5 b).trans (vu_eq.trans hE5.symm)
  have r1_5 := r1_4.mv ((congrFun hH5 (b + 1)).trans (vu_ne (by omega)))
  have r2_5 := r2_4.mv ((congrFun hH5 (b + 2)).trans (vu_ne (by omega)))
  have r3_5 := r3_4.mv ((congrFun hH5 (b + 3)).trans (vu_ne (by omega)))
  have r4_5 := r4_4.mv ((congrFun hH5 (b + 4)).trans (vu_ne (by omega)))
  have r5_5 := r5_4.mv ((congrFun hH5 (b + 5)).trans (vu_ne (by omega)))
  have r6_5 := r6_4.mv ((congrFun hH5 (b + 6)).trans (vu_ne (by omega)))
  have r7_5 := r7_4.mv ((congrFun hH5 (b + 7)).trans (vu_ne (by omega)))
  have r8_5 := r8_4.mv ((congrFun hH5 (b + 8)).trans (vu_ne (by omega)))
  have r9_5 := r9_4.mv ((congrFun hH5 (b + 9)).trans (vu_ne (by omega)))
  have fr5 : Fr H0 H5 b := fun a ha => (congrFun hH5 a).trans ((vu_ne (by omega)).trans (fr4 a ha))
  refine ax_aload_n dX3_beginAnew_25 rfl ?_
  refine ax_iconst dX3_beginAnew_26 ?_
  refine ax_putf dX3_beginAnew_27 ck3 fl_X3_59 (by decide) hn o5 rfl (Or.inl rfl) (Nat.le_of_ble_eq_true rfl) rfl ?_
  generalize hE6 : (Sum.inr (3, _) : va_E) = E6
  obtain ⟨H6, hH6⟩ : ∃ z, z = va_up H5 b E6 := ⟨_, rfl⟩
  rw [← hH6]
  have o6 := (congrFun hH6 b).trans (vu_eq.trans hE6.symm)
  have r1_6 := r1_5.mv ((congrFun hH6 (b + 1)).trans (vu_ne (by omega)))
  have r2_6 := r2_5.mv ((congrFun hH6 (b + 2)).trans (vu_ne (by omega)))
  have r3_6 := r3_5.mv ((congrFun hH6 (b + 3)).trans (vu_ne (by omega)))
  have r4_6 := r4_5.mv ((congrFun hH6 (b + 4)).trans (vu_ne (by omega)))
  have r5_6 := r5_5.mv ((congrFun hH6 (b + 5)).trans (vu_ne (by omega)))
  have r6_6 := r6_5.mv ((congrFun hH6 (b + 6)).trans (vu_ne (by omega)))
  have r7_6 := r7_5.mv ((congrFun hH6 (b + 7)).trans (vu_ne (by omega)))
  have r8_6 := r8_5.mv ((congrFun hH6 (b + 8)).trans (vu_ne (by omega)))
  have r9_6 := r9_5.mv ((congrFun hH6 (b + 9)).trans (vu_ne (by omega)))
  have fr6 : Fr H0 H6 b := fun a ha => (congrFun hH6 a).trans ((vu_ne (by omega)).trans (fr5 a ha))
  refine ax_aload_n dX3_beginAnew_30 rfl ?_
  refine ax_getf dX3_beginAnew_31 ck3 fl_X3_9 (by decide) hn o6 rfl ?_
  refine ax_iload_n dX3_beginAnew_34 rfl ?_
  refine ax_iconst dX3_beginAnew_35 ?_
  refine ax_idiv dX3_beginAnew_36 (by omega) (by omega) ?_
  refine ax_fill (by exact dX3_beginAnew_37) (by decide) (show 2 ≤ _ ∧ 50 ≤ _ from ⟨by decide, by decide⟩) (Nat.le_of_ble_eq_true rfl) (hnk 1 (by omega)) r1_6 (by decide) (fun e37 he37 => ?_)
  obtain ⟨H7, hH7⟩ : ∃ z, z = va_up H6 (b + 1) e37 := ⟨_, rfl⟩
  rw [← hH7]
  have o7 := (congrFun hH7 b).trans ((vu_ne (by omega)).trans o6)
  have r1_7 := he37.mv ((congrFun hH7 (b + 1)).trans vu_eq)
  have r2_7 := r2_6.mv ((congrFun hH7 (b + 2)).trans (vu_ne (by omega)))
  have r3_7 := r3_6.mv ((congrFun hH7 (b + 3)).trans (vu_ne (by omega)))
  have r4_7 := r4_6.mv ((congrFun hH7 (b + 4)).trans (vu_ne (by omega)))
  have r5_7 := r5_6.mv ((congrFun hH7 (b + 5)).trans (vu_ne (by omega)))
  have r6_7 := r6_6.mv ((congrFun hH7 (b + 6)).trans (vu_ne (by omega)))
  have r7_7 := r7_6.mv ((congrFun hH7 (b + 7)).trans (vu_ne (by omega)))
  have r8_7 := r8_6.mv ((congrFun hH7 (b + 8)).trans (vu_ne (by omega)))
  have r9_7 := r9_6.mv ((congrFun hH7 (b + 9)).trans (vu_ne (by omega)))
  have fr7 : Fr H0 H7 b := fun a ha => (congrFun hH7 a).trans ((vu_ne (by omega)).trans (fr6 a ha))
  refine ax_aload_n dX3_beginAnew_40 rfl ?_
  refine ax_getf dX3_beginAnew_41 ck3 fl_X3_15 (by decide) hn o7 rfl ?_
  refine ax_iconst dX3_beginAnew_44 ?_
  refine ax_fill (by exact dX3_beginAnew_45) (by decide) (show 2 ≤ _ ∧ 50 ≤ _ from ⟨by decide, by decide⟩) (Nat.le_of_ble_eq_true rfl) (hnk 2 (by omega)) r2_7 (by decide) (fun e45 he45 => ?_)
  obtain ⟨H8, hH8⟩ : ∃ z, z = va_up H7 (b + 2) e45 := ⟨_, rfl⟩
  rw [← hH8]
  have o8 := (congrFun hH8 b).trans ((vu_ne (by omega)).trans o7)
  have r1_8 := r1_7.mv ((congrFun hH8 (b + 1)).trans (vu_ne (by omega)))
  have r2_8 := he45.mv ((congrFun hH8 (b + 2)).trans vu_eq)
  have r3_8 := r3_7.mv ((congrFun hH8 (b + 3)).trans (vu_ne (by omega)))
  have r4_8 := r4_7.mv ((congrFun hH8 (b + 4)).trans (vu_ne (by omega)))
  have r5_8 := r5_7.mv ((congrFun hH8 (b + 5)).trans (vu_ne (by omega)))
  have r6_8 := r6_7.mv ((congrFun hH8 (b + 6)).trans (vu_ne (by omega)))
  have r7_8 := r7_7.mv ((congrFun hH8 (b + 7)).trans (vu_ne (by omega)))
  have r8_8 := r8_7.mv ((congrFun hH8 (b + 8)).trans (vu_ne (by omega)))
  have r9_8 := r9_7.mv ((congrFun hH8 (b + 9)).trans (vu_ne (by omega)))
  have fr8 : Fr H0 H8 b := fun a ha => (congrFun hH8 a).trans ((vu_ne (by omega)).trans (fr7 a ha))
  refine ax_aload_n dX3_beginAnew_48 rfl ?_
  refine ax_getf dX3_beginAnew_49 ck3 fl_X3_15 (by decide) hn o8 rfl ?_
  refine ax_iconst dX3_beginAnew_52 ?_
  refine ax_iconst dX3_beginAnew_53 ?_
  refine ax_iasr (j := 0) dX3_beginAnew_54 (hnk 2 (by omega)) r2_8 (by omega) (by omega) (by decide) (fun e54 he54 => ?_)
  obtain ⟨H9, hH9⟩ : ∃ z, z = va_up H8 (b + 2) e54 := ⟨_, rfl⟩
  rw [← hH9]
  have o9 := (congrFun hH9 b).trans ((vu_ne (by omega)).trans o8)
  have r1_9 := r1_8.mv ((congrFun hH9 (b + 1)).trans (vu_ne (by omega)))
  have r2_9 := he54.mv ((congrFun hH9 (b + 2)).trans vu_eq)
  have r3_9 := r3_8.mv ((congrFun hH9 (b + 3)).trans (vu_ne (by omega)))
  have r4_9 := r4_8.mv ((congrFun hH9 (b + 4)).trans (vu_ne (by omega)))
  have r5_9 := r5_8.mv ((congrFun hH9 (b + 5)).trans (vu_ne (by omega)))
  have r6_9 := r6_8.mv ((congrFun hH9 (b + 6)).trans (vu_ne (by omega)))
  have r7_9 := r7_8.mv ((congrFun hH9 (b + 7)).trans (vu_ne (by omega)))
  have r8_9 := r8_8.mv ((congrFun hH9 (b + 8)).trans (vu_ne (by omega)))
  have r9_9 := r9_8.mv ((congrFun hH9 (b + 9)).trans (vu_ne (by omega)))
  have fr9 : Fr H0 H9 b := fun a ha => (congrFun hH9 a).trans ((vu_ne (by omega)).trans (fr8 a ha))
  refine ax_aload_n dX3_beginAnew_55 rfl ?_
  refine ax_getf dX3_beginAnew_56 ck3 fl_X3_18 (by decide) hn o9 rfl ?_
  refine ax_iconst dX3_beginAnew_59 ?_
  refine ax_fill (by exact dX3_beginAnew_60) (by decide) (show 2 ≤ _ ∧ 50 ≤ _ from ⟨by decide, by decide⟩) (Nat.le_of_ble_eq_true rfl) (hnk 3 (by omega)) r3_9 (by decide) (fun e60 he60 => ?_)
  obtain ⟨H10, hH10⟩ : ∃ z, z = va_up H9 (b + 3) e60 := ⟨_, rfl⟩
  rw [← hH10]
  have o10 := (congrFun hH10 b).trans ((vu_ne (by omega)).trans o9)
  have r1_10 := r1_9.mv ((congrFun hH10 (b + 1)).trans (vu_ne (by omega)))
  have r2_10 := r2_9.mv ((congrFun hH10 (b + 2)).trans (vu_ne (by omega)))
  have r3_10 := he60.mv ((congrFun hH10 (b + 3)).trans vu_eq)
  have r4_10 := r4_9.mv ((congrFun hH10 (b + 4)).trans (vu_ne (by omega)))
  have r5_10 := r5_9.mv ((congrFun hH10 (b + 5)).trans (vu_ne (by omega)))
  have r6_10 := r6_9.mv ((congrFun hH10 (b + 6)).trans (vu_ne (by omega)))
  have r7_10 := r7_9.mv ((congrFun hH10 (b + 7)).trans (vu_ne (by omega)))
  have r8_10 := r8_9.mv ((congrFun hH10 (b + 8)).trans (vu_ne (by omega)))
  have r9_10 := r9_9.mv ((congrFun hH10 (b + 9)).trans (vu_ne (by omega)))
  have fr10 : Fr H0 H10 b := fun a ha => (congrFun hH10 a).trans ((vu_ne (by omega)).trans (fr9 a ha))
  refine ax_aload_n dX3_beginAnew_63 rfl ?_
  refine ax_getf dX3_beginAnew_64 ck3 fl_X3_21 (by decide) hn o10 rfl ?_
  refine ax_iconst dX3_beginAnew_67 ?_
  refine ax_fill (by exact dX3_beginAnew_68) (by decide) (show 2 ≤ _ ∧ 50 ≤ _ from ⟨by decide, by decide⟩) (Nat.le_of_ble_eq_true rfl) (hnk 4 (by omega)) r4_10 (by decide) (fun e68 he68 => ?_)
  obtain ⟨H11, hH11⟩ : ∃ z, z = va_up H10 (b + 4) e68 := ⟨_, rfl⟩
  rw [← hH11]
  have o11 := (congrFun hH11 b).trans ((vu_ne (by omega)).trans o10)
  have r1_11 := r1_10.mv ((congrFun hH11 (b + 1)).trans (vu_ne (by omega)))
  have r2_11 := r2_10.mv ((congrFun hH11 (b + 2)).trans (vu_ne (by omega)))
  have r3_11 := r3_10.mv ((congrFun hH11 (b + 3)).trans (vu_ne (by omega)))
  have r4_11 := he68.mv ((congrFun hH11 (b + 4)).trans vu_eq)
  have r5_11 := r5_10.mv ((congrFun hH11 (b + 5)).trans (vu_ne (by omega)))
  have r6_11 := r6_10.mv ((congrFun hH11 (b + 6)).trans (vu_ne (by omega)))
  have r7_11 := r7_10.mv ((congrFun hH11 (b + 7)).trans (vu_ne (by omega)))
  have r8_11 := r8_10.mv ((congrFun hH11 (b + 8)).trans (vu_ne (by omega)))
  have r9_11 := r9_10.mv ((congrFun hH11 (b + 9)).trans (vu_ne (by omega)))
  have fr11 : Fr H0 H11 b := fun a ha => (congrFun hH11 a).trans ((vu_ne (by omega)).trans (fr10 a ha))
  refine ax_aload_n dX3_beginAnew_71 rfl ?_
  refine ax_getf dX3_beginAnew_72 ck3 fl_X3_24 (by decide) hn o11 rfl ?_
  refine ax_iconst dX3_beginAnew_75 ?_
  refine ax_fill (by exact dX3_beginAnew_76) (by decide) (show 2 ≤ _ ∧ 50 ≤ _ from ⟨by decide, by decide⟩) (Nat.le_of_ble_eq_true rfl) (hnk 5 (by omega)) r5_11 (by decide) (fun e76 he76 => ?_)
  obtain ⟨H12, hH12⟩ : ∃ z, z = va_up H11 (b + 5) e76 := ⟨_, rfl⟩
  rw [← hH12]
  have o12 := (congrFun hH12 b).trans ((vu_ne (by omega)).trans o11)
  have r1_12 := r1_11.mv ((congrFun hH12 (b + 1)).trans (vu_ne (by omega)))
  have r2_12 := r2_11.mv ((congrFun hH12 (b + 2)).trans (vu_ne (by omega)))
  have r3_12 := r3_11.mv ((congrFun hH12 (b + 3)).trans (vu_ne (by omega)))
  have r4_12 := r4_11.mv ((congrFun hH12 (b + 4)).trans (vu_ne (by omega)))
  have r5_12 := he76.mv ((congrFun hH12 (b + 5)).trans vu_eq)
  have r6_12 := r6_11.mv ((congrFun hH12 (b + 6)).trans (vu_ne (by omega)))
  have r7_12 := r7_11.mv ((congrFun hH12 (b + 7)).trans (vu_ne (by omega)))
  have r8_12 := r8_11.mv ((congrFun hH12 (b + 8)).trans (vu_ne (by omega)))
  have r9_12 := r9_11.mv ((congrFun hH12 (b + 9)).trans (vu_ne (by omega)))
  have fr12 : Fr H0 H12 b := fun a ha => (congrFun hH12 a).trans ((vu_ne (by omega)).trans (fr11 a ha))
  refine ax_aload_n dX3_beginAnew_79 rfl ?_
  refine ax_getf dX3_beginAnew_80 ck3 fl_X3_27 (by decide) hn o12 rfl ?_
  refine ax_iconst dX3_beginAnew_83 ?_
  refine ax_fill (by exact dX3_beginAnew_84) (by decide) (show 2 ≤ _ ∧ 50 ≤ _ from ⟨by decide, by decide⟩) (Nat.le_of_ble_eq_true rfl) (hnk 6 (by omega)) r6_12 (by decide) (fun e84 he84 => ?_)
  obtain ⟨H13, hH13⟩ : ∃ z, z = va_up H12 (b + 6) e84 := ⟨_, rfl⟩
  rw [← hH13]
  have o13 := (congrFun hH13 b).trans ((vu_ne (by omega)).trans o12)
  have r1_13 := r1_12.mv ((congrFun hH13 (b + 1)).trans (vu_ne (by omega)))
  have r2_13 := r2_12.mv ((congrFun hH13 (b + 2)).trans (vu_ne (by omega)))
  have r3_13 := r3_12.mv ((congrFun hH13 (b + 3)).trans (vu_ne (by omega)))
  have r4_13 := r4_12.mv ((congrFun hH13 (b + 4)).trans (vu_ne (by omega)))
  have r5_13 := r5_12.mv ((congrFun hH13 (b + 5)).trans (vu_ne (by omega)))
  have r6_13 := he84.mv ((congrFun hH13 (b + 6)).trans vu_eq)
  have r7_13 := r7_12.mv ((congrFun hH13 (b + 7)).trans (vu_ne (by omega)))
  have r8_13 := r8_12.mv ((congrFun hH13 (b + 8)).trans (vu_ne (by omega)))
  have r9_13 := r9_12.mv ((congrFun hH13 (b + 9)).trans (vu_ne (by omega)))
  have fr13 : Fr H0 H13 b := fun a ha => (congrFun hH13 a).trans ((vu_ne (by omega)).trans (fr12 a ha))
  refine ax_aload_n dX3_beginAnew_87 rfl ?_
  refine ax_getf dX3_beginAnew_88 ck3 fl_X3_30 (by decide) hn o13 rfl ?_
  refine ax_iconst dX3_beginAnew_91 ?_
  refine ax_fill (by exact dX3_beginAnew_92) (by decide) (show 2 ≤ _ ∧ 50 ≤ _ from ⟨by decide, by decide⟩) (Nat.le_of_ble_eq_true rfl) (hnk 7 (by omega)) r7_13 (by decide) (fun e92 he92 => ?_)
  obtain ⟨H14, hH14⟩ : ∃ z, z = va_up H13 (b + 7) e92 := ⟨_, rfl⟩
  rw [← hH14]
  have o14 := (congrFun hH14 b).trans ((vu_ne (by omega)).trans o13)
  have r1_14 := r1_13.mv ((congrFun hH14 (b + 1)).trans (vu_ne (by omega)))
  have r2_14 := r2_13.mv ((congrFun hH14 (b + 2)).trans (vu_ne (by omega)))
  have r3_14 := r3_13.mv ((congrFun hH14 (b + 3)).trans (vu_ne (by omega)))
  have r4_14 := r4_13.mv ((congrFun hH14 (b + 4)).trans (vu_ne (by omega)))
  have r5_14 := r5_13.mv ((congrFun hH14 (b + 5)).trans (vu_ne (by omega)))
  have r6_14 := r6_13.mv ((congrFun hH14 (b + 6)).trans (vu_ne (by omega)))
  have r7_14 := he92.mv ((congrFun hH14 (b + 7)).trans vu_eq)
  have r8_14 := r8_13.mv ((congrFun hH14 (b + 8)).trans (vu_ne (by omega)))
  have r9_14 := r9_13.mv ((congrFun hH14 (b + 9)).trans (vu_ne (by omega)))
  have fr14 : Fr H0 H14 b := fun a ha => (congrFun hH14 a).trans ((vu_ne (by omega)).trans (fr13 a ha))
  refine ax_aload_n dX3_beginAnew_95 rfl ?_
  refine ax_getf dX3_beginAnew_96 ck3 fl_X3_33 (by decide) hn o14 rfl ?_
  refine ax_iconst dX3_beginAnew_99 ?_
  refine ax_fill (by exact dX3_beginAnew_100) (by decide) (show 2 ≤ _ ∧ 50 ≤ _ from ⟨by decide, by decide⟩) (Nat.le_of_ble_eq_true rfl) (hnk 8 (by omega)) r8_14 (by decide) (fun e100 he100 => ?_)
  obtain ⟨H15, hH15⟩ : ∃ z, z = va_up H14 (b + 8) e100 := ⟨_, rfl⟩
  rw [← hH15]
  have o15 := (congrFun hH15 b).trans ((vu_ne (by omega)).trans o14)
  have r1_15 := r1_14.mv ((congrFun hH15 (b + 1)).trans (vu_ne (by omega)))
  have r2_15 := r2_14.mv ((congrFun hH15 (b + 2)).trans (vu_ne (by omega)))
  have r3_15 := r3_14.mv ((congrFun hH15 (b + 3)).trans (vu_ne (by omega)))
  have r4_15 := r4_14.mv ((congrFun hH15 (b + 4)).trans (vu_ne (by omega)))
  have r5_15 := r5_14.mv ((congrFun hH15 (b + 5)).trans (vu_ne (by omega)))
  have r6_15 := r6_14.mv ((congrFun hH15 (b + 6)).trans (vu_ne (by omega)))
  have r7_15 := r7_14.mv ((congrFun hH15 (b + 7)).trans (vu_ne (by omega)))
  have r8_15 := he100.mv ((congrFun hH15 (b + 8)).trans vu_eq)
  have r9_15 := r9_14.mv ((congrFun hH15 (b + 9)).trans (vu_ne (by omega)))
  have fr15 : Fr H0 H15 b := fun a ha => (congrFun hH15 a).trans ((vu_ne (by omega)).trans (fr14 a ha))
  refine ax_aload_n dX3_beginAnew_103 rfl ?_
  refine ax_getf dX3_beginAnew_104 ck3 fl_X3_36 (by decide) hn o15 rfl ?_
  refine ax_iconst dX3_beginAnew_107 ?_
  refine ax_fill (by exact dX3_beginAnew_108) (by decide) (show 2 ≤ _ ∧ 50 ≤ _ from ⟨by decide, by decide⟩) (Nat.le_of_ble_eq_true rfl) (hnk 9 (by omega)) r9_15 (by decide) (fun e108 he108 => ?_)
  obtain ⟨H16, hH16⟩ : ∃ z, z = va_up H15 (b + 9) e108 := ⟨_, rfl⟩
  rw [← hH16]
  have o16 := (congrFun hH16 b).trans ((vu_ne (by omega)).trans o15)
  have r1_16 := r1_15.mv ((congrFun hH16 (b + 1)).trans (vu_ne (by omega)))
  have r2_16 := r2_15.mv ((congrFun hH16 (b + 2)).trans (vu_ne (by omega)))
  have r3_16 := r3_15.mv ((congrFun hH16 (b + 3)).trans (vu_ne (by omega)))
  have r4_16 := r4_15.mv ((congrFun hH16 (b + 4)).trans (vu_ne (by omega)))
  have r5_16 := r5_15.mv ((congrFun hH16 (b + 5)).trans (vu_ne (by omega)))
  have r6_16 := r6_15.mv ((congrFun hH16 (b + 6)).trans (vu_ne (by omega)))
  have r7_16 := r7_15.mv ((congrFun hH16 (b + 7)).trans (vu_ne (by omega)))
  have r8_16 := r8_15.mv ((congrFun hH16 (b + 8)).trans (vu_ne (by omega)))
  have r9_16 := he108.mv ((congrFun hH16 (b + 9)).trans vu_eq)
  have fr16 : Fr H0 H16 b := fun a ha => (congrFun hH16 a).trans ((vu_ne (by omega)).trans (fr15 a ha))
  exact ax_vret dX3_beginAnew_111 rfl ⟨⟨hS.1, o16, r1_16.cong (fun i hi => by unfold freshK; (repeat (first | rw [if_neg (by omega)] | rw [if_pos (by omega)])) <;> (try omega)), r2_16.cong (fun i hi => by exact fresh_cw i hi), r3_16.cong (fun i hi => by unfold freshK; (repeat (first | rw [if_neg (by omega)] | rw [if_pos (by omega)])) <;> (try omega)), r4_16.cong (fun i hi => by unfold freshK; (repeat (first | rw [if_neg (by omega)] | rw [if_pos (by omega)])) <;> (try omega)), r5_16.cong (fun i hi => by unfold freshK; (repeat (first | rw [if_neg (by omega)] | rw [if_pos (by omega)])) <;> (try omega)), r6_16.cong (fun i hi => by unfold freshK; (repeat (first | rw [if_neg (by omega)] | rw [if_pos (by omega)])) <;> (try omega)), r7_16.cong (fun i hi => by unfold freshK; (repeat (first | rw [if_neg (by omega)] | rw [if_pos (by omega)])) <;> (try omega)), r8_16.cong (fun i hi => by unfold freshK; (repeat (first | rw [if_neg (by omega)] | rw [if_pos (by omega)])) <;> (try omega)), r9_16.cong (fun i hi => by unfold freshK; (repeat (first | rw [if_neg (by omega)] | rw [if_pos (by omega)])) <;> (try omega))⟩, fr16⟩
theorem sp_copyFrom (hS : SA NC h b K) {b2 : Nat} {K2 : Nat → Nat} (hS2 : SA NC h b2 K2) (hb : b2 + 10 ≤ b ∨ b + 10 ≤ b2) : Cl NC M_X3_copyFrom [.ref b, .ref b2] h (fun _ h1 => SW NC h h1 b K2) := by
  have hn := hS.n0
  have hnk := hS.n
  obtain ⟨H0, hH0⟩ : ∃ z, z = h := ⟨_, rfl⟩
  have fr0 : Fr H0 H0 b := Fr.rf
  have o0 := (congrFun hH0 b).trans hS.o
  have r1_0 := hS.re.mv (congrFun hH0 (b + 1))
  have r2_0 := hS.cw.mv (congrFun hH0 (b + 2))
  have r3_0 := hS.mx.mv (congrFun hH0 (b + 3))
  have r4_0 := hS.pl.mv (congrFun hH0 (b + 4))
  have r5_0 := hS.pd.mv (congrFun hH0 (b + 5))
  have r6_0 := hS.pc.mv (congrFun hH0 (b + 6))
  have r7_0 := hS.co.mv (congrFun hH0 (b + 7))
  have r8_0 := hS.we.mv (congrFun hH0 (b + 8))
  have r9_0 := hS.sp.mv (congrFun hH0 (b + 9))
  unfold sailF at o0
  have hn2 := hS2.n0
  have hnk2 := hS2.n
  have so0 := (congrFun hH0 b2).trans hS2.o
  have sr1_0 := hS2.re.mv (congrFun hH0 (b2 + 1))
  have sr2_0 := hS2.cw.mv (congrFun hH0 (b2 + 2))
  have sr3_0 := hS2.mx.mv (congrFun hH0 (b2 + 3))
  have sr4_0 := hS2.pl.mv (congrFun hH0 (b2 + 4))
  have sr5_0 := hS2.pd.mv (congrFun hH0 (b2 + 5))
  have sr6_0 := hS2.pc.mv (congrFun hH0 (b2 + 6))
  have sr7_0 := hS2.co.mv (congrFun hH0 (b2 + 7))
  have sr8_0 := hS2.we.mv (congrFun hH0 (b2 + 8))
  have sr9_0 := hS2.sp.mv (congrFun hH0 (b2 + 9))
  unfold sailF at so0
  rw [← hH0]
  refine ax_aload_n dX3_copyFrom_0 rfl ?_
  refine ax_aload_n dX3_copyFrom_1 rfl ?_
  refine ax_getf dX3_copyFrom_2 ck3 fl_X3_43 (by decide) hn2 so0 rfl ?_
  refine ax_putf dX3_copyFrom_5 ck3 fl_X3_43 (by decide) hn o0 rfl (Or.inl rfl) (Nat.le_of_ble_eq_true rfl) rfl ?_
  generalize hE1 : (Sum.inr (3, _) : va_E) = E1
  obtain ⟨H1, hH1⟩ : ∃ z, z = va_up H0 b E1 := ⟨_, rfl⟩
  rw [← hH1]
  have o1 := (congrFun hH1 b).trans (vu_eq.trans hE1.symm)
  have r1_1 := r1_0.mv ((congrFun hH1 (b + 1)).trans (vu_ne (by omega)))
  have r2_1 := r2_0.mv ((congrFun hH1 (b + 2)).trans (vu_ne (by omega)))
  have r3_1 := r3_0.mv ((congrFun hH1 (b + 3)).trans (vu_ne (by omega)))
  have r4_1 := r4_0.mv ((congrFun hH1 (b + 4)).trans (vu_ne (by omega)))
  have r5_1 := r5_0.mv ((congrFun hH1 (b + 5)).trans (vu_ne (by omega)))
  have r6_1 := r6_0.mv ((congrFun hH1 (b + 6)).trans (vu_ne (by omega)))
  have r7_1 := r7_0.mv ((congrFun hH1 (b + 7)).trans (vu_ne (by omega)))
  have r8_1 := r8_0.mv ((congrFun hH1 (b + 8)).trans (vu_ne (by omega)))
  have r9_1 := r9_0.mv ((congrFun hH1 (b + 9)).trans (vu_ne (by omega)))
  have so1 := (congrFun hH1 b2).trans ((vu_ne (by omega)).trans so0)
  have sr1_1 := sr1_0.mv ((congrFun hH1 (b2 + 1)).trans (vu_ne (by omega)))
  have sr2_1 := sr2_0.mv ((congrFun hH1 (b2 + 2)).trans (vu_ne (by omega)))
  have sr3_1 := sr3_0.mv ((congrFun hH1 (b2 + 3)).trans (vu_ne (by omega)))
  have sr4_1 := sr4_0.mv ((congrFun hH1 (b2 + 4)).trans (vu_ne (by omega)))
  have sr5_1 := sr5_0.mv ((congrFun hH1 (b2 + 5)).trans (vu_ne (by omega)))
  have sr6_1 := sr6_0.mv ((congrFun hH1 (b2 + 6)).trans (vu_ne (by omega)))
  have sr7_1 := sr7_0.mv ((congrFun hH1 (b2 + 7)).trans (vu_ne (by omega)))
  have sr8_1 := sr8_0.mv ((congrFun hH1 (b2 + 8)).trans (vu_ne (by omega)))
  have sr9_1 := sr9_0.mv ((congrFun hH1 (b2 + 9)).trans (vu_ne (by omega)))
  have fr1 : Fr H0 H1 b := fun a ha => (congrFun hH1 a).trans ((vu_ne (by omega)).trans (fr0 a ha))
  refine ax_aload_n dX3_copyFrom_8 rfl ?_
  refine ax_aload_n dX3_copyFrom_9 rfl ?_
  refine ax_getf dX3_copyFrom_10 ck3 fl_X3_47 (by decide) hn2 so1 rfl ?_
  refine ax_putf dX3_copyFrom_13 ck3 fl_X3_47 (by decide) hn o1 rfl (Or.inl rfl) (Nat.le_of_ble_eq_true rfl) rfl ?_
  generalize hE2 : (Sum.inr (3, _) : va_E) = E2
  obtain ⟨H2, hH2⟩ : ∃ z, z = va_up H1 b E2 := ⟨_, rfl⟩
  rw [← hH2]
  have o2 := (congrFun hH2 b).trans (vu_eq.trans hE2.symm)
  have r1_2 := r1_1.mv ((congrFun hH2 (b + 1)).trans (vu_ne (by omega)))
  have r2_2 := r2_1.mv ((congrFun hH2 (b + 2)).trans (vu_ne (by omega)))
  have r3_2 := r3_1.mv ((congrFun hH2 (b + 3)).trans (vu_ne (by omega)))
  have r4_2 := r4_1.mv ((congrFun hH2 (b + 4)).trans (vu_ne (by omega)))
  have r5_2 := r5_1.mv ((congrFun hH2 (b + 5)).trans (vu_ne (by omega)))
  have r6_2 := r6_1.mv ((congrFun hH2 (b + 6)).trans (vu_ne (by omega)))
  have r7_2 := r7_1.mv ((congrFun hH2 (b + 7)).trans (vu_ne (by omega)))
  have r8_2 := r8_1.mv ((congrFun hH2 (b + 8)).trans (vu_ne (by omega)))
  have r9_2 := r9_1.mv ((congrFun hH2 (b + 9)).trans (vu_ne (by omega)))
  have so2 := (congrFun hH2 b2).trans ((vu_ne (by omega)).trans so1)
  have sr1_2 := sr1_1.mv ((congrFun hH2 (b2 + 1)).trans (vu_ne (by omega)))
  have sr2_2 := sr2_1.mv ((congrFun hH2 (b2 + 2)).trans (vu_ne (by omega)))
  have sr3_2 := sr3_1.mv ((congrFun hH2 (b2 + 3)).trans (vu_ne (by omega)))
  have sr4_2 := sr4_1.mv ((congrFun hH2 (b2 + 4)).trans (vu_ne (by omega)))
  have sr5_2 := sr5_1.mv ((congrFun hH2 (b2 + 5)).trans (vu_ne (by omega)))
  have sr6_2 := sr6_1.mv ((congrFun hH2 (b2 + 6)).trans (vu_ne (by omega)))
  have sr7_2 := sr7_1.mv ((congrFun hH2 (b2 + 7)).trans (vu_ne (by omega)))
  have sr8_2 := sr8_1.mv ((congrFun hH2 (b2 + 8)).trans (vu_ne (by omega)))
  have sr9_2 := sr9_1.mv ((congrFun hH2 (b2 + 9)).trans (vu_ne (by omega)))
  have fr2 : Fr H0 H2 b := fun a ha => (congrFun hH2 a).trans ((vu_ne (by omega)).trans (fr1 a ha))
  refine ax_aload_n dX3_copyFrom_16 rfl ?_
  refine ax_aload_n dX3_copyFrom_17 rfl ?_
  refine ax_getf dX3_copyFrom_18 ck3 fl_X3_50 (by decide) hn2 so2 rfl ?_
  refine ax_putf dX3_copyFrom_21 ck3 fl_X3_50 (by decide) hn o2 rfl (Or.inl rfl) (Nat.le_of_ble_eq_true rfl) rfl ?_
  generalize hE3 : (Sum.inr (3, _) : va_E) = E3
  obtain ⟨H3, hH3⟩ : ∃ z, z = va_up H2 b E3 := ⟨_, rfl⟩
  rw [← hH3]
  have o3 := (congrFun hH3 b).trans (vu_eq.trans hE3.symm)
  have r1_3 := r1_2.mv ((congrFun hH3 (b + 1)).trans (vu_ne (by omega)))
  have r2_3 := r2_2.mv ((congrFun hH3 (b + 2)).trans (vu_ne (by omega)))
  have r3_3 := r3_2.mv ((congrFun hH3 (b + 3)).trans (vu_ne (by omega)))
  have r4_3 := r4_2.mv ((congrFun hH3 (b + 4)).trans (vu_ne (by omega)))
  have r5_3 := r5_2.mv ((congrFun hH3 (b + 5)).trans (vu_ne (by omega)))
  have r6_3 := r6_2.mv ((congrFun hH3 (b + 6)).trans (vu_ne (by omega)))
  have r7_3 := r7_2.mv ((congrFun hH3 (b + 7)).trans (vu_ne (by omega)))
  have r8_3 := r8_2.mv ((congrFun hH3 (b + 8)).trans (vu_ne (by omega)))
  have r9_3 := r9_2.mv ((congrFun hH3 (b + 9)).trans (vu_ne (by omega)))
  have so3 := (congrFun hH3 b2).trans ((vu_ne (by omega)).trans so2)
  have sr1_3 := sr1_2.mv ((congrFun hH3 (b2 + 1)).trans (vu_ne (by omega)))
  have sr2_3 := sr2_2.mv ((congrFun hH3 (b2 + 2)).trans (vu_ne (by omega)))
  have sr3_3 := sr3_2.mv ((congrFun hH3 (b2 + 3)).trans (vu_ne (by omega)))
  have sr4_3 := sr4_2.mv ((congrFun hH3 (b2 + 4)).trans (vu_ne (by omega)))
  have sr5_3 := sr5_2.mv ((congrFun hH3 (b2 + 5)).trans (vu_ne (by omega)))
  have sr6_3 := sr6_2.mv ((congrFun hH3 (b2 + 6)).trans (vu_ne (by omega)))
  have sr7_3 := sr7_2.mv ((congrFun hH3 (b2 + 7)).trans (vu_ne (by omega)))
  have sr8_3 := sr8_2.mv ((congrFun hH3 (b2 + 8)).trans (vu_ne (by omega)))
  have sr9_3 := sr9_2.mv ((congrFun hH3 (b2 + 9)).trans (vu_ne (by omega)))
  have fr3 : Fr H0 H3 b := fun a ha => (congrFun hH3 a).trans ((vu_ne (by omega)).trans (fr2 a ha))
  refine ax_aload_n dX3_copyFrom_24 rfl ?_
  refine ax_aload_n dX3_copyFrom_25 rfl ?_
  refine ax_getf dX3_copyFrom_26 ck3 fl_X3_53 (by decide) hn2 so3 rfl ?_
  refine ax_putf dX3_copyFrom_29 ck3 fl_X3_53 (by decide) hn o3 rfl (Or.inl rfl) (Nat.le_of_ble_eq_true rfl) rfl ?_
  generalize hE4 : (Sum.inr (3, _) : va_E) = E4
  obtain ⟨H4, hH4⟩ : ∃ z, z = va_up H3 b E4 := ⟨_, rfl⟩
  rw [← hH4]
  have o4 := (congrFun hH4 b).trans (vu_eq.trans hE4.symm)
  have r1_4 := r1_3.mv ((congrFun hH4 (b + 1)).trans (vu_ne (by omega)))
  have r2_4 := r2_3.mv ((congrFun hH4 (b + 2)).trans (vu_ne (by omega)))
  have r3_4 := r3_3.mv ((congrFun hH4 (b + 3)).trans (vu_ne (by omega)))
  have r4_4 := r4_3.mv ((congrFun hH4 (b + 4)).trans (vu_ne (by omega)))
  have r5_4 := r5_3.mv ((congrFun hH4 (b + 5)).trans (vu_ne (by omega)))
  have r6_4 := r6_3.mv ((congrFun hH4 (b + 6)).trans (vu_ne (by omega)))
  have r7_4 := r7_3.mv ((congrFun hH4 (b + 7)).trans (vu_ne (by omega)))
  have r8_4 := r8_3.mv ((congrFun hH4 (b + 8)).trans (vu_ne (by omega)))
  have r9_4 := r9_3.mv ((congrFun hH4 (b + 9)).trans (vu_ne (by omega)))
  have so4 := (congrFun hH4 b2).trans ((vu_ne (by omega)).trans so3)
  have sr1_4 := sr1_3.mv ((congrFun hH4 (b2 + 1)).trans (vu_ne (by omega)))
  have sr2_4 := sr2_3.mv ((congrFun hH4 (b2 + 2)).trans (vu_ne (by omega)))
  have sr3_4 := sr3_3.mv ((congrFun hH4 (b2 + 3)).trans (vu_ne (by omega)))
  have sr4_4 := sr4_3.mv ((congrFun hH4 (b2 + 4)).trans (vu_ne (by omega)))
  have sr5_4 := sr5_3.mv ((congrFun hH4 (b2 + 5)).trans (vu_ne (by omega)))
  have sr6_4 := sr6_3.mv ((congrFun hH4 (b2 + 6)).trans (vu_ne (by omega)))
  have sr7_4 := sr7_3.mv ((congrFun hH4 (b2 + 7)).trans (vu_ne (by omega)))
  have sr8_4 := sr8_3.mv ((congrFun hH4 (b2 + 8)).trans (vu_ne (by omega)))
  have sr9_4 := sr9_3.mv ((congrFun hH4 (b2 + 9)).trans (vu_ne (by omega)))
  have fr4 : Fr H0 H4 b := fun a ha => (congrFun hH4 a).trans ((vu_ne (by omega)).trans (fr3 a ha))
  refine ax_aload_n dX3_copyFrom_32 rfl ?_
  refine ax_aload_n dX3_copyFrom_33 rfl ?_
  refine ax_getf dX3_copyFrom_34 ck3 fl_X3_56 (by decide) hn2 so4 rfl ?_
  refine ax_putf dX3_copyFrom_37 ck3 fl_X3_56 (by decide) hn o4 rfl (Or.inl rfl) (Nat.le_of_ble_eq_true rfl) rfl ?_
  generalize hE5 : (Sum.inr (3, _) : va_E) = E5
  obtain ⟨H5, hH5⟩ : ∃ z, z = va_up H4 b E5 := ⟨_, rfl⟩
  rw [← hH5]
  have o5 := (congrFun hH5 b).trans (vu_eq.trans hE5.symm)
  have r1_5 := r1_4.mv ((congrFun hH5 (b + 1)).trans (vu_ne (by omega)))
  have r2_5 := r2_4.mv ((congrFun hH5 (b + 2)).trans (vu_ne (by omega)))
  have r3_5 := r3_4.mv ((congrFun hH5 (b + 3)).trans (vu_ne (by omega)))
  have r4_5 := r4_4.mv ((congrFun hH5 (b + 4)).trans (vu_ne (by omega)))
  have r5_5 := r5_4.mv ((congrFun hH5 (b + 5)).trans (vu_ne (by omega)))
  have r6_5 := r6_4.mv ((congrFun hH5 (b + 6)).trans (vu_ne (by omega)))
  have r7_5 := r7_4.mv ((congrFun hH5 (b + 7)).trans (vu_ne (by omega)))
  have r8_5 := r8_4.mv ((congrFun hH5 (b + 8)).trans (vu_ne (by omega)))
  have r9_5 := r9_4.mv ((congrFun hH5 (b + 9)).trans (vu_ne (by omega)))
  have so5 := (congrFun hH5 b2).trans ((vu_ne (by omega)).trans so4)
  have sr1_5 := sr1_4.mv ((congrFun hH5 (b2 + 1)).trans (vu_ne (by omega)))
  have sr2_5 := sr2_4.mv ((congrFun hH5 (b2 + 2)).trans (vu_ne (by omega)))
  have sr3_5 := sr3_4.mv ((congrFun hH5 (b2 + 3)).trans (vu_ne (by omega)))
  have sr4_5 := sr4_4.mv ((congrFun hH5 (b2 + 4)).trans (vu_ne (by omega)))
  have sr5_5 := sr5_4.mv ((congrFun hH5 (b2 + 5)).trans (vu_ne (by omega)))
  have sr6_5 := sr6_4.mv ((congrFun hH5 (b2 + 6)).trans (vu_ne (by omega)))
  have sr7_5 := sr7_4.mv ((congrFun hH5 (b2 + 7)).trans (vu_ne (by omega)))
  have sr8_5 := sr8_4.mv ((congrFun hH5 (b2 + 8)).trans (vu_ne (by omega)))
  have sr9_5 := sr9_4.mv ((congrFun hH5 (b2 + 9)).trans (vu_ne (by omega)))
  have fr5 : Fr H0 H5 b := fun a ha => (congrFun hH5 a).trans ((vu_ne (by omega)).trans (fr4 a ha))
  refine ax_aload_n dX3_copyFrom_40 rfl ?_
  refine ax_aload_n dX3_copyFrom_41 rfl ?_
  refine ax_getf dX3_copyFrom_42 ck3 fl_X3_59 (by decide) hn2 so5 rfl ?_
  refine ax_putf dX3_copyFrom_45 ck3 fl_X3_59 (by decide) hn o5 rfl (Or.inl rfl) (Nat.le_of_ble_eq_true rfl) rfl ?_
  generalize hE6 : (Sum.inr (3, _) : va_E) = E6
  obtain ⟨H6, hH6⟩ : ∃ z, z = va_up H5 b E6 := ⟨_, rfl⟩
  rw [← hH6]
  have o6 := (congrFun hH6 b).trans (vu_eq.trans hE6.symm)
  have r1_6 := r1_5.mv ((congrFun hH6 (b + 1)).trans (vu_ne (by omega)))
  have r2_6 := r2_5.mv ((congrFun hH6 (b + 2)).trans (vu_ne (by omega)))
  have r3_6 := r3_5.mv ((congrFun hH6 (b + 3)).trans (vu_ne (by omega)))
  have r4_6 := r4_5.mv ((congrFun hH6 (b + 4)).trans (vu_ne (by omega)))
  have r5_6 := r5_5.mv ((congrFun hH6 (b + 5)).trans (vu_ne (by omega)))
  have r6_6 := r6_5.mv ((congrFun hH6 (b + 6)).trans (vu_ne (by omega)))
  have r7_6 := r7_5.mv ((congrFun hH6 (b + 7)).trans (vu_ne (by omega)))
  have r8_6 := r8_5.mv ((congrFun hH6 (b + 8)).trans (vu_ne (by omega)))
  have r9_6 := r9_5.mv ((congrFun hH6 (b + 9)).trans (vu_ne (by omega)))
  have so6 := (congrFun hH6 b2).trans ((vu_ne (by omega)).trans so5)
  have sr1_6 := sr1_5.mv ((congrFun hH6 (b2 + 1)).trans (vu_ne (by omega)))
  have sr2_6 := sr2_5.mv ((congrFun hH6 (b2 + 2)).trans (vu_ne (by omega)))
  have sr3_6 := sr3_5.mv ((congrFun hH6 (b2 + 3)).trans (vu_ne (by omega)))
  have sr4_6 := sr4_5.mv ((congrFun hH6 (b2 + 4)).trans (vu_ne (by omega)))
  have sr5_6 := sr5_5.mv ((congrFun hH6 (b2 + 5)).trans (vu_ne (by omega)))
  have sr6_6 := sr6_5.mv ((congrFun hH6 (b2 + 6)).trans (vu_ne (by omega)))
  have sr7_6 := sr7_5.mv ((congrFun hH6 (b2 + 7)).trans (vu_ne (by omega)))
  have sr8_6 := sr8_5.mv ((congrFun hH6 (b2 + 8)).trans (vu_ne (by omega)))
  have sr9_6 := sr9_5.mv ((congrFun hH6 (b2 + 9)).trans (vu_ne (by omega)))
  have fr6 : Fr H0 H6 b := fun a ha => (congrFun hH6 a).trans ((vu_ne (by omega)).trans (fr5 a ha))
  refine ax_aload_n dX3_copyFrom_48 rfl ?_
  refine ax_getf dX3_copyFrom_49 ck3 fl_X3_9 (by decide) hn2 so6 rfl ?_
  refine ax_iconst dX3_copyFrom_52 ?_
  refine ax_aload_n dX3_copyFrom_53 rfl ?_
  refine ax_getf dX3_copyFrom_54 ck3 fl_X3_9 (by decide) hn o6 rfl ?_
  refine ax_iconst dX3_copyFrom_57 ?_
  refine ax_aload_n dX3_copyFrom_58 rfl ?_
  refine ax_getf dX3_copyFrom_59 ck3 fl_X3_9 (by decide) hn o6 rfl ?_
  refine ax_alnr dX3_copyFrom_62 (hnk 1 (by omega)) r1_6 (by decide) ?_
  refine ax_copy (by exact dX3_copyFrom_63) (by decide) (show 2 ≤ _ ∧ 50 ≤ _ from ⟨by decide, by decide⟩) (Nat.le_of_ble_eq_true rfl) (hnk2 1 (by omega)) (hnk 1 (by omega)) sr1_6 r1_6 (by decide) (fun e63 he63 => ?_)
  obtain ⟨H7, hH7⟩ : ∃ z, z = va_up H6 (b + 1) e63 := ⟨_, rfl⟩
  rw [← hH7]
  have o7 := (congrFun hH7 b).trans ((vu_ne (by omega)).trans o6)
  have r1_7 := he63.mv ((congrFun hH7 (b + 1)).trans vu_eq)
  have r2_7 := r2_6.mv ((congrFun hH7 (b + 2)).trans (vu_ne (by omega)))
  have r3_7 := r3_6.mv ((congrFun hH7 (b + 3)).trans (vu_ne (by omega)))
  have r4_7 := r4_6.mv ((congrFun hH7 (b + 4)).trans (vu_ne (by omega)))
  have r5_7 := r5_6.mv ((congrFun hH7 (b + 5)).trans (vu_ne (by omega)))
  have r6_7 := r6_6.mv ((congrFun hH7 (b + 6)).trans (vu_ne (by omega)))
  have r7_7 := r7_6.mv ((congrFun hH7 (b + 7)).trans (vu_ne (by omega)))
  have r8_7 := r8_6.mv ((congrFun hH7 (b + 8)).trans (vu_ne (by omega)))
  have r9_7 := r9_6.mv ((congrFun hH7 (b + 9)).trans (vu_ne (by omega)))
  have so7 := (congrFun hH7 b2).trans ((vu_ne (by omega)).trans so6)
  have sr1_7 := sr1_6.mv ((congrFun hH7 (b2 + 1)).trans (vu_ne (by omega)))
  have sr2_7 := sr2_6.mv ((congrFun hH7 (b2 + 2)).trans (vu_ne (by omega)))
  have sr3_7 := sr3_6.mv ((congrFun hH7 (b2 + 3)).trans (vu_ne (by omega)))
  have sr4_7 := sr4_6.mv ((congrFun hH7 (b2 + 4)).trans (vu_ne (by omega)))
  have sr5_7 := sr5_6.mv ((congrFun hH7 (b2 + 5)).trans (vu_ne (by omega)))
  have sr6_7 := sr6_6.mv ((congrFun hH7 (b2 + 6)).trans (vu_ne (by omega)))
  have sr7_7 := sr7_6.mv ((congrFun hH7 (b2 + 7)).trans (vu_ne (by omega)))
  have sr8_7 := sr8_6.mv ((congrFun hH7 (b2 + 8)).trans (vu_ne (by omega)))
  have sr9_7 := sr9_6.mv ((congrFun hH7 (b2 + 9)).trans (vu_ne (by omega)))
  have fr7 : Fr H0 H7 b := fun a ha => (congrFun hH7 a).trans ((vu_ne (by omega)).trans (fr6 a ha))
  refine ax_aload_n dX3_copyFrom_66 rfl ?_
  refine ax_getf dX3_copyFrom_67 ck3 fl_X3_15 (by decide) hn2 so7 rfl ?_
  refine ax_iconst dX3_copyFrom_70 ?_
  refine ax_aload_n dX3_copyFrom_71 rfl ?_
  refine ax_getf dX3_copyFrom_72 ck3 fl_X3_15 (by decide) hn o7 rfl ?_
  refine ax_iconst dX3_copyFrom_75 ?_
  refine ax_aload_n dX3_copyFrom_76 rfl ?_
  refine ax_getf dX3_copyFrom_77 ck3 fl_X3_15 (by decide) hn o7 rfl ?_
  refine ax_alnr dX3_copyFrom_80 (hnk 2 (by omega)) r2_7 (by decide) ?_
  refine ax_copy (by exact dX3_copyFrom_81) (by decide) (show 2 ≤ _ ∧ 50 ≤ _ from ⟨by decide, by decide⟩) (Nat.le_of_ble_eq_true rfl) (hnk2 2 (by omega)) (hnk 2 (by omega)) sr2_7 r2_7 (by decide) (fun e81 he81 => ?_)
  obtain ⟨H8, hH8⟩ : ∃ z, z = va_up H7 (b + 2) e81 := ⟨_, rfl⟩
  rw [← hH8]
  have o8 := (congrFun hH8 b).trans ((vu_ne (by omega)).trans o7)
  have r1_8 := r1_7.mv ((congrFun hH8 (b + 1)).trans (vu_ne (by omega)))
  have r2_8 := he81.mv ((congrFun hH8 (b + 2)).trans vu_eq)
  have r3_8 := r3_7.mv ((congrFun hH8 (b + 3)).trans (vu_ne (by omega)))
  have r4_8 := r4_7.mv ((congrFun hH8 (b + 4)).trans (vu_ne (by omega)))
  have r5_8 := r5_7.mv ((congrFun hH8 (b + 5)).trans (vu_ne (by omega)))
  have r6_8 := r6_7.mv ((congrFun hH8 (b + 6)).trans (vu_ne (by omega)))
  have r7_8 := r7_7.mv ((congrFun hH8 (b + 7)).trans (vu_ne (by omega)))
  have r8_8 := r8_7.mv ((congrFun hH8 (b + 8)).trans (vu_ne (by omega)))
  have r9_8 := r9_7.mv ((congrFun hH8 (b + 9)).trans (vu_ne (by omega)))
  have so8 := (congrFun hH8 b2).trans ((vu_ne (by omega)).trans so7)
  have sr1_8 := sr1_7.mv ((congrFun hH8 (b2 + 1)).trans (vu_ne (by omega)))
  have sr2_8 := sr2_7.mv ((congrFun hH8 (b2 + 2)).trans (vu_ne (by omega)))
  have sr3_8 := sr3_7.mv ((congrFun hH8 (b2 + 3)).trans (vu_ne (by omega)))
  have sr4_8 := sr4_7.mv ((congrFun hH8 (b2 + 4)).trans (vu_ne (by omega)))
  have sr5_8 := sr5_7.mv ((congrFun hH8 (b2 + 5)).trans (vu_ne (by omega)))
  have sr6_8 := sr6_7.mv ((congrFun hH8 (b2 + 6)).trans (vu_ne (by omega)))
  have sr7_8 := sr7_7.mv ((congrFun hH8 (b2 + 7)).trans (vu_ne (by omega)))
  have sr8_8 := sr8_7.mv ((congrFun hH8 (b2 + 8)).trans (vu_ne (by omega)))
  have sr9_8 := sr9_7.mv ((congrFun hH8 (b2 + 9)).trans (vu_ne (by omega)))
  have fr8 : Fr H0 H8 b := fun a ha => (congrFun hH8 a).trans ((vu_ne (by omega)).trans (fr7 a ha))
  refine ax_aload_n dX3_copyFrom_84 rfl ?_
  refine ax_getf dX3_copyFrom_85 ck3 fl_X3_18 (by decide) hn2 so8 rfl ?_
  refine ax_iconst dX3_copyFrom_88 ?_
  refine ax_aload_n dX3_copyFrom_89 rfl ?_
  refine ax_getf dX3_copyFrom_90 ck3 fl_X3_18 (by decide) hn o8 rfl ?_
  refine ax_iconst dX3_copyFrom_93 ?_
  refine ax_aload_n dX3_copyFrom_94 rfl ?_
  refine ax_getf dX3_copyFrom_95 ck3 fl_X3_18 (by decide) hn o8 rfl ?_
  refine ax_alnr dX3_copyFrom_98 (hnk 3 (by omega)) r3_8 (by decide) ?_
  refine ax_copy (by exact dX3_copyFrom_99) (by decide) (show 2 ≤ _ ∧ 50 ≤ _ from ⟨by decide, by decide⟩) (Nat.le_of_ble_eq_true rfl) (hnk2 3 (by omega)) (hnk 3 (by omega)) sr3_8 r3_8 (by decide) (fun e99 he99 => ?_)
  obtain ⟨H9, hH9⟩ : ∃ z, z = va_up H8 (b + 3) e99 := ⟨_, rfl⟩
  rw [← hH9]
  have o9 := (congrFun hH9 b).trans ((vu_ne (by omega)).trans o8)
  have r1_9 := r1_8.mv ((congrFun hH9 (b + 1)).trans (vu_ne (by omega)))
  have r2_9 := r2_8.mv ((congrFun hH9 (b + 2)).trans (vu_ne (by omega)))
  have r3_9 := he99.mv ((congrFun hH9 (b + 3)).trans vu_eq)
  have r4_9 := r4_8.mv ((congrFun hH9 (b + 4)).trans (vu_ne (by omega)))
  have r5_9 := r5_8.mv ((congrFun hH9 (b + 5)).trans (vu_ne (by omega)))
  have r6_9 := r6_8.mv ((congrFun hH9 (b + 6)).trans (vu_ne (by omega)))
  have r7_9 := r7_8.mv ((congrFun hH9 (b + 7)).trans (vu_ne (by omega)))
  have r8_9 := r8_8.mv ((congrFun hH9 (b + 8)).trans (vu_ne (by omega)))
  have r9_9 := r9_8.mv ((congrFun hH9 (b + 9)).trans (vu_ne (by omega)))
  have so9 := (congrFun hH9 b2).trans ((vu_ne (by omega)).trans so8)
  have sr1_9 := sr1_8.mv ((congrFun hH9 (b2 + 1)).trans (vu_ne (by omega)))
  have sr2_9 := sr2_8.mv ((congrFun hH9 (b2 + 2)).trans (vu_ne (by omega)))
  have sr3_9 := sr3_8.mv ((congrFun hH9 (b2 + 3)).trans (vu_ne (by omega)))
  have sr4_9 := sr4_8.mv ((congrFun hH9 (b2 + 4)).trans (vu_ne (by omega)))
  have sr5_9 := sr5_8.mv ((congrFun hH9 (b2 + 5)).trans (vu_ne (by omega)))
  have sr6_9 := sr6_8.mv ((congrFun hH9 (b2 + 6)).trans (vu_ne (by omega)))
  have sr7_9 := sr7_8.mv ((congrFun hH9 (b2 + 7)).trans (vu_ne (by omega)))
  have sr8_9 := sr8_8.mv ((congrFun hH9 (b2 + 8)).trans (vu_ne (by omega)))
  have sr9_9 := sr9_8.mv ((congrFun hH9 (b2 + 9)).trans (vu_ne (by omega)))
  have fr9 : Fr H0 H9 b := fun a ha => (congrFun hH9 a).trans ((vu_ne (by omega)).trans (fr8 a ha))
  refine ax_aload_n dX3_copyFrom_102 rfl ?_
  refine ax_getf dX3_copyFrom_103 ck3 fl_X3_21 (by decide) hn2 so9 rfl ?_
  refine ax_iconst dX3_copyFrom_106 ?_
  refine ax_aload_n dX3_copyFrom_107 rfl ?_
  refine ax_getf dX3_copyFrom_108 ck3 fl_X3_21 (by decide) hn o9 rfl ?_
  refine ax_iconst dX3_copyFrom_111 ?_
  refine ax_aload_n dX3_copyFrom_112 rfl ?_
  refine ax_getf dX3_copyFrom_113 ck3 fl_X3_21 (by decide) hn o9 rfl ?_
  refine ax_alnr dX3_copyFrom_116 (hnk 4 (by omega)) r4_9 (by decide) ?_
  refine ax_copy (by exact dX3_copyFrom_117) (by decide) (show 2 ≤ _ ∧ 50 ≤ _ from ⟨by decide, by decide⟩) (Nat.le_of_ble_eq_true rfl) (hnk2 4 (by omega)) (hnk 4 (by omega)) sr4_9 r4_9 (by decide) (fun e117 he117 => ?_)
  obtain ⟨H10, hH10⟩ : ∃ z, z = va_up H9 (b + 4) e117 := ⟨_, rfl⟩
  rw [← hH10]
  have o10 := (congrFun hH10 b).trans ((vu_ne (by omega)).trans o9)
  have r1_10 := r1_9.mv ((congrFun hH10 (b + 1)).trans (vu_ne (by omega)))
  have r2_10 := r2_9.mv ((congrFun hH10 (b + 2)).trans (vu_ne (by omega)))
  have r3_10 := r3_9.mv ((congrFun hH10 (b + 3)).trans (vu_ne (by omega)))
  have r4_10 := he117.mv ((congrFun hH10 (b + 4)).trans vu_eq)
  have r5_10 := r5_9.mv ((congrFun hH10 (b + 5)).trans (vu_ne (by omega)))
  have r6_10 := r6_9.mv ((congrFun hH10 (b + 6)).trans (vu_ne (by omega)))
  have r7_10 := r7_9.mv ((congrFun hH10 (b + 7)).trans (vu_ne (by omega)))
  have r8_10 := r8_9.mv ((congrFun hH10 (b + 8)).trans (vu_ne (by omega)))
  have r9_10 := r9_9.mv ((congrFun hH10 (b + 9)).trans (vu_ne (by omega)))
  have so10 := (congrFun hH10 b2).trans ((vu_ne (by omega)).trans so9)
  have sr1_10 := sr1_9.mv ((congrFun hH10 (b2 + 1)).trans (vu_ne (by omega)))
  have sr2_10 := sr2_9.mv ((congrFun hH10 (b2 + 2)).trans (vu_ne (by omega)))
  have sr3_10 := sr3_9.mv ((congrFun hH10 (b2 + 3)).trans (vu_ne (by omega)))
  have sr4_10 := sr4_9.mv ((congrFun hH10 (b2 + 4)).trans (vu_ne (by omega)))
  have sr5_10 := sr5_9.mv ((congrFun hH10 (b2 + 5)).trans (vu_ne (by omega)))
  have sr6_10 := sr6_9.mv ((congrFun hH10 (b2 + 6)).trans (vu_ne (by omega)))
  have sr7_10 := sr7_9.mv ((congrFun hH10 (b2 + 7)).trans (vu_ne (by omega)))
  have sr8_10 := sr8_9.mv ((congrFun hH10 (b2 + 8)).trans (vu_ne (by omega)))
  have sr9_10 := sr9_9.mv ((congrFun hH10 (b2 + 9)).trans (vu_ne (by omega)))
  have fr10 : Fr H0 H10 b := fun a ha => (congrFun hH10 a).trans ((vu_ne (by omega)).trans (fr9 a ha))
  refine ax_aload_n dX3_copyFrom_120 rfl ?_
  refine ax_getf dX3_copyFrom_121 ck3 fl_X3_24 (by decide) hn2 so10 rfl ?_
  refine ax_iconst dX3_copyFrom_124 ?_
  refine ax_aload_n dX3_copyFrom_125 rfl ?_
  refine ax_getf dX3_copyFrom_126 ck3 fl_X3_24 (by decide) hn o10 rfl ?_
  refine ax_iconst dX3_copyFrom_129 ?_
  refine ax_aload_n dX3_copyFrom_130 rfl ?_
  refine ax_getf dX3_copyFrom_131 ck3 fl_X3_24 (by decide) hn o10 rfl ?_
  refine ax_alnr dX3_copyFrom_134 (hnk 5 (by omega)) r5_10 (by decide) ?_
  refine ax_copy (by exact dX3_copyFrom_135) (by decide) (show 2 ≤ _ ∧ 50 ≤ _ from ⟨by decide, by decide⟩) (Nat.le_of_ble_eq_true rfl) (hnk2 5 (by omega)) (hnk 5 (by omega)) sr5_10 r5_10 (by decide) (fun e135 he135 => ?_)
  obtain ⟨H11, hH11⟩ : ∃ z, z = va_up H10 (b + 5) e135 := ⟨_, rfl⟩
  rw [← hH11]
  have o11 := (congrFun hH11 b).trans ((vu_ne (by omega)).trans o10)
  have r1_11 := r1_10.mv ((congrFun hH11 (b + 1)).trans (vu_ne (by omega)))
  have r2_11 := r2_10.mv ((congrFun hH11 (b + 2)).trans (vu_ne (by omega)))
  have r3_11 := r3_10.mv ((congrFun hH11 (b + 3)).trans (vu_ne (by omega)))
  have r4_11 := r4_10.mv ((congrFun hH11 (b + 4)).trans (vu_ne (by omega)))
  have r5_11 := he135.mv ((congrFun hH11 (b + 5)).trans vu_eq)
  have r6_11 := r6_10.mv ((congrFun hH11 (b + 6)).trans (vu_ne (by omega)))
  have r7_11 := r7_10.mv ((congrFun hH11 (b + 7)).trans (vu_ne (by omega)))
  have r8_11 := r8_10.mv ((congrFun hH11 (b + 8)).trans (vu_ne (by omega)))
  have r9_11 := r9_10.mv ((congrFun hH11 (b + 9)).trans (vu_ne (by omega)))
  have so11 := (congrFun hH11 b2).trans ((vu_ne (by omega)).trans so10)
  have sr1_11 := sr1_10.mv ((congrFun hH11 (b2 + 1)).trans (vu_ne (by omega)))
  have sr2_11 := sr2_10.mv ((congrFun hH11 (b2 + 2)).trans (vu_ne (by omega)))
  have sr3_11 := sr3_10.mv ((congrFun hH11 (b2 + 3)).trans (vu_ne (by omega)))
  have sr4_11 := sr4_10.mv ((congrFun hH11 (b2 + 4)).trans (vu_ne (by omega)))
  have sr5_11 := sr5_10.mv ((congrFun hH11 (b2 + 5)).trans (vu_ne (by omega)))
  have sr6_11 := sr6_10.mv ((congrFun hH11 (b2 + 6)).trans (vu_ne (by omega)))
  have sr7_11 := sr7_10.mv ((congrFun hH11 (b2 + 7)).trans (vu_ne (by omega)))
  have sr8_11 := sr8_10.mv ((congrFun hH11 (b2 + 8)).trans (vu_ne (by omega)))
  have sr9_11 := sr9_10.mv ((congrFun hH11 (b2 + 9)).trans (vu_ne (by omega)))
  have fr11 : Fr H0 H11 b := fun a ha => (congrFun hH11 a).trans ((vu_ne (by omega)).trans (fr10 a ha))
  refine ax_aload_n dX3_copyFrom_138 rfl ?_
  refine ax_getf dX3_copyFrom_139 ck3 fl_X3_27 (by decide) hn2 so11 rfl ?_
  refine ax_iconst dX3_copyFrom_142 ?_
  refine ax_aload_n dX3_copyFrom_143 rfl ?_
  refine ax_getf dX3_copyFrom_144 ck3 fl_X3_27 (by decide) hn o11 rfl ?_
  refine ax_iconst dX3_copyFrom_147 ?_
  refine ax_aload_n dX3_copyFrom_148 rfl ?_
  refine ax_getf dX3_copyFrom_149 ck3 fl_X3_27 (by decide) hn o11 rfl ?_
  refine ax_alnr dX3_copyFrom_152 (hnk 6 (by omega)) r6_11 (by decide) ?_
  refine ax_copy (by exact dX3_copyFrom_153) (by decide) (show 2 ≤ _ ∧ 50 ≤ _ from ⟨by decide, by decide⟩) (Nat.le_of_ble_eq_true rfl) (hnk2 6 (by omega)) (hnk 6 (by omega)) sr6_11 r6_11 (by decide) (fun e153 he153 => ?_)
  obtain ⟨H12, hH12⟩ : ∃ z, z = va_up H11 (b + 6) e153 := ⟨_, rfl⟩
  rw [← hH12]
  have o12 := (congrFun hH12 b).trans ((vu_ne (by omega)).trans o11)
  have r1_12 := r1_11.mv ((congrFun hH12 (b + 1)).trans (vu_ne (by omega)))
  have r2_12 := r2_11.mv ((congrFun hH12 (b + 2)).trans (vu_ne (by omega)))
  have r3_12 := r3_11.mv ((congrFun hH12 (b + 3)).trans (vu_ne (by omega)))
  have r4_12 := r4_11.mv ((congrFun hH12 (b + 4)).trans (vu_ne (by omega)))
  have r5_12 := r5_11.mv ((congrFun hH12 (b + 5)).trans (vu_ne (by omega)))
  have r6_12 := he153.mv ((congrFun hH12 (b + 6)).trans vu_eq)
  have r7_12 := r7_11.mv ((congrFun hH12 (b + 7)).trans (vu_ne (by omega)))
  have r8_12 := r8_11.mv ((congrFun hH12 (b + 8)).trans (vu_ne (by omega)))
  have r9_12 := r9_11.mv ((congrFun hH12 (b + 9)).trans (vu_ne (by omega)))
  have so12 := (congrFun hH12 b2).trans ((vu_ne (by omega)).trans so11)
  have sr1_12 := sr1_11.mv ((congrFun hH12 (b2 + 1)).trans (vu_ne (by omega)))
  have sr2_12 := sr2_11.mv ((congrFun hH12 (b2 + 2)).trans (vu_ne (by omega)))
  have sr3_12 := sr3_11.mv ((congrFun hH12 (b2 + 3)).trans (vu_ne (by omega)))
  have sr4_12 := sr4_11.mv ((congrFun hH12 (b2 + 4)).trans (vu_ne (by omega)))
  have sr5_12 := sr5_11.mv ((congrFun hH12 (b2 + 5)).trans (vu_ne (by omega)))
  have sr6_12 := sr6_11.mv ((congrFun hH12 (b2 + 6)).trans (vu_ne (by omega)))
  have sr7_12 := sr7_11.mv ((congrFun hH12 (b2 + 7)).trans (vu_ne (by omega)))
  have sr8_12 := sr8_11.mv ((congrFun hH12 (b2 + 8)).trans (vu_ne (by omega)))
  have sr9_12 := sr9_11.mv ((congrFun hH12 (b2 + 9)).trans (vu_ne (by omega)))
  have fr12 : Fr H0 H12 b := fun a ha => (congrFun hH12 a).trans ((vu_ne (by omega)).trans (fr11 a ha))
  refine ax_aload_n dX3_copyFrom_156 rfl ?_
  refine ax_getf dX3_copyFrom_157 ck3 fl_X3_30 (by decide) hn2 so12 rfl ?_
  refine ax_iconst dX3_copyFrom_160 ?_
  refine ax_aload_n dX3_copyFrom_161 rfl ?_
  refine ax_getf dX3_copyFrom_162 ck3 fl_X3_30 (by decide) hn o12 rfl ?_
  refine ax_iconst dX3_copyFrom_165 ?_
  refine ax_aload_n dX3_copyFrom_166 rfl ?_
  refine ax_getf dX3_copyFrom_167 ck3 fl_X3_30 (by decide) hn o12 rfl ?_
  refine ax_alnr dX3_copyFrom_170 (hnk 7 (by omega)) r7_12 (by decide) ?_
  refine ax_copy (by exact dX3_copyFrom_171) (by decide) (show 2 ≤ _ ∧ 50 ≤ _ from ⟨by decide, by decide⟩) (Nat.le_of_ble_eq_true rfl) (hnk2 7 (by omega)) (hnk 7 (by omega)) sr7_12 r7_12 (by decide) (fun e171 he171 => ?_)
  obtain ⟨H13, hH13⟩ : ∃ z, z = va_up H12 (b + 7) e171 := ⟨_, rfl⟩
  rw [← hH13]
  have o13 := (congrFun hH13 b).trans ((vu_ne (by omega)).trans o12)
  have r1_13 := r1_12.mv ((congrFun hH13 (b + 1)).trans (vu_ne (by omega)))
  have r2_13 := r2_12.mv ((congrFun hH13 (b + 2)).trans (vu_ne (by omega)))
  have r3_13 := r3_12.mv ((congrFun hH13 (b + 3)).trans (vu_ne (by omega)))
  have r4_13 := r4_12.mv ((congrFun hH13 (b + 4)).trans (vu_ne (by omega)))
  have r5_13 := r5_12.mv ((congrFun hH13 (b + 5)).trans (vu_ne (by omega)))
  have r6_13 := r6_12.mv ((congrFun hH13 (b + 6)).trans (vu_ne (by omega)))
  have r7_13 := he171.mv ((congrFun hH13 (b + 7)).trans vu_eq)
  have r8_13 := r8_12.mv ((congrFun hH13 (b + 8)).trans (vu_ne (by omega)))
  have r9_13 := r9_12.mv ((congrFun hH13 (b + 9)).trans (vu_ne (by omega)))
  have so13 := (congrFun hH13 b2).trans ((vu_ne (by omega)).trans so12)
  have sr1_13 := sr1_12.mv ((congrFun hH13 (b2 + 1)).trans (vu_ne (by omega)))
  have sr2_13 := sr2_12.mv ((congrFun hH13 (b2 + 2)).trans (vu_ne (by omega)))
  have sr3_13 := sr3_12.mv ((congrFun hH13 (b2 + 3)).trans (vu_ne (by omega)))
  have sr4_13 := sr4_12.mv ((congrFun hH13 (b2 + 4)).trans (vu_ne (by omega)))
  have sr5_13 := sr5_12.mv ((congrFun hH13 (b2 + 5)).trans (vu_ne (by omega)))
  have sr6_13 := sr6_12.mv ((congrFun hH13 (b2 + 6)).trans (vu_ne (by omega)))
  have sr7_13 := sr7_12.mv ((congrFun hH13 (b2 + 7)).trans (vu_ne (by omega)))
  have sr8_13 := sr8_12.mv ((congrFun hH13 (b2 + 8)).trans (vu_ne (by omega)))
  have sr9_13 := sr9_12.mv ((congrFun hH13 (b2 + 9)).trans (vu_ne (by omega)))
  have fr13 : Fr H0 H13 b := fun a ha => (congrFun hH13 a).trans ((vu_ne (by omega)).trans (fr12 a ha))
  refine ax_aload_n dX3_copyFrom_174 rfl ?_
  refine ax_getf dX3_copyFrom_175 ck3 fl_X3_33 (by decide) hn2 so13 rfl ?_
  refine ax_iconst dX3_copyFrom_178 ?_
  refine ax_aload_n dX3_copyFrom_179 rfl ?_
  refine ax_getf dX3_copyFrom_180 ck3 fl_X3_33 (by decide) hn o13 rfl ?_
  refine ax_iconst dX3_copyFrom_183 ?_
  refine ax_aload_n dX3_copyFrom_184 rfl ?_
  refine ax_getf dX3_copyFrom_185 ck3 fl_X3_33 (by decide) hn o13 rfl ?_
  refine ax_alnr dX3_copyFrom_188 (hnk 8 (by omega)) r8_13 (by decide) ?_
  refine ax_copy (by exact dX3_copyFrom_189) (by decide) (show 2 ≤ _ ∧ 50 ≤ _ from ⟨by decide, by decide⟩) (Nat.le_of_ble_eq_true rfl) (hnk2 8 (by omega)) (hnk 8 (by omega)) sr8_13 r8_13 (by decide) (fun e189 he189 => ?_)
  obtain ⟨H14, hH14⟩ : ∃ z, z = va_up H13 (b + 8) e189 := ⟨_, rfl⟩
  rw [← hH14]
  have o14 := (congrFun hH14 b).trans ((vu_ne (by omega)).trans o13)
  have r1_14 := r1_13.mv ((congrFun hH14 (b + 1)).trans (vu_ne (by omega)))
  have r2_14 := r2_13.mv ((congrFun hH14 (b + 2)).trans (vu_ne (by omega)))
  have r3_14 := r3_13.mv ((congrFun hH14 (b + 3)).trans (vu_ne (by omega)))
  have r4_14 := r4_13.mv ((congrFun hH14 (b + 4)).trans (vu_ne (by omega)))
  have r5_14 := r5_13.mv ((congrFun hH14 (b + 5)).trans (vu_ne (by omega)))
  have r6_14 := r6_13.mv ((congrFun hH14 (b + 6)).trans (vu_ne (by omega)))
  have r7_14 := r7_13.mv ((congrFun hH14 (b + 7)).trans (vu_ne (by omega)))
  have r8_14 := he189.mv ((congrFun hH14 (b + 8)).trans vu_eq)
  have r9_14 := r9_13.mv ((congrFun hH14 (b + 9)).trans (vu_ne (by omega)))
  have so14 := (congrFun hH14 b2).trans ((vu_ne (by omega)).trans so13)
  have sr1_14 := sr1_13.mv ((congrFun hH14 (b2 + 1)).trans (vu_ne (by omega)))
  have sr2_14 := sr2_13.mv ((congrFun hH14 (b2 + 2)).trans (vu_ne (by omega)))
  have sr3_14 := sr3_13.mv ((congrFun hH14 (b2 + 3)).trans (vu_ne (by omega)))
  have sr4_14 := sr4_13.mv ((congrFun hH14 (b2 + 4)).trans (vu_ne (by omega)))
  have sr5_14 := sr5_13.mv ((congrFun hH14 (b2 + 5)).trans (vu_ne (by omega)))
  have sr6_14 := sr6_13.mv ((congrFun hH14 (b2 + 6)).trans (vu_ne (by omega)))
  have sr7_14 := sr7_13.mv ((congrFun hH14 (b2 + 7)).trans (vu_ne (by omega)))
  have sr8_14 := sr8_13.mv ((congrFun hH14 (b2 + 8)).trans (vu_ne (by omega)))
  have sr9_14 := sr9_13.mv ((congrFun hH14 (b2 + 9)).trans (vu_ne (by omega)))
  have fr14 : Fr H0 H14 b := fun a ha => (congrFun hH14 a).trans ((vu_ne (by omega)).trans (fr13 a ha))
  refine ax_aload_n dX3_copyFrom_192 rfl ?_
  refine ax_getf dX3_copyFrom_193 ck3 fl_X3_36 (by decide) hn2 so14 rfl ?_
  refine ax_iconst dX3_copyFrom_196 ?_
  refine ax_aload_n dX3_copyFrom_197 rfl ?_
  refine ax_getf dX3_copyFrom_198 ck3 fl_X3_36 (by decide) hn o14 rfl ?_
  refine ax_iconst dX3_copyFrom_201 ?_
  refine ax_aload_n dX3_copyFrom_202 rfl ?_
  refine ax_getf dX3_copyFrom_203 ck3 fl_X3_36 (by decide) hn o14 rfl ?_
  refine ax_alnr dX3_copyFrom_206 (hnk 9 (by omega)) r9_14 (by decide) ?_
  refine ax_copy (by exact dX3_copyFrom_207) (by decide) (show 2 ≤ _ ∧ 50 ≤ _ from ⟨by decide, by decide⟩) (Nat.le_of_ble_eq_true rfl) (hnk2 9 (by omega)) (hnk 9 (by omega)) sr9_14 r9_14 (by decide) (fun e207 he207 => ?_)
  obtain ⟨H15, hH15⟩ : ∃ z, z = va_up H14 (b + 9) e207 := ⟨_, rfl⟩
  rw [← hH15]
  have o15 := (congrFun hH15 b).trans ((vu_ne (by omega)).trans o14)
  have r1_15 := r1_14.mv ((congrFun hH15 (b + 1)).trans (vu_ne (by omega)))
  have r2_15 := r2_14.mv ((congrFun hH15 (b + 2)).trans (vu_ne (by omega)))
  have r3_15 := r3_14.mv ((congrFun hH15 (b + 3)).trans (vu_ne (by omega)))
  have r4_15 := r4_14.mv ((congrFun hH15 (b + 4)).trans (vu_ne (by omega)))
  have r5_15 := r5_14.mv ((congrFun hH15 (b + 5)).trans (vu_ne (by omega)))
  have r6_15 := r6_14.mv ((congrFun hH15 (b + 6)).trans (vu_ne (by omega)))
  have r7_15 := r7_14.mv ((congrFun hH15 (b + 7)).trans (vu_ne (by omega)))
  have r8_15 := r8_14.mv ((congrFun hH15 (b + 8)).trans (vu_ne (by omega)))
  have r9_15 := he207.mv ((congrFun hH15 (b + 9)).trans vu_eq)
  have so15 := (congrFun hH15 b2).trans ((vu_ne (by omega)).trans so14)
  have sr1_15 := sr1_14.mv ((congrFun hH15 (b2 + 1)).trans (vu_ne (by omega)))
  have sr2_15 := sr2_14.mv ((congrFun hH15 (b2 + 2)).trans (vu_ne (by omega)))
  have sr3_15 := sr3_14.mv ((congrFun hH15 (b2 + 3)).trans (vu_ne (by omega)))
  have sr4_15 := sr4_14.mv ((congrFun hH15 (b2 + 4)).trans (vu_ne (by omega)))
  have sr5_15 := sr5_14.mv ((congrFun hH15 (b2 + 5)).trans (vu_ne (by omega)))
  have sr6_15 := sr6_14.mv ((congrFun hH15 (b2 + 6)).trans (vu_ne (by omega)))
  have sr7_15 := sr7_14.mv ((congrFun hH15 (b2 + 7)).trans (vu_ne (by omega)))
  have sr8_15 := sr8_14.mv ((congrFun hH15 (b2 + 8)).trans (vu_ne (by omega)))
  have sr9_15 := sr9_14.mv ((congrFun hH15 (b2 + 9)).trans (vu_ne (by omega)))
  have fr15 : Fr H0 H15 b := fun a ha => (congrFun hH15 a).trans ((vu_ne (by omega)).trans (fr14 a ha))
  exact ax_vret dX3_copyFrom_210 rfl ⟨⟨hS.1, o15, r1_15, r2_15, r3_15, r4_15, r5_15, r6_15, r7_15, r8_15, r9_15⟩, fr15⟩
end SN3
