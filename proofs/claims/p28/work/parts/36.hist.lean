/-! the latest changes: the class's ring, the reference's row of rows -/
theorem row.sh {t n : Nat} {e : va_E} {f : Nat → Int} (h : row t e n f) : sh t e n := ⟨f, h⟩
def HO (h : hp) (m d : Nat) : Prop := h 21 = .inr (1, [.ref 22, .int (I (m : Int)), .int (I (d : Int))])
def HR (h : hp) : Prop := ∃ f : Nat → Option Nat, h 22 = .inl (3, 8, .inr (.inr (.inr (.inr f)))) ∧ ∀ k, k < 8 → f k = some (23 + 10 * k)
/-- the class's ring holds the sails H 0 (the newest) .. H (d - 1) -/
def CH (NC : Nat) (h : hp) (H : Nat → Nat → Nat) (d : Nat) : Prop := ∃ m, m < 8 ∧ d ≤ 8 ∧ HO h m d ∧ HR h ∧ (∀ k, k < 8 → ∃ R, SA NC h (23 + 10 * k) R) ∧ (∀ t, t < d → SA NC h (23 + 10 * ((m + 8 - t) % 8)) (H t))
def psh (K : Nat → Nat) (H : Nat → Nat → Nat) : Nat → Nat → Nat := fun t => if t = 0 then K else H (t - 1)
def FrC (h g : hp) : Prop := ∀ a, a < 21 ∨ 103 ≤ a → g a = h a
/-- the reference's row of rows -/
def GR (h : hp) : Prop := ∃ f : Nat → Option Nat, h 117 = .inl (4, 8, .inr (.inr (.inr (.inr f)))) ∧ ∀ k, k < 8 → f k = some (118 + k)
def MH (h : hp) (H : Nat → Nat → Nat) (d : Nat) : Prop := d ≤ 8 ∧ GR h ∧ (∀ k, k < 8 → sh 0 (h (118 + k)) 746) ∧ (∀ t, t < d → row 0 (h (118 + (d - 1 - t))) 746 (fun i => (H t i : Int)))
theorem CH.eq {NC : Nat} {h g : hp} {H : Nat → Nat → Nat} {d : Nat} (hH : CH NC h H d) (e : ∀ a, 21 ≤ a → a < 103 → g a = h a) : CH NC g H d := by
  obtain ⟨m, m8, d8, h1, h2, h3, h4⟩ := hH
  refine ⟨m, m8, d8, (e 21 (by omega) (by omega)).trans h1, ?_, fun k hk => ?_, fun t ht => (h4 t ht).eq (fun a a1 a2 => e a (by omega) (by omega))⟩
  · obtain ⟨f, f1, f2⟩ := h2
    exact ⟨f, (e 22 (by omega) (by omega)).trans f1, f2⟩
  · obtain ⟨R, r⟩ := h3 k hk
    exact ⟨R, r.eq (fun a a1 a2 => e a (by omega) (by omega))⟩
section HI
variable {NC b : Nat} {h : hp} {s : Nat → Int} {K : Nat → Nat} {H : Nat → Nat → Nat} {Q : qt}
theorem sp_keep (hN : 112 ≤ NC) (hb : b + 10 ≤ 21) (hS : SA NC h b K) {d : Nat} (hH : CH NC h H d) : Cl NC M_X1_keep [.ref 21, .ref b] h (fun _ h1 => CH NC h1 (psh K H) (min (d + 1) 8) ∧ FrC h h1) := by
  obtain ⟨m, m8, d8, hO, ⟨f, hf, hf8⟩, h3, h4⟩ := hH
  unfold HO at hO
  refine ax_aload_n dX1_keep_0 rfl ?_
  refine ax_aload_n dX1_keep_1 rfl ?_
  refine ax_getf dX1_keep_2 ck1 fl_X1_18 (by decide) (by omega) hO rfl ?_
  refine ax_iconst dX1_keep_5 ?_
  refine ax_iadd dX1_keep_6 ?_
  refine ax_bipush dX1_keep_7 (by decide) ?_
  refine ax_irem dX1_keep_9 (by omega) (by omega) ?_
  rw [show ((m : Int) + 1) % 8 = (((m + 1) % 8 : Nat) : Int) by omega]
  refine ax_putf dX1_keep_10 ck1 fl_X1_18 (by decide) (by omega) hO rfl (Or.inl rfl) (Nat.le_of_ble_eq_true rfl) rfl ?_
  generalize hg : va_up h 21 _ = g1
  have hO1 : g1 21 = .inr (1, [.ref 22, .int (I (((m + 1) % 8 : Nat) : Int)), .int (I (d : Int))]) := by rw [← hg]; exact vu_eq
  have y1 : ∀ a, a ≠ 21 → g1 a = h a := fun a ha => by rw [← hg]; exact vu_ne ha
  refine ax_aload_n dX1_keep_13 rfl ?_
  refine ax_aload_n dX1_keep_14 rfl ?_
  refine ax_getf dX1_keep_15 ck1 fl_X1_22 (by decide) (by omega) hO1 rfl ?_
  refine ax_iconst dX1_keep_18 ?_
  refine ax_iadd dX1_keep_19 ?_
  refine ax_bipush dX1_keep_20 (by decide) ?_
  refine ex_l_min (by exact dX1_keep_22) (by decide) (show 2 ≤ _ ∧ 50 ≤ _ from ⟨by decide, by decide⟩) (Nat.le_of_ble_eq_true rfl) ?_
  rw [min_I (by omega) (by omega), show min ((d : Int) + 1) 8 = ((min (d + 1) 8 : Nat) : Int) by omega]
  refine ax_putf dX1_keep_25 ck1 fl_X1_22 (by decide) (by omega) hO1 rfl (Or.inl rfl) (Nat.le_of_ble_eq_true rfl) rfl ?_
  generalize hg2 : va_up g1 21 _ = g2
  have hO2 : HO g2 ((m + 1) % 8) (min (d + 1) 8) := by rw [← hg2]; exact vu_eq
  have y2 : ∀ a, a ≠ 21 → g2 a = h a := fun a ha => by rw [← hg2]; exact (vu_ne ha).trans (y1 a ha)
  have hf2 : g2 22 = _ := (y2 22 (by decide)).trans hf
  refine ax_aload_n dX1_keep_28 rfl ?_
  refine ax_getf dX1_keep_29 ck1 fl_X1_11 (by decide) (by omega) hO2 rfl ?_
  refine ax_aload_n dX1_keep_32 rfl ?_
  refine ax_getf dX1_keep_33 ck1 fl_X1_18 (by decide) (by omega) hO2 rfl ?_
  refine ax_aald (j := ((m + 1) % 8)) (q := 23 + 10 * ((m + 1) % 8)) dX1_keep_36 (by omega) hf2 (by omega) (by omega) (by decide) (hf8 _ (by omega)) ?_
  obtain ⟨R, hR⟩ := h3 ((m + 1) % 8) (by omega)
  have hR2 : SA NC g2 (23 + 10 * ((m + 1) % 8)) R := hR.eq (fun a a1 a2 => y2 a (by omega))
  have hS2 : SA NC g2 b K := hS.eq (fun a a1 a2 => y2 a (by omega))
  refine ax_aload_n dX1_keep_37 rfl ?_
  refine ax_cvv1 dX1_keep_38 ln_X1_keep_31 (Nat.le_of_ble_eq_true rfl) rfl hR2.n0 hR2.o rfl (sp_copyFrom hR2 hS2 (by omega)) (fun g3 hq => ?_)
  obtain ⟨hR3, hF3⟩ := hq
  have hF4 : ∀ a, a < 21 ∨ 103 ≤ a → g3 a = h a := fun a ha => (hF3 a (by omega)).trans (y2 a (by omega))
  have mv : ∀ k R, k < 8 → k ≠ (m + 1) % 8 → SA NC h (23 + 10 * k) R → SA NC g3 (23 + 10 * k) R := fun k R hk hn hr => hr.eq (fun a a1 a2 => (hF3 a (by omega)).trans (y2 a (by omega)))
  exact ax_vret dX1_keep_41 rfl ⟨⟨(m + 1) % 8, by omega, by omega, (hF3 21 (by omega)).trans hO2, ⟨f, (hF3 22 (by omega)).trans hf2, hf8⟩, fun k hk => by by_cases q : k = (m + 1) % 8; exact ⟨K, by rw [q]; exact hR3⟩; obtain ⟨R1, r1⟩ := h3 k hk; exact ⟨R1, mv k R1 hk q r1⟩, fun t ht => by unfold psh; by_cases q : t = 0; (rw [if_pos q, q, show ((m + 1) % 8 + 8 - 0) % 8 = (m + 1) % 8 by omega]; exact hR3); rw [if_neg q, show ((m + 1) % 8 + 8 - t) % 8 = (m + 8 - (t - 1)) % 8 by omega]; exact mv _ _ (by omega) (by omega) (h4 (t - 1) (by omega))⟩, hF4⟩
theorem sp_takeBack (hN : 112 ≤ NC) (hb : b + 10 ≤ 21) (hS : SA NC h b K) {d : Nat} (hd : 0 < d) (hH : CH NC h H d) : Cl NC M_X1_takeBack [.ref 21, .ref b] h (fun _ h1 => CH NC h1 (fun t => H (t + 1)) (d - 1) ∧ SA NC h1 b (H 0) ∧ ∀ a, a ≠ 21 → (a < b ∨ b + 10 ≤ a) → h1 a = h a) := by
  obtain ⟨m, m8, d8, hO, ⟨f, hf, hf8⟩, h3, h4⟩ := hH
  unfold HO at hO
  refine ax_aload_n dX1_takeBack_0 rfl ?_
  refine ax_aload_n dX1_takeBack_1 rfl ?_
  refine ax_getf dX1_takeBack_2 ck1 fl_X1_11 (by decide) (by omega) hO rfl ?_
  refine ax_aload_n dX1_takeBack_5 rfl ?_
  refine ax_getf dX1_takeBack_6 ck1 fl_X1_18 (by decide) (by omega) hO rfl ?_
  refine ax_aald (j := m) (q := 23 + 10 * m) dX1_takeBack_9 (by omega) hf (by omega) (by omega) (by decide) (hf8 _ (by omega)) ?_
  have hR := h4 0 (by omega)
  rw [show (m + 8 - 0) % 8 = m by omega] at hR
  refine ax_cvv1 dX1_takeBack_10 ln_X1_takeBack_31 (Nat.le_of_ble_eq_true rfl) rfl hS.n0 hS.o rfl (sp_copyFrom hS hR (by omega)) (fun g1 hq => ?_)
  obtain ⟨hS1, hF1⟩ := hq
  have hO1 : g1 21 = _ := (hF1 21 (by omega)).trans hO
  refine ax_aload_n dX1_takeBack_13 rfl ?_
  refine ax_aload_n dX1_takeBack_14 rfl ?_
  refine ax_getf dX1_takeBack_15 ck1 fl_X1_18 (by decide) (by omega) hO1 rfl ?_
  refine ax_bipush dX1_takeBack_18 (by decide) ?_
  refine ax_iadd dX1_takeBack_20 ?_
  refine ax_iconst dX1_takeBack_21 ?_
  refine ax_isub dX1_takeBack_22 ?_
  refine ax_bipush dX1_takeBack_23 (by decide) ?_
  refine ax_irem dX1_takeBack_25 (by omega) (by omega) ?_
  rw [show ((m : Int) + 8 - 1) % 8 = (((m + 7) % 8 : Nat) : Int) by omega]
  refine ax_putf dX1_takeBack_26 ck1 fl_X1_18 (by decide) (by omega) hO1 rfl (Or.inl rfl) (Nat.le_of_ble_eq_true rfl) rfl ?_
  generalize hg : va_up g1 21 _ = g2
  have hO2 : g2 21 = .inr (1, [.ref 22, .int (I (((m + 7) % 8 : Nat) : Int)), .int (I (d : Int))]) := by rw [← hg]; exact vu_eq
  have y2 : ∀ a, a ≠ 21 → g2 a = g1 a := fun a ha => by rw [← hg]; exact vu_ne ha
  refine ax_aload_n dX1_takeBack_29 rfl ?_
  refine ax_dup dX1_takeBack_30 rfl ?_
  refine ax_getf dX1_takeBack_31 ck1 fl_X1_22 (by decide) (by omega) hO2 rfl ?_
  refine ax_iconst dX1_takeBack_34 ?_
  refine ax_isub dX1_takeBack_35 ?_
  rw [show (d : Int) - 1 = ((d - 1 : Nat) : Int) by omega]
  refine ax_putf dX1_takeBack_36 ck1 fl_X1_22 (by decide) (by omega) hO2 rfl (Or.inl rfl) (Nat.le_of_ble_eq_true rfl) rfl ?_
  generalize hg3 : va_up g2 21 _ = g3
  have hO3 : HO g3 ((m + 7) % 8) (d - 1) := by rw [← hg3]; exact vu_eq
  have y3 : ∀ a, a ≠ 21 → g3 a = g1 a := fun a ha => by rw [← hg3]; exact (vu_ne ha).trans (y2 a ha)
  have mv : ∀ k R, k < 8 → SA NC h (23 + 10 * k) R → SA NC g3 (23 + 10 * k) R := fun k R hk hr => hr.eq (fun a a1 a2 => (y3 a (by omega)).trans (hF1 a (by omega)))
  exact ax_vret dX1_takeBack_39 rfl ⟨⟨(m + 7) % 8, by omega, by omega, hO3, ⟨f, (y3 22 (by decide)).trans ((hF1 22 (by omega)).trans hf), hf8⟩, fun k hk => by obtain ⟨R1, r1⟩ := h3 k hk; exact ⟨R1, mv k R1 hk r1⟩, fun t ht => by rw [show ((m + 7) % 8 + 8 - t) % 8 = (m + 8 - (t + 1)) % 8 by omega]; exact mv _ _ (by omega) (h4 (t + 1) (by omega))⟩, hS1.eq (fun a a1 a2 => y3 a (by omega)), fun a ha hb2 => (y3 a ha).trans (hF1 a hb2)⟩
theorem MD.s0 {h : hp} {s : Nat → Int} {K : Nat → Nat} (hM : MD h s K) {z : Int} : MD (va_up h 112 (.inr (6, (modF s).set 0 (.int (I z))))) (upZ s 0 z) K := ⟨by rw [vu_eq]; simp [modF, upZ], hM.2.mv (vu_ne (by decide))⟩
theorem MD.s2 {h : hp} {s : Nat → Int} {K : Nat → Nat} (hM : MD h s K) {z : Int} : MD (va_up h 112 (.inr (6, (modF s).set 2 (.int (I z))))) (upZ s 2 z) K := ⟨by rw [vu_eq]; simp [modF, upZ], hM.2.mv (vu_ne (by decide))⟩
theorem MD.s3 {h : hp} {s : Nat → Int} {K : Nat → Nat} (hM : MD h s K) {z : Int} : MD (va_up h 112 (.inr (6, (modF s).set 3 (.int (I z))))) (upZ s 3 z) K := ⟨by rw [vu_eq]; simp [modF, upZ], hM.2.mv (vu_ne (by decide))⟩
theorem MD.s4 {h : hp} {s : Nat → Int} {K : Nat → Nat} (hM : MD h s K) {z : Int} : MD (va_up h 112 (.inr (6, (modF s).set 4 (.int (I z))))) (upZ s 4 z) K := ⟨by rw [vu_eq]; simp [modF, upZ], hM.2.mv (vu_ne (by decide))⟩
theorem MD.s5 {h : hp} {s : Nat → Int} {K : Nat → Nat} (hM : MD h s K) {z : Int} : MD (va_up h 112 (.inr (6, (modF s).set 5 (.int (I z))))) (upZ s 5 z) K := ⟨by rw [vu_eq]; simp [modF, upZ], hM.2.mv (vu_ne (by decide))⟩
theorem MD.s6 {h : hp} {s : Nat → Int} {K : Nat → Nat} (hM : MD h s K) {z : Int} : MD (va_up h 112 (.inr (6, (modF s).set 6 (.int (I z))))) (upZ s 6 z) K := ⟨by rw [vu_eq]; simp [modF, upZ], hM.2.mv (vu_ne (by decide))⟩
theorem MD.s7 {h : hp} {s : Nat → Int} {K : Nat → Nat} (hM : MD h s K) {z : Int} : MD (va_up h 112 (.inr (6, (modF s).set 7 (.int (I z))))) (upZ s 7 z) K := ⟨by rw [vu_eq]; simp [modF, upZ], hM.2.mv (vu_ne (by decide))⟩
theorem MD.s12 {h : hp} {s : Nat → Int} {K : Nat → Nat} (hM : MD h s K) {z : Int} : MD (va_up h 112 (.inr (6, (modF s).set 12 (.int (I z))))) (upZ s 12 z) K := ⟨by rw [vu_eq]; simp [modF, upZ], hM.2.mv (vu_ne (by decide))⟩
theorem MD.s13 {h : hp} {s : Nat → Int} {K : Nat → Nat} (hM : MD h s K) {z : Int} : MD (va_up h 112 (.inr (6, (modF s).set 13 (.int (I z))))) (upZ s 13 z) K := ⟨by rw [vu_eq]; simp [modF, upZ], hM.2.mv (vu_ne (by decide))⟩
theorem MD.s14 {h : hp} {s : Nat → Int} {K : Nat → Nat} (hM : MD h s K) {z : Int} : MD (va_up h 112 (.inr (6, (modF s).set 14 (.int (I z))))) (upZ s 14 z) K := ⟨by rw [vu_eq]; simp [modF, upZ], hM.2.mv (vu_ne (by decide))⟩
theorem MD.s15 {h : hp} {s : Nat → Int} {K : Nat → Nat} (hM : MD h s K) {z : Int} : MD (va_up h 112 (.inr (6, (modF s).set 15 (.int (I z))))) (upZ s 15 z) K := ⟨by rw [vu_eq]; simp [modF, upZ], hM.2.mv (vu_ne (by decide))⟩
/-- while the reference's rows are moved: row k stands for what was in row k, or in row k + 1 -/
def shf (S : Nat → Nat → Int) (i : Nat) : Nat → Nat → Int := fun k => if k + 1 < i then S (k + 1) else S k
end HI
