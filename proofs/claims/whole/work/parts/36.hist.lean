/-! the latest changes: the class's ring, the reference's row of rows -/
theorem row.sh {t n : Nat} {e : va_E} {f : Nat → Int} (h : row t e n f) : sh t e n := ⟨f, h⟩
def HO (h : hp) (m d : Nat) : Prop := h 21 = .inr (1, [.ref 22, .int (I (m : Int)), .int (I (d : Int))])
def HR (h : hp) : Prop := ∃ f : Nat → Option Nat, h 22 = .inl (3, 8, .inr (.inr (.inr (.inr f)))) ∧ ∀ k, k < 8 → f k = some (23 + 10 * k)
/-- the class's ring holds the sails H 0 (the newest) .. H (d - 1) -/
def CH (NC : Nat) (h : hp) (H : Nat → Nat → Nat) (d : Nat) : Prop := ∃ m, m < 8 ∧ d ≤ 8 ∧ HO h m d ∧ HR h ∧ (∀ k, k < 8 → ∃ R, SA NC h (23 + 10 * k) R) ∧ (∀ t, t < d → SA NC h (23 + 10 * ((m + 8 - t) % 8)) (H t))
def psh (K : Nat → Nat) (H : Nat → Nat → Nat) : Nat → Nat → Nat := fun t => if t = 0 then K else H (t - 1)
def FrC (h g : hp) : Prop := ∀ a, a < 21 ∨ 103 ≤ a → g a = h a
/-- the reference's row of rows -/
def GR (h : hp) : Prop := ∃ f : Nat → Option Nat, h 117 = .inl (4, 8, .inr (.inr (.inr (.inr f)))) ∧ ∀ k, k < 8 → f k = some (118 + k)
def MH (h : hp) (H : Nat → Nat → Nat) (d : Nat) : Prop := d ≤ 8 ∧ GR h ∧ (∀ k, k < 8 → sh 0 (h (118 + k)) 746) ∧ (∀ t, t < d → row 0 (h (118 + (d - 1 - t))) 746 (fun i => (H t i : Int)))
theorem CH.eq {NC : Nat} {h g : hp} {H : Nat → Nat → Nat} {d : Nat} (hH : CH NC h H d) (e : ∀ a, 21 ≤ a → a < 103 → g a = h a) : CH NC g H d := by
  obtain ⟨m, m8, d8, h1, h2, h3, h4⟩ := hH
  refine ⟨m, m8, d8, (e 21 (by omega) (by omega)).trans h1, ?_, fun k hk => ?_, fun t ht => (h4 t ht).eq (fun a a1 a2 => e a (by omega) (by omega))⟩
  · obtain ⟨f, f1, f2⟩ := h2
    exact ⟨f, (e 22 (by omega) (by omega)).trans f1, f2⟩
  · obtain ⟨R, r⟩ := h3 k hk
    exact ⟨R, r.eq (fun a a1 a2 => e a (by omega) (by omega))⟩
section HI
variable {NC b : Nat} {h : hp} {s : Nat → Int} {K : Nat → Nat} {H : Nat → Nat → Nat} {Q : qt}
theorem sp_keep (hN : 132 ≤ NC) (hb : b + 10 ≤ 21) (hS : SA NC h b K) {d : Nat} (hH : CH NC h H d) : Cl NC M_X1_keep [.ref 21, .ref b] h (fun _ h1 => CH NC h1 (psh K H) (min (d + 1) 8) ∧ FrC h h1) := by
  obtain ⟨m, m8, d8, hO, ⟨f, hf, hf8⟩, h3, h4⟩ := hH
  unfold HO at hO
  refine ax_aload_n dX1_keep_0 rfl ?_
  refine ax_aload_n dX1_keep_1 rfl ?_
  refine ax_getf dX1_keep_2 ck1 fl_X1_18 (by decide) (by omega) hO rfl ?_
  refine ax_iconst dX1_keep_5 ?_
  refine ax_iadd dX1_keep_6 ?_
  refine ax_bipush dX1_keep_7 (by decide) ?_
  refine ax_irem dX1_keep_9 (by omega) (by omega) ?_
  rw [show ((m : Int) + 1) % 8 = (((m + 1) % 8 : Nat) : Int) by omega]
  refine ax_putf dX1_keep_10 ck1 fl_X1_18 (by decide) (by omega) hO rfl (Or.inl rfl) (Nat.le_of_ble_eq_true rfl) rfl ?_
  generalize hg : va_up h 21 _ = g1
  have hO1 : g1 21 = .inr (1, [.ref 22, .int (I (((m + 1) % 8 : Nat) : Int)), .int (I (d : Int))]) := by rw [← hg]; exact vu_eq
  have y1 : ∀ a, a ≠ 21 → g1 a = h a := fun a ha => by rw [← hg]; exact vu_ne ha
  refine ax_aload_n dX1_keep_13 rfl ?_
  refine ax_aload_n dX1_keep_14 rfl ?_
  refine ax_getf dX1_keep_15 ck1 fl_X1_22 (by decide) (by omega) hO1 rfl ?_
  refine ax_iconst dX1_keep_18 ?_
  refine ax_iadd dX1_keep_19 ?_
  refine ax_bipush dX1_keep_20 (by decide) ?_
  refine ex_l_min (by exact dX1_keep_22) (by decide) (show 2 ≤ _ ∧ 50 ≤ _ from ⟨by decide, by decide⟩) (Nat.le_of_ble_eq_true rfl) ?_
  rw [min_I (by omega) (by omega), show min ((d : Int) + 1) 8 = ((min (d + 1) 8 : Nat) : Int) by omega]
  refine ax_putf dX1_keep_25 ck1 fl_X1_22 (by decide) (by omega) hO1 rfl (Or.inl rfl) (Nat.le_of_ble_eq_true rfl) rfl ?_
  generalize hg2 : va_up g1 21 _ = g2
  have hO2 : HO g2 ((m + 1) % 8) (min (d + 1) 8) := by rw [← hg2]; exact vu_eq
  have y2 : ∀ a, a ≠ 21 → g2 a = h a := fun a ha => by rw [← hg2]; exact (vu_ne ha).trans (y1 a ha)
  have hf2 : g2 22 = _ := (y2 22 (by decide)).trans hf
  refine ax_aload_n dX1_keep_28 rfl ?_
  refine ax_getf dX1_keep_29 ck1 fl_X1_11 (by decide) (by omega) hO2 rfl ?_
  refine ax_aload_n dX1_keep_32 rfl ?_
  refine ax_getf dX1_keep_33 ck1 fl_X1_18 (by decide) (by omega) hO2 rfl ?_
  refine ax_aald (j := ((m + 1) % 8)) (q := 23 + 10 * ((m + 1) % 8)) dX1_keep_36 (by omega) hf2 (by omega) (by omega) (by decide) (hf8 _ (by omega)) ?_
  obtain ⟨R, hR⟩ := h3 ((m + 1) % 8) (by omega)
  have hR2 : SA NC g2 (23 + 10 * ((m + 1) % 8)) R := hR.eq (fun a a1 a2 => y2 a (by omega))
  have hS2 : SA NC g2 b K := hS.eq (fun a a1 a2 => y2 a (by omega))
  refine ax_aload_n dX1_keep_37 rfl ?_
  refine ax_cvv1 dX1_keep_38 ln_X1_keep_31 (Nat.le_of_ble_eq_true rfl) rfl hR2.n0 hR2.o rfl (sp_copyFrom hR2 hS2 (by omega)) (fun g3 hq => ?_)
  obtain ⟨hR3, hF3⟩ := hq
  have hF4 : ∀ a, a < 21 ∨ 103 ≤ a → g3 a = h a := fun a ha => (hF3 a (by omega)).trans (y2 a (by omega))
  have mv : ∀ k R, k < 8 → k ≠ (m + 1) % 8 → SA NC h (23 + 10 * k) R → SA NC g3 (23 + 10 * k) R := fun k R hk hn hr => hr.eq (fun a a1 a2 => (hF3 a (by omega)).trans (y2 a (by omega)))
  exact ax_vret dX1_keep_41 rfl ⟨⟨(m + 1) % 8, by omega, by omega, (hF3 21 (by omega)).trans hO2, ⟨f, (hF3 22 (by omega)).trans hf2, hf8⟩, fun k hk => by by_cases q : k = (m + 1) % 8; exact ⟨K, by rw [q]; exact hR3⟩; obtain ⟨R1, r1⟩ := h3 k hk; exact ⟨R1, mv k R1 hk q r1⟩, fun t ht => by unfold psh; by_cases q : t = 0; (rw [if_pos q, q, show ((m + 1) % 8 + 8 - 0) % 8 = (m + 1) % 8 by omega]; exact hR3); rw [if_neg q, show ((m + 1) % 8 + 8 - t) % 8 = (m + 8 - (t - 1)) % 8 by omega]; exact mv _ _ (by omega) (by omega) (h4 (t - 1) (by omega))⟩, hF4⟩
theorem sp_takeBack (hN : 132 ≤ NC) (hb : b + 10 ≤ 21) (hS : SA NC h b K) {d : Nat} (hd : 0 < d) (hH : CH NC h H d) : Cl NC M_X1_takeBack [.ref 21, .ref b] h (fun _ h1 => CH NC h1 (fun t => H (t + 1)) (d - 1) ∧ SA NC h1 b (H 0) ∧ ∀ a, a ≠ 21 → (a < b ∨ b + 10 ≤ a) → h1 a = h a) := by
  obtain ⟨m, m8, d8, hO, ⟨f, hf, hf8⟩, h3, h4⟩ := hH
  unfold HO at hO
  refine ax_aload_n dX1_takeBack_0 rfl ?_
  refine ax_aload_n dX1_takeBack_1 rfl ?_
  refine ax_getf dX1_takeBack_2 ck1 fl_X1_11 (by decide) (by omega) hO rfl ?_
  refine ax_aload_n dX1_takeBack_5 rfl ?_
  refine ax_getf dX1_takeBack_6 ck1 fl_X1_18 (by decide) (by omega) hO rfl ?_
  refine ax_aald (j := m) (q := 23 + 10 * m) dX1_takeBack_9 (by omega) hf (by omega) (by omega) (by decide) (hf8 _ (by omega)) ?_
  have hR := h4 0 (by omega)
  rw [show (m + 8 - 0) % 8 = m by omega] at hR
  refine ax_cvv1 dX1_takeBack_10 ln_X1_takeBack_31 (Nat.le_of_ble_eq_true rfl) rfl hS.n0 hS.o rfl (sp_copyFrom hS hR (by omega)) (fun g1 hq => ?_)
  obtain ⟨hS1, hF1⟩ := hq
  have hO1 : g1 21 = _ := (hF1 21 (by omega)).trans hO
  refine ax_aload_n dX1_takeBack_13 rfl ?_
  refine ax_aload_n dX1_takeBack_14 rfl ?_
  refine ax_getf dX1_takeBack_15 ck1 fl_X1_18 (by decide) (by omega) hO1 rfl ?_
  refine ax_bipush dX1_takeBack_18 (by decide) ?_
  refine ax_iadd dX1_takeBack_20 ?_
  refine ax_iconst dX1_takeBack_21 ?_
  refine ax_isub dX1_takeBack_22 ?_
  refine ax_bipush dX1_takeBack_23 (by decide) ?_
  refine ax_irem dX1_takeBack_25 (by omega) (by omega) ?_
  rw [show ((m : Int) + 8 - 1) % 8 = (((m + 7) % 8 : Nat) : Int) by omega]
  refine ax_putf dX1_takeBack_26 ck1 fl_X1_18 (by decide) (by omega) hO1 rfl (Or.inl rfl) (Nat.le_of_ble_eq_true rfl) rfl ?_
  generalize hg : va_up g1 21 _ = g2
  have hO2 : g2 21 = .inr (1, [.ref 22, .int (I (((m + 7) % 8 : Nat) : Int)), .int (I (d : Int))]) := by rw [← hg]; exact vu_eq
  have y2 : ∀ a, a ≠ 21 → g2 a = g1 a := fun a ha => by rw [← hg]; exact vu_ne ha
  refine ax_aload_n dX1_takeBack_29 rfl ?_
  refine ax_dup dX1_takeBack_30 rfl ?_
  refine ax_getf dX1_takeBack_31 ck1 fl_X1_22 (by decide) (by omega) hO2 rfl ?_
  refine ax_iconst dX1_takeBack_34 ?_
  refine ax_isub dX1_takeBack_35 ?_
  rw [show (d : Int) - 1 = ((d - 1 : Nat) : Int) by omega]
  refine ax_putf dX1_takeBack_36 ck1 fl_X1_22 (by decide) (by omega) hO2 rfl (Or.inl rfl) (Nat.le_of_ble_eq_true rfl) rfl ?_
  generalize hg3 : va_up g2 21 _ = g3
  have hO3 : HO g3 ((m + 7) % 8) (d - 1) := by rw [← hg3]; exact vu_eq
  have y3 : ∀ a, a ≠ 21 → g3 a = g1 a := fun a ha => by rw [← hg3]; exact (vu_ne ha).trans (y2 a ha)
  have mv : ∀ k R, k < 8 → SA NC h (23 + 10 * k) R → SA NC g3 (23 + 10 * k) R := fun k R hk hr => hr.eq (fun a a1 a2 => (y3 a (by omega)).trans (hF1 a (by omega)))
  exact ax_vret dX1_takeBack_39 rfl ⟨⟨(m + 7) % 8, by omega, by omega, hO3, ⟨f, (y3 22 (by decide)).trans ((hF1 22 (by omega)).trans hf), hf8⟩, fun k hk => by obtain ⟨R1, r1⟩ := h3 k hk; exact ⟨R1, mv k R1 hk r1⟩, fun t ht => by rw [show ((m + 7) % 8 + 8 - t) % 8 = (m + 8 - (t + 1)) % 8 by omega]; exact mv _ _ (by omega) (h4 (t + 1) (by omega))⟩, hS1.eq (fun a a1 a2 => y3 a (by omega)), fun a ha hb2 => (y3 a ha).trans (hF1 a hb2)⟩
theorem l6_copy {a c : Nat} (ha : a < NC) (hc : c < NC) (hac : a ≠ c) {F G0 : Nat → Int} (kk : ∀ (g : hp), row 0 (g c) 746 F → EqX [c] h g → Ex NC none M_X6_copy 21 [.ref a, .ref c, .int (I 746)] [] g Q) : ∀ (n : Nat) (i : Nat) (g : hp), i + n = 746 → row 0 (g a) 746 F → row 0 (g c) 746 (fun j => if j < i then F j else G0 j) → EqX [c] h g → Ex NC none M_X6_copy 2 [.ref a, .ref c, .int (I (i : Int))] [] g Q := by
  intro n
  induction n with
  | zero =>
    intro i g hi hA hC hX
    refine ax_iload_n dX6_copy_2 rfl ?_
    refine ax_sipush dX6_copy_3 (by decide) ?_
    refine ax_icmp_ge (tgt := 21) dX6_copy_6 (by decide) (by omega) (by omega) (fun c6 => ?_) (fun c6 => ?_)
    · have e : i = 746 := by omega
      subst e
      exact kk g (hC.cong (fun j hj => if_pos hj)) hX
    · exfalso
      omega
  | succ n ih =>
    intro i g hi hA hC hX
    refine ax_iload_n dX6_copy_2 rfl ?_
    refine ax_sipush dX6_copy_3 (by decide) ?_
    refine ax_icmp_ge (tgt := 21) dX6_copy_6 (by decide) (by omega) (by omega) (fun c6 => ?_) (fun c6 => ?_)
    · exfalso
      omega
    · refine ax_aload_n dX6_copy_9 rfl ?_
      refine ax_iload_n dX6_copy_10 rfl ?_
      refine ax_aload_n dX6_copy_11 rfl ?_
      refine ax_iload_n dX6_copy_12 rfl ?_
      refine ax_ialr (j := i) (w := (F i : Int)) dX6_copy_13 ha hA (by omega) (by omega) (by decide) rfl ?_
      refine ax_iasr (j := i) dX6_copy_14 hc hC (by omega) (by omega) (by decide) (fun e14 he14 => ?_)
      have hA1 : row 0 (va_up g c e14 a) 746 F := hA.mv (vu_ne hac)
      have hC1 : row 0 (va_up g c e14 c) 746 (fun j => if j < i + 1 then F j else G0 j) := (he14.mv vu_eq).cong (fun j hj => by simp only [upZ]; by_cases q : j = i; (rw [if_pos q, if_pos (by omega), q]); rw [if_neg q]; by_cases q2 : j < i; (rw [if_pos q2, if_pos (by omega)]); rw [if_neg q2, if_neg (by omega)])
      refine ax_iinc dX6_copy_15 rfl rfl (by decide) ?_
      refine ax_goto (tgt := 2) dX6_copy_18 (by decide) ?_
      exact ih (i + 1) _ (by omega) hA1 hC1 (hX.up (by simp))
theorem s6_copy {a c : Nat} (ha : a < NC) (hc : c < NC) (hac : a ≠ c) {F : Nat → Int} (hA : row 0 (h a) 746 F) (sC : sh 0 (h c) 746) : Cl NC M_X6_copy [.ref a, .ref c] h (fun v h1 => row 0 (h1 c) 746 F ∧ EqX [c] h h1) := by
  obtain ⟨G0, hG⟩ := sC
  refine ax_iconst dX6_copy_0 ?_
  refine ax_istore_n dX6_copy_1 rfl (by decide) ?_
  refine l6_copy (h := h) (F := F) (G0 := G0) ha hc hac (fun g hC hX => ?_) 746 0 h (by omega) hA (hG.cong (fun j hj => (if_neg (by omega)).symm)) EqX.rf
  exact ax_vret dX6_copy_21 rfl ⟨hC, hX⟩
theorem MD.s0 {h : hp} {s : Nat → Int} {K : Nat → Nat} (hM : MD h s K) {z : Int} : MD (va_up h 112 (.inr (6, (modF s).set 0 (.int (I z))))) (upZ s 0 z) K := ⟨by rw [vu_eq]; simp [modF, upZ], hM.2.mv (vu_ne (by decide))⟩
theorem MD.s2 {h : hp} {s : Nat → Int} {K : Nat → Nat} (hM : MD h s K) {z : Int} : MD (va_up h 112 (.inr (6, (modF s).set 2 (.int (I z))))) (upZ s 2 z) K := ⟨by rw [vu_eq]; simp [modF, upZ], hM.2.mv (vu_ne (by decide))⟩
theorem MD.s3 {h : hp} {s : Nat → Int} {K : Nat → Nat} (hM : MD h s K) {z : Int} : MD (va_up h 112 (.inr (6, (modF s).set 3 (.int (I z))))) (upZ s 3 z) K := ⟨by rw [vu_eq]; simp [modF, upZ], hM.2.mv (vu_ne (by decide))⟩
theorem MD.s4 {h : hp} {s : Nat → Int} {K : Nat → Nat} (hM : MD h s K) {z : Int} : MD (va_up h 112 (.inr (6, (modF s).set 4 (.int (I z))))) (upZ s 4 z) K := ⟨by rw [vu_eq]; simp [modF, upZ], hM.2.mv (vu_ne (by decide))⟩
theorem MD.s5 {h : hp} {s : Nat → Int} {K : Nat → Nat} (hM : MD h s K) {z : Int} : MD (va_up h 112 (.inr (6, (modF s).set 5 (.int (I z))))) (upZ s 5 z) K := ⟨by rw [vu_eq]; simp [modF, upZ], hM.2.mv (vu_ne (by decide))⟩
theorem MD.s6 {h : hp} {s : Nat → Int} {K : Nat → Nat} (hM : MD h s K) {z : Int} : MD (va_up h 112 (.inr (6, (modF s).set 6 (.int (I z))))) (upZ s 6 z) K := ⟨by rw [vu_eq]; simp [modF, upZ], hM.2.mv (vu_ne (by decide))⟩
theorem MD.s7 {h : hp} {s : Nat → Int} {K : Nat → Nat} (hM : MD h s K) {z : Int} : MD (va_up h 112 (.inr (6, (modF s).set 7 (.int (I z))))) (upZ s 7 z) K := ⟨by rw [vu_eq]; simp [modF, upZ], hM.2.mv (vu_ne (by decide))⟩
theorem MD.s12 {h : hp} {s : Nat → Int} {K : Nat → Nat} (hM : MD h s K) {z : Int} : MD (va_up h 112 (.inr (6, (modF s).set 12 (.int (I z))))) (upZ s 12 z) K := ⟨by rw [vu_eq]; simp [modF, upZ], hM.2.mv (vu_ne (by decide))⟩
theorem MD.s13 {h : hp} {s : Nat → Int} {K : Nat → Nat} (hM : MD h s K) {z : Int} : MD (va_up h 112 (.inr (6, (modF s).set 13 (.int (I z))))) (upZ s 13 z) K := ⟨by rw [vu_eq]; simp [modF, upZ], hM.2.mv (vu_ne (by decide))⟩
theorem MD.s14 {h : hp} {s : Nat → Int} {K : Nat → Nat} (hM : MD h s K) {z : Int} : MD (va_up h 112 (.inr (6, (modF s).set 14 (.int (I z))))) (upZ s 14 z) K := ⟨by rw [vu_eq]; simp [modF, upZ], hM.2.mv (vu_ne (by decide))⟩
theorem MD.s15 {h : hp} {s : Nat → Int} {K : Nat → Nat} (hM : MD h s K) {z : Int} : MD (va_up h 112 (.inr (6, (modF s).set 15 (.int (I z))))) (upZ s 15 z) K := ⟨by rw [vu_eq]; simp [modF, upZ], hM.2.mv (vu_ne (by decide))⟩
/-- while the reference's rows are moved: row k stands for what was in row k, or in row k + 1 -/
def shf (S : Nat → Nat → Int) (i : Nat) : Nat → Nat → Int := fun k => if k + 1 < i then S (k + 1) else S k
theorem l6_rem (hN : 132 ≤ NC) {S : Nat → Nat → Int} (kk : ∀ g : hp, MD g s K → GR g → (∀ k, k < 8 → row 0 (g (118 + k)) 746 (shf S 8 k)) → EqX [118, 119, 120, 121, 122, 123, 124, 125] h g → Ex NC none M_X6_remember 40 [.ref 112, .int (I (8 : Int))] [] g Q) : ∀ (n : Nat) (i : Nat) (g : hp), i + n = 8 → 1 ≤ i → MD g s K → GR g → (∀ k, k < 8 → row 0 (g (118 + k)) 746 (shf S i k)) → EqX [118, 119, 120, 121, 122, 123, 124, 125] h g → Ex NC none M_X6_remember 11 [.ref 112, .int (I (i : Int))] [] g Q := by
  intro n
  induction n with
  | zero =>
    intro i g hi hi1 hM hG hR hX
    obtain ⟨f, hf, hf8⟩ := hG
    have hG : GR g := ⟨f, hf, hf8⟩
    refine ax_iload_n dX6_remember_11 rfl ?_
    refine ax_bipush dX6_remember_12 (by decide) ?_
    refine ax_icmp_ge (tgt := 40) dX6_remember_14 (by decide) (by omega) (by omega) (fun c14 => ?_) (fun c14 => ?_)
    · have e : i = 8 := by omega
      subst e
      exact kk g hM hG hR hX
    · exfalso
      omega
  | succ n ih =>
    intro i g hi hi1 hM hG hR hX
    obtain ⟨f, hf, hf8⟩ := hG
    have hG : GR g := ⟨f, hf, hf8⟩
    refine ax_iload_n dX6_remember_11 rfl ?_
    refine ax_bipush dX6_remember_12 (by decide) ?_
    refine ax_icmp_ge (tgt := 40) dX6_remember_14 (by decide) (by omega) (by omega) (fun c14 => ?_) (fun c14 => ?_)
    · exfalso
      omega
    · refine ax_aload_n dX6_remember_17 rfl ?_
      refine ax_getf dX6_remember_18 ck6 fl_X6_28 (by decide) (by omega) hM.1 rfl ?_
      refine ax_iload_n dX6_remember_21 rfl ?_
      refine ax_aalg (j := i) (q := 118 + i) dX6_remember_22 (by omega) hf (by omega) (by omega) (by decide) (hf8 i (by omega)) ?_
      refine ax_aload_n dX6_remember_23 rfl ?_
      refine ax_getf dX6_remember_24 ck6 fl_X6_28 (by decide) (by omega) hM.1 rfl ?_
      refine ax_iload_n dX6_remember_27 rfl ?_
      refine ax_iconst dX6_remember_28 ?_
      refine ax_isub dX6_remember_29 ?_
      refine ax_aalg (j := (i - 1)) (q := 118 + (i - 1)) dX6_remember_30 (by omega) hf (by omega) (by omega) (by decide) (hf8 (i - 1) (by omega)) ?_
      refine ax_csv2 dX6_remember_31 ln_X6_remember_185 (Nat.le_of_ble_eq_true rfl) rfl (s6_copy (F := S i) (by omega) (by omega) (by omega) (by have := hR i (by omega); unfold shf at this; rw [if_neg (by omega)] at this; exact this) (hR (i - 1) (by omega)).sh) (fun g1 hq => ?_)
      obtain ⟨hC, hX1⟩ := hq
      have y1 : ∀ a, a ≠ 118 + (i - 1) → g1 a = g a := fun a ha => hX1 a (by simp; omega)
      refine ax_iinc dX6_remember_34 rfl rfl (by decide) ?_
      refine ax_goto (tgt := 11) dX6_remember_37 (by decide) ?_
      exact ih (i + 1) g1 (by omega) (by omega) (hM.eq (y1 _ (by omega)) (y1 _ (by omega))) ⟨f, (y1 _ (by omega)).trans hf, hf8⟩ (fun k hk => by unfold shf; by_cases q : k = i - 1; (rw [if_pos (by omega), q, show i - 1 + 1 = i by omega]; exact hC); (have z := (hR k hk).mv (y1 (118 + k) (by omega)); unfold shf at z; by_cases q2 : k + 1 < i; (rw [if_pos (by omega)]; rw [if_pos q2] at z; exact z); rw [if_neg (by omega)]; rw [if_neg q2] at z; exact z)) (hX.tr (fun a ha => y1 a (by simp at ha; omega)))
theorem rem_end (hN : 132 ≤ NC) {d1 : Nat} (hd : d1 < 8) {s1 : Nat → Int} {w1 : Value} (hM : MD h s1 K) (hs : s1 12 = (d1 : Int)) (hG : GR h) (hR : ∀ k, k < 8 → sh 0 (h (118 + k)) 746) (kk : ∀ g, MD g (upZ s1 12 ((d1 + 1 : Nat) : Int)) K → row 0 (g (118 + d1)) 746 (fun i => (K i : Int)) → (∀ a, a ≠ 112 → a ≠ 118 + d1 → g a = h a) → Q .null g) : Ex NC none M_X6_remember 50 [.ref 112, w1] [] h Q := by
  obtain ⟨f, hf, hf8⟩ := hG
  refine ax_aload_n dX6_remember_50 rfl ?_
  refine ax_getf dX6_remember_51 ck6 fl_X6_17 (by decide) (by omega) hM.1 rfl ?_
  refine ax_aload_n dX6_remember_54 rfl ?_
  refine ax_getf dX6_remember_55 ck6 fl_X6_28 (by decide) (by omega) hM.1 rfl ?_
  refine ax_aload_n dX6_remember_58 rfl ?_
  refine ax_getf dX6_remember_59 ck6 fl_X6_292 (by decide) (by omega) hM.1 rfl ?_
  rw [hs]
  refine ax_aalg (j := d1) (q := 118 + d1) dX6_remember_62 (by omega) hf (by omega) (by omega) (by decide) (hf8 d1 (by omega)) ?_
  refine ax_csv2 dX6_remember_63 ln_X6_remember_185 (Nat.le_of_ble_eq_true rfl) rfl (s6_copy (F := fun i => (K i : Int)) (by omega) (by omega) (by omega) hM.2 (hR d1 (by omega))) (fun g1 hq => ?_)
  obtain ⟨hC, hX1⟩ := hq
  have y1 : ∀ a, a ≠ 118 + d1 → g1 a = h a := fun a ha => hX1 a (by simp; omega)
  have hM1 : MD g1 s1 K := hM.eq (y1 _ (by omega)) (y1 _ (by omega))
  refine ax_aload_n dX6_remember_66 rfl ?_
  refine ax_dup dX6_remember_67 rfl ?_
  refine ax_getf dX6_remember_68 ck6 fl_X6_292 (by decide) (by omega) hM1.1 rfl ?_
  refine ax_iconst dX6_remember_71 ?_
  refine ax_iadd dX6_remember_72 ?_
  rw [hs, show (d1 : Int) + 1 = ((d1 + 1 : Nat) : Int) by omega]
  refine ax_putf dX6_remember_73 ck6 fl_X6_292 (by decide) (by omega) hM1.1 rfl (Or.inl rfl) (Nat.le_of_ble_eq_true rfl) rfl ?_
  exact ax_vret dX6_remember_76 rfl (kk _ hM1.s12 (hC.mv (vu_ne (by omega))) (fun a a1 a2 => (vu_ne a1).trans (y1 a a2)))
theorem s6_remember (hN : 132 ≤ NC) (hM : MD h s K) {d : Nat} (hs : s 12 = (d : Int)) (hH : MH h H d) : Cl NC M_X6_remember [.ref 112] h (fun _ h1 => MD h1 (upZ s 12 ((min (d + 1) 8 : Nat) : Int)) K ∧ MH h1 (psh K H) (min (d + 1) 8) ∧ EqX [112, 118, 119, 120, 121, 122, 123, 124, 125] h h1) := by
  obtain ⟨d8, ⟨f, hf, hf8⟩, hSh, h4⟩ := hH
  have hG : GR h := ⟨f, hf, hf8⟩
  refine ax_aload_n dX6_remember_0 rfl ?_
  refine ax_getf dX6_remember_1 ck6 fl_X6_292 (by decide) (by omega) hM.1 rfl ?_
  refine ax_bipush dX6_remember_4 (by decide) ?_
  rw [hs]
  refine ax_icmp_ne (tgt := 50) dX6_remember_6 (by decide) (by omega) (by omega) (fun c6 => ?_) (fun c6 => ?_)
  · have d8 : d < 8 := by omega
    refine rem_end (h := h) hN (d1 := d) d8 hM hs hG hSh (fun g hM1 hC y => ⟨by rw [show min (d + 1) 8 = d + 1 by omega]; exact hM1, ⟨by omega, ⟨f, (y _ (by omega) (by omega)).trans hf, hf8⟩, fun k hk => ?_, fun t ht => ?_⟩, fun a ha => y a (by simp at ha; omega) (by simp at ha; omega)⟩)
    · by_cases q : k = d
      · rw [q]; exact hC.sh
      · exact (hSh k hk).mv (y _ (by omega) (by omega))
    · unfold psh
      by_cases q : t = 0
      · rw [if_pos q, show min (d + 1) 8 - 1 - t = d by omega]; exact hC
      · rw [if_neg q, show min (d + 1) 8 - 1 - t = d - 1 - (t - 1) by omega]; exact (h4 (t - 1) (by omega)).mv (y _ (by omega) (by omega))
  · have d8 : d = 8 := by omega
    subst d8
    refine ax_iconst dX6_remember_9 ?_
    refine ax_istore_n dX6_remember_10 rfl (by decide) ?_
    have hSt : ∀ k, ∃ S : Nat → Int, k < 8 → row 0 (h (118 + k)) 746 S := fun k => by by_cases q : k < 8; (obtain ⟨S, z⟩ := hSh k q; exact ⟨S, fun _ => z⟩); exact ⟨fun _ => 0, fun z => absurd z q⟩
    let S : Nat → Nat → Int := fun k => if k < 8 then (fun i => (H (7 - k) i : Int)) else fun _ => 0
    refine l6_rem (h := h) (s := s) (K := K) hN (S := S) (fun g hM1 hG1 hR1 hX1 => ?_) 7 1 h (by omega) (by omega) hM hG (fun k hk => by unfold shf; rw [if_neg (by omega)]; show row 0 _ 746 (if k < 8 then (fun i => (H (7 - k) i : Int)) else fun _ => 0); rw [if_pos hk]; have z := h4 (7 - k) (by omega); rw [show 8 - 1 - (7 - k) = k by omega] at z; exact z) EqX.rf
    refine ax_aload_n dX6_remember_40 rfl ?_
    refine ax_dup dX6_remember_41 rfl ?_
    refine ax_getf dX6_remember_42 ck6 fl_X6_292 (by decide) (by omega) hM1.1 rfl ?_
    refine ax_iconst dX6_remember_45 ?_
    refine ax_isub dX6_remember_46 ?_
    rw [hs, show ((8 : Nat) : Int) - 1 = ((7 : Nat) : Int) by decide]
    refine ax_putf dX6_remember_47 ck6 fl_X6_292 (by decide) (by omega) hM1.1 rfl (Or.inl rfl) (Nat.le_of_ble_eq_true rfl) rfl ?_
    refine rem_end hN (d1 := 7) (by omega) hM1.s12 (by unfold upZ; rfl) ?_ (fun k hk => (hR1 k hk).sh.mv (vu_ne (by omega))) (fun g2 hM2 hC y => ⟨by rw [show upZ s 12 ((min (8 + 1) 8 : Nat) : Int) = upZ (upZ s 12 7) 12 ((7 + 1 : Nat) : Int) from funext fun j => by unfold upZ; by_cases q : j = 12; (rw [if_pos q, if_pos q]; rfl); rw [if_neg q, if_neg q, if_neg q]]; exact hM2, ⟨by omega, ?_, fun k hk => ?_, fun t ht => ?_⟩, fun a ha => (y a (by simp at ha; omega) (by simp at ha; omega)).trans ((vu_ne (by simp at ha; omega)).trans (hX1 a (by simp at ha; simp; omega)))⟩)
    · obtain ⟨f1, z1, z2⟩ := hG1
      exact ⟨f1, (vu_ne (by decide)).trans z1, z2⟩
    · obtain ⟨f1, z1, z2⟩ := hG1
      exact ⟨f1, (y _ (by decide) (by decide)).trans ((vu_ne (by decide)).trans z1), z2⟩
    · by_cases q : k = 7
      · rw [q]; exact hC.sh
      · exact ((hR1 k hk).sh.mv (vu_ne (by omega))).mv (y _ (by omega) (by omega))
    · unfold psh
      by_cases q : t = 0
      · rw [if_pos q, q]; exact hC
      · have z := hR1 (7 - t) (by omega)
        unfold shf at z
        rw [if_pos (by omega)] at z
        have z2 : row 0 (g (118 + (7 - t))) 746 (if 7 - t + 1 < 8 then (fun i => (H (7 - (7 - t + 1)) i : Int)) else fun _ => 0) := z
        rw [if_pos (by omega), show 7 - (7 - t + 1) = t - 1 by omega] at z2
        rw [if_neg q, show min (8 + 1) 8 - 1 - t = 7 - t by omega]
        exact (z2.mv (vu_ne (by omega))).mv (y _ (by omega) (by omega))
end HI
