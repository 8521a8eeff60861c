/-! append -/
def wS (w0 w1 w2 w3 w4 : Int32) (i : Nat) : Int32 := if i = 0 then w0 else if i = 1 then w1 else if i = 2 then w2 else if i = 3 then w3 else w4
def aK (T : Nat → Int) (f : Nat) (w : Nat → Int32) : Nat → (Nat → Int)
  | 0 => T
  | k + 1 => upZ (aK T f w k) (f + k) (wB (w (k / 4)) (k % 4))
theorem aK_p {T : Nat → Int} {f : Nat} {w : Nat → Int32} {i : Nat} : ∀ {j : Nat}, j ≤ 4 → aK T f w (4 * i + j) = pB (aK T f w (4 * i)) (f + 4 * i) (w i) j
  | 0, _ => rfl
  | j + 1, h => by
    show upZ (aK T f w (4 * i + j)) (f + (4 * i + j)) (wB (w ((4 * i + j) / 4)) ((4 * i + j) % 4)) = upZ (pB (aK T f w (4 * i)) (f + 4 * i) (w i) j) (f + 4 * i + j) (wB (w i) j)
    rw [aK_p (j := j) (by omega), show (4 * i + j) / 4 = i by omega, show (4 * i + j) % 4 = j by omega, Nat.add_assoc]
theorem TX.aK {T : Nat → Int} (h : TX T) {f : Nat} {w : Nat → Int32} : ∀ k, TX (aK T f w k)
  | 0 => h
  | k + 1 => fun i hi => by
    show 0 ≤ upZ _ _ _ i ∧ upZ _ _ _ i < 256
    unfold upZ
    split
    · exact bt_rg _
    · exact TX.aK h k i hi
theorem by_4 (x : Int32) : x &&& I 255 = I (bt x) := by
  rw [show I 255 = (255 : Int32) by decide, by_2]
def KO (h : hp) (e : Int) : Prop := h 0 = .inr (5, [.ref 1, .ref 11, .ref 21, .ref 103, .ref 106, .ref 110, .int (I e)])
section AP
variable {NC : Nat} {h : hp} {s r T : Nat → Int} {Q : qt} {w0 w1 w2 w3 w4 : Int32}
theorem sp_append (hN : 132 ≤ NC) {e : Int} (hW : KO h e) (hR0 : RO h r) (hT0 : TR h T) {fl : Nat} (h1 : r 1 = (fl : Int)) (hfl : fl ≤ 580) : Cl NC M_X5_append [.ref 0, .int w0, .int w1, .int w2, .int w3, .int w4] h (fun v h1 => ∃ r1, v = .int (I ((fl : Int) + 20)) ∧ RO h1 r1 ∧ TR h1 (aK T fl (wS w0 w1 w2 w3 w4) 20) ∧ r1 1 = ((fl + 20 : Nat) : Int) ∧ (∀ k, k ≠ 1 → r1 k = r k) ∧ (∀ a, a ≠ 110 → a ≠ 111 → h1 a = h a)) := by
  refine ax_aload_n dX5_append_0 rfl ?_
  refine ax_getf dX5_append_1 ck5 fl_X5_43 (by decide) (by omega) hW rfl ?_
  refine ax_getf dX5_append_4 ck4 fl_X5_51 (by decide) (by omega) hR0 rfl ?_
  rw [h1]
  refine ax_sipush dX5_append_7 (by decide) ?_
  refine ax_icmp_le (tgt := 15) dX5_append_10 (by decide) (by omega) (by omega) (fun c10 => ?_) (fun c10 => ?_)
  · refine ax_aload_n dX5_append_15 rfl ?_
    refine ax_getf dX5_append_16 ck5 fl_X5_43 (by decide) (by omega) hW rfl ?_
    refine ax_iload_n dX5_append_19 rfl ?_
    refine ax_cvv1 dX5_append_20 ln_X5_append_54 (Nat.le_of_ble_eq_true rfl) rfl (by omega) hR0 rfl (sp_putFour hN hR0 hT0 (fl := fl + 0) (by rw [h1]; rfl) (by omega)) (fun g1 hq => ?_)
    obtain ⟨r1, hR1, hT1, q1, k1, y1⟩ := hq
    have hW1 : KO g1 e := (y1 0 (by decide) (by decide)).trans hW
    refine ax_aload_n dX5_append_23 rfl ?_
    refine ax_getf dX5_append_24 ck5 fl_X5_43 (by decide) (by omega) hW1 rfl ?_
    refine ax_iload_n dX5_append_27 rfl ?_
    refine ax_cvv1 dX5_append_28 ln_X5_append_54 (Nat.le_of_ble_eq_true rfl) rfl (by omega) hR1 rfl (sp_putFour hN hR1 hT1 (fl := fl + 4) q1 (by omega)) (fun g2 hq => ?_)
    obtain ⟨r2, hR2, hT2, q2, k2, y2⟩ := hq
    have hW2 : KO g2 e := (y2 0 (by decide) (by decide)).trans hW1
    refine ax_aload_n dX5_append_31 rfl ?_
    refine ax_getf dX5_append_32 ck5 fl_X5_43 (by decide) (by omega) hW2 rfl ?_
    refine ax_iload_n dX5_append_35 rfl ?_
    refine ax_cvv1 dX5_append_36 ln_X5_append_54 (Nat.le_of_ble_eq_true rfl) rfl (by omega) hR2 rfl (sp_putFour hN hR2 hT2 (fl := fl + 8) q2 (by omega)) (fun g3 hq => ?_)
    obtain ⟨r3, hR3, hT3, q3, k3, y3⟩ := hq
    have hW3 : KO g3 e := (y3 0 (by decide) (by decide)).trans hW2
    refine ax_aload_n dX5_append_39 rfl ?_
    refine ax_getf dX5_append_40 ck5 fl_X5_43 (by decide) (by omega) hW3 rfl ?_
    refine ax_iload dX5_append_43 rfl ?_
    refine ax_cvv1 dX5_append_45 ln_X5_append_54 (Nat.le_of_ble_eq_true rfl) rfl (by omega) hR3 rfl (sp_putFour hN hR3 hT3 (fl := fl + 12) q3 (by omega)) (fun g4 hq => ?_)
    obtain ⟨r4, hR4, hT4, q4, k4, y4⟩ := hq
    have hW4 : KO g4 e := (y4 0 (by decide) (by decide)).trans hW3
    refine ax_aload_n dX5_append_48 rfl ?_
    refine ax_getf dX5_append_49 ck5 fl_X5_43 (by decide) (by omega) hW4 rfl ?_
    refine ax_iload dX5_append_52 rfl ?_
    refine ax_cvv1 dX5_append_54 ln_X5_append_54 (Nat.le_of_ble_eq_true rfl) rfl (by omega) hR4 rfl (sp_putFour hN hR4 hT4 (fl := fl + 16) q4 (by omega)) (fun g5 hq => ?_)
    obtain ⟨r5, hR5, hT5, q5, k5, y5⟩ := hq
    have hW5 : KO g5 e := (y5 0 (by decide) (by decide)).trans hW4
    refine ax_aload_n dX5_append_57 rfl ?_
    refine ax_getf dX5_append_58 ck5 fl_X5_43 (by decide) (by omega) hW5 rfl ?_
    refine ax_getf dX5_append_61 ck4 fl_X5_51 (by decide) (by omega) hR5 rfl ?_
    rw [q5]
    have eT : aK T fl (wS w0 w1 w2 w3 w4) 20 = pB (pB (pB (pB (pB T (fl + 0) w0 4) (fl + 4) w1 4) (fl + 8) w2 4) (fl + 12) w3 4) (fl + 16) w4 4 := by
      rw [show (20 : Nat) = 4 * 4 + 4 from rfl, aK_p (by decide), show 4 * 4 = 4 * 3 + 4 from rfl, aK_p (by decide), show 4 * 3 = 4 * 2 + 4 from rfl, aK_p (by decide), show 4 * 2 = 4 * 1 + 4 from rfl, aK_p (by decide), show 4 * 1 = 4 * 0 + 4 from rfl, aK_p (by decide)]
      rfl
    exact ax_iret dX5_append_64 rfl ⟨r5, by congr 1, hR5, by rw [eT]; exact hT5, q5, fun k hk => (k5 k hk).trans ((k4 k hk).trans ((k3 k hk).trans ((k2 k hk).trans (k1 k hk)))), fun a a1 a2 => (y5 a a1 a2).trans ((y4 a a1 a2).trans ((y3 a a1 a2).trans ((y2 a a1 a2).trans (y1 a a1 a2))))⟩
  · exfalso
    omega
theorem sp_append0 (hN : 132 ≤ NC) {e : Int} (hW : KO h e) (hR0 : RO h r) {fl : Nat} (h1 : r 1 = (fl : Int)) (hfl : 580 < fl ∧ fl ≤ 600) : Cl NC M_X5_append [.ref 0, .int w0, .int w1, .int w2, .int w3, .int w4] h (fun v h1 => v = .int (I (-1)) ∧ h1 = h) := by
  refine ax_aload_n dX5_append_0 rfl ?_
  refine ax_getf dX5_append_1 ck5 fl_X5_43 (by decide) (by omega) hW rfl ?_
  refine ax_getf dX5_append_4 ck4 fl_X5_51 (by decide) (by omega) hR0 rfl ?_
  rw [h1]
  refine ax_sipush dX5_append_7 (by decide) ?_
  refine ax_icmp_le (tgt := 15) dX5_append_10 (by decide) (by omega) (by omega) (fun c10 => ?_) (fun c10 => ?_)
  · exfalso
    omega
  · refine ax_iconst dX5_append_13 ?_
    exact ax_iret dX5_append_14 rfl ⟨rfl, rfl⟩
theorem a6_76 (hN : 132 ≤ NC) {fl : Nat} (hfl : fl ≤ 580) {k : Nat} (hk : k < 20) {g : hp} {s1 : Nat → Int} (hO : XO g s1) (hB : BT g (aK T fl (wS w0 w1 w2 w3 w4) k)) (h2 : s1 2 = ((fl + k : Nat) : Int)) (hr : ∀ k, k ≠ 2 → s1 k = s k) (hY : ∀ a, a ≠ 112 → a ≠ 113 → g a = h a) {w : Int32} (hw : wS w0 w1 w2 w3 w4 (k / 4) = w) {v7 : Value} (kk : ∀ g s1 v7, XO g s1 → BT g (aK T fl (wS w0 w1 w2 w3 w4) (k + 1)) → s1 2 = ((fl + (k + 1) : Nat) : Int) → (∀ k, k ≠ 2 → s1 k = s k) → (∀ a, a ≠ 112 → a ≠ 113 → g a = h a) → Ex NC none M_X6_append 23 [.ref 112, .int w0, .int w1, .int w2, .int w3, .int w4, .int (I ((k + 1 : Nat) : Int)), v7] [] g Q) : Ex NC none M_X6_append 76 [.ref 112, .int w0, .int w1, .int w2, .int w3, .int w4, .int (I (k : Int)), v7] [.int w] g Q := by
  refine ax_istore dX6_append_76 rfl (by decide) ?_
  refine ax_aload_n dX6_append_78 rfl ?_
  refine ax_getf dX6_append_79 ck6 fl_X6_9 (by decide) (by omega) hO rfl ?_
  refine ax_aload_n dX6_append_82 rfl ?_
  refine ax_getf dX6_append_83 ck6 fl_X6_64 (by decide) (by omega) hO rfl ?_
  rw [h2]
  refine ax_iload dX6_append_86 rfl ?_
  refine ax_bipush dX6_append_88 (by decide) ?_
  refine ax_bipush dX6_append_90 (by decide) ?_
  refine ax_iload dX6_append_92 rfl ?_
  refine ax_iconst dX6_append_94 ?_
  refine ax_irem dX6_append_95 (by omega) (by omega) ?_
  refine ax_imul dX6_append_96 ?_
  refine ax_isub dX6_append_97 ?_
  rw [show 24 - 8 * ((k : Int) % 4) = 24 - 8 * ((k % 4 : Nat) : Int) by omega]
  refine ex_ishr dX6_append_98 ?_
  refine ax_sipush dX6_append_99 (by decide) ?_
  refine ex_iand dX6_append_102 ?_
  rw [by_4]
  refine ax_iasr (j := (fl + k)) dX6_append_103 (by omega) hB (by omega) (by omega) (by decide) (fun e103 he103 => ?_)
  have hB1 : BT (va_up g 113 e103) (aK T fl (wS w0 w1 w2 w3 w4) (k + 1)) := (he103.mv vu_eq).cong (fun i hi => by show upZ _ _ _ i = upZ (aK T fl (wS w0 w1 w2 w3 w4) k) (fl + k) (wB (wS w0 w1 w2 w3 w4 (k / 4)) (k % 4)) i; rw [hw]; rfl)
  have hO1 : XO (va_up g 113 e103) s1 := (vu_ne (by decide)).trans hO
  have hY1 : ∀ a, a ≠ 112 → a ≠ 113 → va_up g 113 e103 a = h a := fun a a1 a2 => (vu_ne a2).trans (hY a a1 a2)
  generalize va_up g 113 e103 = g1 at *
  refine ax_aload_n dX6_append_104 rfl ?_
  refine ax_dup dX6_append_105 rfl ?_
  refine ax_getf dX6_append_106 ck6 fl_X6_64 (by decide) (by omega) hO1 rfl ?_
  refine ax_iconst dX6_append_109 ?_
  refine ax_iadd dX6_append_110 ?_
  rw [h2, show ((fl + k : Nat) : Int) + 1 = ((fl + (k + 1) : Nat) : Int) by push_cast; omega]
  refine ax_putf dX6_append_111 ck6 fl_X6_64 (by decide) (by omega) hO1 rfl (Or.inl rfl) (Nat.le_of_ble_eq_true rfl) rfl ?_
  generalize hgg2 : va_up g1 112 _ = g2
  obtain ⟨s2, hO2, es2⟩ : ∃ rr, XO g2 rr ∧ rr = upZ s1 2 ((fl + (k + 1) : Nat) : Int) := ⟨_, by rw [← hgg2]; exact hO1.s2, rfl⟩
  have y2 : ∀ a, a ≠ 112 → g2 a = g1 a := fun a ha => by rw [← hgg2]; exact vu_ne ha
  refine ax_iinc dX6_append_114 rfl rfl (by decide) ?_
  refine ax_goto (tgt := 23) dX6_append_117 (by decide) ?_
  rw [show (k : Int) + 1 = ((k + 1 : Nat) : Int) by push_cast; rfl]; exact kk g2 s2 _ hO2 (hB1.mv (y2 113 (by decide))) (by rw [es2]; rfl) (fun k hk => by rw [es2]; exact (if_neg hk).trans (hr k hk)) (fun a a1 a2 => (y2 a a1).trans (hY1 a a1 a2))
theorem l6_app (hN : 132 ≤ NC) {fl : Nat} (hfl : fl ≤ 580) (kk : ∀ g s1, XO g s1 → BT g (aK T fl (wS w0 w1 w2 w3 w4) 20) → s1 2 = ((fl + 20 : Nat) : Int) → (∀ k, k ≠ 2 → s1 k = s k) → (∀ a, a ≠ 112 → a ≠ 113 → g a = h a) → Q (.int (I ((fl : Int) + 20))) g) : ∀ (f : Nat) (k : Nat) (g : hp) (s1 : Nat → Int) (v7 : Value), k + f = 20 → XO g s1 → BT g (aK T fl (wS w0 w1 w2 w3 w4) k) → s1 2 = ((fl + k : Nat) : Int) → (∀ k, k ≠ 2 → s1 k = s k) → (∀ a, a ≠ 112 → a ≠ 113 → g a = h a) → Ex NC none M_X6_append 23 [.ref 112, .int w0, .int w1, .int w2, .int w3, .int w4, .int (I (k : Int)), v7] [] g Q := by
  intro f
  induction f with
  | zero =>
    intro k g s1 v7 hk hO hB h2 hr hY
    refine ax_iload dX6_append_23 rfl ?_
    refine ax_bipush dX6_append_25 (by decide) ?_
    refine ax_icmp_ge (tgt := 120) dX6_append_27 (by decide) (by omega) (by omega) (fun c27 => ?_) (fun c27 => ?_)
    · have e : k = 20 := by omega
      subst e
      refine ax_aload_n dX6_append_120 rfl ?_
      refine ax_getf dX6_append_121 ck6 fl_X6_64 (by decide) (by omega) hO rfl ?_
      rw [h2, show ((fl + 20 : Nat) : Int) = (fl : Int) + 20 by push_cast; rfl]
      exact ax_iret dX6_append_124 rfl (kk g s1 hO hB h2 hr hY)
    · exfalso
      omega
  | succ f ih =>
    intro k g s1 v7 hk hO hB h2 hr hY
    refine ax_iload dX6_append_23 rfl ?_
    refine ax_bipush dX6_append_25 (by decide) ?_
    refine ax_icmp_ge (tgt := 120) dX6_append_27 (by decide) (by omega) (by omega) (fun c27 => ?_) (fun c27 => ?_)
    · exfalso
      omega
    · refine ax_iload dX6_append_30 rfl ?_
      refine ax_iconst dX6_append_32 ?_
      refine ax_icmp_ge (tgt := 40) dX6_append_33 (by decide) (by omega) (by omega) (fun c33 => ?_) (fun c33 => ?_)
      · refine ax_iload dX6_append_40 rfl ?_
        refine ax_bipush dX6_append_42 (by decide) ?_
        refine ax_icmp_ge (tgt := 51) dX6_append_44 (by decide) (by omega) (by omega) (fun c44 => ?_) (fun c44 => ?_)
        · refine ax_iload dX6_append_51 rfl ?_
          refine ax_bipush dX6_append_53 (by decide) ?_
          refine ax_icmp_ge (tgt := 62) dX6_append_55 (by decide) (by omega) (by omega) (fun c55 => ?_) (fun c55 => ?_)
          · refine ax_iload dX6_append_62 rfl ?_
            refine ax_bipush dX6_append_64 (by decide) ?_
            refine ax_icmp_ge (tgt := 74) dX6_append_66 (by decide) (by omega) (by omega) (fun c66 => ?_) (fun c66 => ?_)
            · refine ax_iload dX6_append_74 rfl ?_
              exact a6_76 hN hfl (by omega) hO hB h2 hr hY (by unfold wS; rw [if_neg (by omega), if_neg (by omega), if_neg (by omega), if_neg (by omega)]) (fun g2 s2 v7 hO2 hB2 h22 hr2 hY2 => ih (k + 1) g2 s2 v7 (by omega) hO2 hB2 h22 hr2 hY2)
            · refine ax_iload dX6_append_69 rfl ?_
              refine ax_goto (tgt := 76) dX6_append_71 (by decide) ?_
              exact a6_76 hN hfl (by omega) hO hB h2 hr hY (by unfold wS; rw [if_neg (by omega), if_neg (by omega), if_neg (by omega), if_pos (by omega)]) (fun g2 s2 v7 hO2 hB2 h22 hr2 hY2 => ih (k + 1) g2 s2 v7 (by omega) hO2 hB2 h22 hr2 hY2)
          · refine ax_iload_n dX6_append_58 rfl ?_
            refine ax_goto (tgt := 76) dX6_append_59 (by decide) ?_
            exact a6_76 hN hfl (by omega) hO hB h2 hr hY (by unfold wS; rw [if_neg (by omega), if_neg (by omega), if_pos (by omega)]) (fun g2 s2 v7 hO2 hB2 h22 hr2 hY2 => ih (k + 1) g2 s2 v7 (by omega) hO2 hB2 h22 hr2 hY2)
        · refine ax_iload_n dX6_append_47 rfl ?_
          refine ax_goto (tgt := 76) dX6_append_48 (by decide) ?_
          exact a6_76 hN hfl (by omega) hO hB h2 hr hY (by unfold wS; rw [if_neg (by omega), if_pos (by omega)]) (fun g2 s2 v7 hO2 hB2 h22 hr2 hY2 => ih (k + 1) g2 s2 v7 (by omega) hO2 hB2 h22 hr2 hY2)
      · refine ax_iload_n dX6_append_36 rfl ?_
        refine ax_goto (tgt := 76) dX6_append_37 (by decide) ?_
        exact a6_76 hN hfl (by omega) hO hB h2 hr hY (by unfold wS; rw [if_pos (by omega)]) (fun g2 s2 v7 hO2 hB2 h22 hr2 hY2 => ih (k + 1) g2 s2 v7 (by omega) hO2 hB2 h22 hr2 hY2)
theorem s6_append (hN : 132 ≤ NC) (hO : XO h s) (hB : BT h T) {fl : Nat} (h2 : s 2 = (fl : Int)) (hfl : fl ≤ 580) : Cl NC M_X6_append [.ref 112, .int w0, .int w1, .int w2, .int w3, .int w4] h (fun v h1 => ∃ s1, v = .int (I ((fl : Int) + 20)) ∧ XO h1 s1 ∧ BT h1 (aK T fl (wS w0 w1 w2 w3 w4) 20) ∧ s1 2 = ((fl + 20 : Nat) : Int) ∧ s1 0 = 0 ∧ (∀ k, k ≠ 0 → k ≠ 2 → s1 k = s k) ∧ (∀ a, a ≠ 112 → a ≠ 113 → h1 a = h a)) := by
  refine ax_aload_n dX6_append_0 rfl ?_
  refine ax_iconst dX6_append_1 ?_
  refine ax_putf dX6_append_2 ck6 fl_X6_51 (by decide) (by omega) hO rfl (Or.inl rfl) (Nat.le_of_ble_eq_true rfl) rfl ?_
  generalize hgg1 : va_up h 112 _ = g1
  obtain ⟨s1, hO1, es1⟩ : ∃ rr, XO g1 rr ∧ rr = upZ s 0 0 := ⟨_, by rw [← hgg1]; exact hO.s0, rfl⟩
  have y1 : Y2 h g1 := fun a ha => by rw [← hgg1]; exact (vu_ne ha)
  have e2 : s1 2 = (fl : Int) := by rw [es1]; exact h2
  refine ax_aload_n dX6_append_5 rfl ?_
  refine ax_getf dX6_append_6 ck6 fl_X6_64 (by decide) (by omega) hO1 rfl ?_
  rw [e2]
  refine ax_bipush dX6_append_9 (by decide) ?_
  refine ax_iadd dX6_append_11 ?_
  refine ax_sipush dX6_append_12 (by decide) ?_
  refine ax_icmp_le (tgt := 20) dX6_append_15 (by decide) (by omega) (by omega) (fun c15 => ?_) (fun c15 => ?_)
  · refine ax_iconst dX6_append_20 ?_
    refine ax_istore dX6_append_21 rfl (by decide) ?_
    refine l6_app (h := h) (s := s1) (T := T) hN hfl (fun g s9 a b c d e => ⟨s9, rfl, a, b, c, by rw [d 0 (by decide), es1]; rfl, fun k k0 k2 => by rw [d k k2, es1]; exact if_neg k0, e⟩) 20 0 g1 s1 _ (by omega) hO1 (hB.mv (y1 113 (by decide))) (by rw [e2]; rfl) (fun _ _ => rfl) (fun a a1 _ => y1 a a1)
  · exfalso
    omega
theorem s6_append0 (hN : 132 ≤ NC) (hO : XO h s) {fl : Nat} (h2 : s 2 = (fl : Int)) (hfl : 580 < fl ∧ fl ≤ 600) : Cl NC M_X6_append [.ref 112, .int w0, .int w1, .int w2, .int w3, .int w4] h (fun v h1 => v = .int (I (-1)) ∧ XO h1 (upZ s 0 0) ∧ Y2 h h1) := by
  refine ax_aload_n dX6_append_0 rfl ?_
  refine ax_iconst dX6_append_1 ?_
  refine ax_putf dX6_append_2 ck6 fl_X6_51 (by decide) (by omega) hO rfl (Or.inl rfl) (Nat.le_of_ble_eq_true rfl) rfl ?_
  generalize hgg1 : va_up h 112 _ = g1
  obtain ⟨s1, hO1, es1⟩ : ∃ rr, XO g1 rr ∧ rr = upZ s 0 0 := ⟨_, by rw [← hgg1]; exact hO.s0, rfl⟩
  have y1 : Y2 h g1 := fun a ha => by rw [← hgg1]; exact (vu_ne ha)
  have e2 : s1 2 = (fl : Int) := by rw [es1]; exact h2
  refine ax_aload_n dX6_append_5 rfl ?_
  refine ax_getf dX6_append_6 ck6 fl_X6_64 (by decide) (by omega) hO1 rfl ?_
  rw [e2]
  refine ax_bipush dX6_append_9 (by decide) ?_
  refine ax_iadd dX6_append_11 ?_
  refine ax_sipush dX6_append_12 (by decide) ?_
  refine ax_icmp_le (tgt := 20) dX6_append_15 (by decide) (by omega) (by omega) (fun c15 => ?_) (fun c15 => ?_)
  · exfalso
    omega
  · refine ax_iconst dX6_append_18 ?_
    exact ax_iret dX6_append_19 rfl ⟨rfl, by rw [← es1]; exact hO1, y1⟩
end AP
