/-! append -/
def wS (w0 w1 w2 w3 w4 : Int32) (i : Nat) : Int32 := if i = 0 then w0 else if i = 1 then w1 else if i = 2 then w2 else if i = 3 then w3 else w4
def aK (T : Nat → Int) (f : Nat) (w : Nat → Int32) : Nat → (Nat → Int)
  | 0 => T
  | k + 1 => upZ (aK T f w k) (f + k) (wB (w (k / 4)) (k % 4))
theorem aK_p {T : Nat → Int} {f : Nat} {w : Nat → Int32} {i : Nat} : ∀ {j : Nat}, j ≤ 4 → aK T f w (4 * i + j) = pB (aK T f w (4 * i)) (f + 4 * i) (w i) j
  | 0, _ => rfl
  | j + 1, h => by
    show upZ (aK T f w (4 * i + j)) (f + (4 * i + j)) (wB (w ((4 * i + j) / 4)) ((4 * i + j) % 4)) = upZ (pB (aK T f w (4 * i)) (f + 4 * i) (w i) j) (f + 4 * i + j) (wB (w i) j)
    rw [aK_p (j := j) (by omega), show (4 * i + j) / 4 = i by omega, show (4 * i + j) % 4 = j by omega, Nat.add_assoc]
theorem TX.aK {T : Nat → Int} (h : TX T) {f : Nat} {w : Nat → Int32} : ∀ k, TX (aK T f w k)
  | 0 => h
  | k + 1 => fun i hi => by
    show 0 ≤ upZ _ _ _ i ∧ upZ _ _ _ i < 256
    unfold upZ
    split
    · exact bt_rg _
    · exact TX.aK h k i hi
theorem by_4 (x : Int32) : x &&& I 255 = I (bt x) := by
  rw [show I 255 = (255 : Int32) by decide, by_2]
def KO (h : hp) (e : Int) : Prop := h 0 = .inr (5, [.ref 1, .ref 11, .ref 21, .ref 103, .ref 106, .ref 110, .int (I e)])
section AP
variable {NC : Nat} {h : hp} {s r T : Nat → Int} {Q : qt} {w0 w1 w2 w3 w4 : Int32}
theorem sp_append (hN : 112 ≤ NC) {e : Int} (hW : KO h e) (hR0 : RO h r) (hT0 : TR h T) {fl : Nat} (h1 : r 1 = (fl : Int)) (hfl : fl ≤ 580) : Cl NC M_X5_append [.ref 0, .int w0, .int w1, .int w2, .int w3, .int w4] h (fun v h1 => ∃ r1, v = .int (I ((fl : Int) + 20)) ∧ RO h1 r1 ∧ TR h1 (aK T fl (wS w0 w1 w2 w3 w4) 20) ∧ r1 1 = ((fl + 20 : Nat) : Int) ∧ (∀ k, k ≠ 1 → r1 k = r k) ∧ (∀ a, a ≠ 110 → a ≠ 111 → h1 a = h a)) := by
  refine ax_aload_n dX5_append_0 rfl ?_
  refine ax_getf dX5_append_1 ck5 fl_X5_43 (by decide) (by omega) hW rfl ?_
  refine ax_getf dX5_append_4 ck4 fl_X5_51 (by decide) (by omega) hR0 rfl ?_
  rw [h1]
  refine ax_sipush dX5_append_7 (by decide) ?_
  refine ax_icmp_le (tgt := 15) dX5_append_10 (by decide) (by omega) (by omega) (fun c10 => ?_) (fun c10 => ?_)
  · refine ax_aload_n dX5_append_15 rfl ?_
    refine ax_getf dX5_append_16 ck5 fl_X5_43 (by decide) (by omega) hW rfl ?_
    refine ax_iload_n dX5_append_19 rfl ?_
    refine ax_cvv1 dX5_append_20 ln_X5_append_54 (Nat.le_of_ble_eq_true rfl) rfl (by omega) hR0 rfl (sp_putFour hN hR0 hT0 (fl := fl + 0) (by rw [h1]; rfl) (by omega)) (fun g1 hq => ?_)
    obtain ⟨r1, hR1, hT1, q1, k1, y1⟩ := hq
    have hW1 : KO g1 e := (y1 0 (by decide) (by decide)).trans hW
    refine ax_aload_n dX5_append_23 rfl ?_
    refine ax_getf dX5_append_24 ck5 fl_X5_43 (by decide) (by omega) hW1 rfl ?_
    refine ax_iload_n dX5_append_27 rfl ?_
    refine ax_cvv1 dX5_append_28 ln_X5_append_54 (Nat.le_of_ble_eq_true rfl) rfl (by omega) hR1 rfl (sp_putFour hN hR1 hT1 (fl := fl + 4) q1 (by omega)) (fun g2 hq => ?_)
    obtain ⟨r2, hR2, hT2, q2, k2, y2⟩ := hq
    have hW2 : KO g2 e := (y2 0 (by decide) (by decide)).trans hW1
    refine ax_aload_n dX5_append_31 rfl ?_
    refine ax_getf dX5_append_32 ck5 fl_X5_43 (by decide) (by omega) hW2 rfl ?_
    refine ax_iload_n dX5_append_35 rfl ?_
    refine ax_cvv1 dX5_append_36 ln_X5_append_54 (Nat.le_of_ble_eq_true rfl) rfl (by omega) hR2 rfl (sp_putFour hN hR2 hT2 (fl := fl + 8) q2 (by omega)) (fun g3 hq => ?_)
    obtain ⟨r3, hR3, hT3, q3, k3, y3⟩ := hq
    have hW3 : KO g3 e := (y3 0 (by decide) (by decide)).trans hW2
    refine ax_aload_n dX5_append_39 rfl ?_
    refine ax_getf dX5_append_40 ck5 fl_X5_43 (by decide) (by omega) hW3 rfl ?_
    refine ax_iload dX5_append_43 rfl ?_
    refine ax_cvv1 dX5_append_45 ln_X5_append_54 (Nat.le_of_ble_eq_true rfl) rfl (by omega) hR3 rfl (sp_putFour hN hR3 hT3 (fl := fl + 12) q3 (by omega)) (fun g4 hq => ?_)
    obtain ⟨r4, hR4, hT4, q4, k4, y4⟩ := hq
    have hW4 : KO g4 e := (y4 0 (by decide) (by decide)).trans hW3
    refine ax_aload_n dX5_append_48 rfl ?_
    refine ax_getf dX5_append_49 ck5 fl_X5_43 (by decide) (by omega) hW4 rfl ?_
    refine ax_iload dX5_append_52 rfl ?_
    refine ax_cvv1 dX5_append_54 ln_X5_append_54 (Nat.le_of_ble_eq_true rfl) rfl (by omega) hR4 rfl (sp_putFour hN hR4 hT4 (fl := fl + 16) q4 (by omega)) (fun g5 hq => ?_)
    obtain ⟨r5, hR5, hT5, q5, k5, y5⟩ := hq
    have hW5 : KO g5 e := (y5 0 (by decide) (by decide)).trans hW4
    refine ax_aload_n dX5_append_57 rfl ?_
    refine ax_getf dX5_append_58 ck5 fl_X5_43 (by decide) (by omega) hW5 rfl ?_
    refine ax_getf dX5_append_61 ck4 fl_X5_51 (by decide) (by omega) hR5 rfl ?_
    rw [q5]
    have eT : aK T fl (wS w0 w1 w2 w3 w4) 20 = pB (pB (pB (pB (pB T (fl + 0) w0 4) (fl + 4) w1 4) (fl + 8) w2 4) (fl + 12) w3 4) (fl + 16) w4 4 := by
      rw [show (20 : Nat) = 4 * 4 + 4 from rfl, aK_p (by decide), show 4 * 4 = 4 * 3 + 4 from rfl, aK_p (by decide), show 4 * 3 = 4 * 2 + 4 from rfl, aK_p (by decide), show 4 * 2 = 4 * 1 + 4 from rfl, aK_p (by decide), show 4 * 1 = 4 * 0 + 4 from rfl, aK_p (by decide)]
      rfl
    exact ax_iret dX5_append_64 rfl ⟨r5, by congr 1, hR5, by rw [eT]; exact hT5, q5, fun k hk => (k5 k hk).trans ((k4 k hk).trans ((k3 k hk).trans ((k2 k hk).trans (k1 k hk)))), fun a a1 a2 => (y5 a a1 a2).trans ((y4 a a1 a2).trans ((y3 a a1 a2).trans ((y2 a a1 a2).trans (y1 a a1 a2))))⟩
  · exfalso
    omega
theorem sp_append0 (hN : 112 ≤ NC) {e : Int} (hW : KO h e) (hR0 : RO h r) {fl : Nat} (h1 : r 1 = (fl : Int)) (hfl : 580 < fl ∧ fl ≤ 600) : Cl NC M_X5_append [.ref 0, .int w0, .int w1, .int w2, .int w3, .int w4] h (fun v h1 => v = .int (I (-1)) ∧ h1 = h) := by
  refine ax_aload_n dX5_append_0 rfl ?_
  refine ax_getf dX5_append_1 ck5 fl_X5_43 (by decide) (by omega) hW rfl ?_
  refine ax_getf dX5_append_4 ck4 fl_X5_51 (by decide) (by omega) hR0 rfl ?_
  rw [h1]
  refine ax_sipush dX5_append_7 (by decide) ?_
  refine ax_icmp_le (tgt := 15) dX5_append_10 (by decide) (by omega) (by omega) (fun c10 => ?_) (fun c10 => ?_)
  · exfalso
    omega
  · refine ax_iconst dX5_append_13 ?_
    exact ax_iret dX5_append_14 rfl ⟨rfl, rfl⟩
end AP
