/-! the reference: driesIn, foretold, pass, evens, regions -/
theorem MH.mv {h g : hp} {H : Nat → Nat → Nat} {d : Nat} (hH : MH h H d) (e : ∀ a, 117 ≤ a → a ≤ 125 → g a = h a) : MH g H d := by
  obtain ⟨d8, ⟨f, hf, hf8⟩, hSh, h4⟩ := hH
  exact ⟨d8, ⟨f, (e 117 (by omega) (by omega)).trans hf, hf8⟩, fun k hk => (hSh k hk).mv (e _ (by omega) (by omega)), fun t ht => (h4 t ht).mv (e _ (by omega) (by omega))⟩
theorem MD.up0 {h : hp} {s : Nat → Int} {K : Nat → Nat} {c : Int} (hM : MD h (upZ (upZ s 0 0) 0 c) K) : MD h (upZ s 0 c) K := by
  rw [show upZ (upZ s 0 0) 0 c = upZ s 0 c from funext fun j => by unfold upZ; split <;> rfl] at hM; exact hM
section MT
variable {NC : Nat} {h : hp} {s : Nat → Int} {K : Nat → Nat} {H : Nat → Nat → Nat} {d : Nat} {Q : qt}
theorem l6_dry (hN : 132 ≤ NC) (hK : KI K) (kk : ∀ (w : Value) (g : hp), MD g s (fotK K (grtW K)) → sh 0 (g 126) 180 → sh 0 (g 127) 180 → sh 0 (g 128) 180 → EqX [114, 126, 127, 128] h g → Ex NC none M_X6_driesIn 36 [.ref 112, .int (I (grtW K : Int)), w] [] g Q) : ∀ (n : Nat) (k : Nat) (w : Value) (g : hp), k + n = grtW K → MD g s (fotK K k) → sh 0 (g 126) 180 → sh 0 (g 127) 180 → sh 0 (g 128) 180 → EqX [114, 126, 127, 128] h g → Ex NC none M_X6_driesIn 18 [.ref 112, .int (I (k : Int)), w] [] g Q := by
  intro n
  induction n with
  | zero =>
    intro k w g hk hMg u1 u2 u3 hX
    have w9 := wet_pos (hK.fot k)
    have g9 := grt_fot hK k
    refine ax_aload_n dX6_driesIn_18 rfl ?_
    refine ax_cviP0 dX6_driesIn_19 ln_X6_driesIn_246 (Nat.le_of_ble_eq_true rfl) (Or.inl rfl) (by omega) hMg.1 rfl (s6_wetCells hN hMg (hK.fot k)) ?_
    refine ax_if_le (tgt := 36) dX6_driesIn_22 (by decide) (by omega) (fun c22 => ?_) (fun c22 => ?_)
    · have e : k = grtW K := by omega
      subst e
      exact kk w g hMg u1 u2 u3 hX
    · exfalso
      omega
  | succ n ih =>
    intro k w g hk hMg u1 u2 u3 hX
    have w9 := wet_pos (hK.fot k)
    have g9 := grt_fot hK k
    refine ax_aload_n dX6_driesIn_18 rfl ?_
    refine ax_cviP0 dX6_driesIn_19 ln_X6_driesIn_246 (Nat.le_of_ble_eq_true rfl) (Or.inl rfl) (by omega) hMg.1 rfl (s6_wetCells hN hMg (hK.fot k)) ?_
    refine ax_if_le (tgt := 36) dX6_driesIn_22 (by decide) (by omega) (fun c22 => ?_) (fun c22 => ?_)
    · exfalso
      omega
    · refine ax_aload_n dX6_driesIn_25 rfl ?_
      refine ax_cvi0 dX6_driesIn_26 ln_X6_driesIn_276 (Nat.le_of_ble_eq_true rfl) (Or.inl rfl) (by omega) hMg.1 rfl (s6_tick hN hMg (hK.fot k) u1 u2 u3) (fun r g2 hq => ?_)
      obtain ⟨hv, hM2, v1, v2, v3, x2⟩ := hq
      cases hv
      rw [fot_s] at hM2
      refine ax_istore_n dX6_driesIn_29 rfl (by decide) ?_
      refine ax_iinc dX6_driesIn_30 rfl rfl (by decide) ?_
      refine ax_goto (tgt := 18) dX6_driesIn_33 (by decide) ?_
      exact ih (k + 1) _ g2 (by omega) hM2 v1 v2 v3 (hX.tr x2)
theorem l6_fot (hN : 132 ≤ NC) (hK : KI K) {T : Nat} (hT : T ≤ 40) {w : Value} (kk : ∀ (g : hp), MD g s (fotK K T) → sh 0 (g 126) 180 → sh 0 (g 127) 180 → sh 0 (g 128) 180 → EqX [114, 126, 127, 128] h g → Ex NC none M_X6_foretold 74 [.ref 112, .int (I (T : Int)), w, .int (I (blI K T)), .int (I (T : Int))] [] g Q) : ∀ (n : Nat) (k : Nat) (g : hp), k + n = T → MD g s (fotK K k) → sh 0 (g 126) 180 → sh 0 (g 127) 180 → sh 0 (g 128) 180 → EqX [114, 126, 127, 128] h g → Ex NC none M_X6_foretold 55 [.ref 112, .int (I (T : Int)), w, .int (I (blI K k)), .int (I (k : Int))] [] g Q := by
  intro n
  induction n with
  | zero =>
    intro k g hk hMg u1 u2 u3 hX
    refine ax_iload dX6_foretold_55 rfl ?_
    refine ax_iload_n dX6_foretold_57 rfl ?_
    refine ax_icmp_ge (tgt := 74) dX6_foretold_58 (by decide) (by omega) (by omega) (fun c58 => ?_) (fun c58 => ?_)
    · have e : k = T := by omega
      subst e
      exact kk g hMg u1 u2 u3 hX
    · exfalso
      omega
  | succ n ih =>
    intro k g hk hMg u1 u2 u3 hX
    refine ax_iload dX6_foretold_55 rfl ?_
    refine ax_iload_n dX6_foretold_57 rfl ?_
    refine ax_icmp_ge (tgt := 74) dX6_foretold_58 (by decide) (by omega) (by omega) (fun c58 => ?_) (fun c58 => ?_)
    · exfalso
      omega
    · refine ax_iload_n dX6_foretold_61 rfl ?_
      refine ax_aload_n dX6_foretold_62 rfl ?_
      refine ax_cvi0 dX6_foretold_63 ln_X6_foretold_276 (Nat.le_of_ble_eq_true rfl) (Or.inl rfl) (by omega) hMg.1 rfl (s6_tick hN hMg (hK.fot k) u1 u2 u3) (fun r g2 hq => ?_)
      obtain ⟨hv, hM2, v1, v2, v3, x2⟩ := hq
      cases hv
      rw [fot_s] at hM2
      rw [ble_fot]
      refine ax_iadd dX6_foretold_66 ?_
      refine ax_istore_n dX6_foretold_67 rfl (by decide) ?_
      refine ax_iinc dX6_foretold_68 rfl rfl (by decide) ?_
      refine ax_goto (tgt := 55) dX6_foretold_71 (by decide) ?_
      exact ih (k + 1) g2 (by omega) hM2 v1 v2 v3 (hX.tr x2)
theorem l6_pas (hN : 132 ≤ NC) (hK : KI K) {T : Nat} (hT : T ≤ 40) {w : Value} (kk : ∀ (g : hp), MD g s (fotK K T) → sh 0 (g 126) 180 → sh 0 (g 127) 180 → sh 0 (g 128) 180 → EqX [114, 126, 127, 128] h g → Ex NC none M_X6_pass 56 [.ref 112, .int (I (T : Int)), .int (I (blI K T)), .int (I (T : Int))] [] g Q) : ∀ (n : Nat) (k : Nat) (g : hp), k + n = T → MD g s (fotK K k) → sh 0 (g 126) 180 → sh 0 (g 127) 180 → sh 0 (g 128) 180 → EqX [114, 126, 127, 128] h g → Ex NC none M_X6_pass 38 [.ref 112, .int (I (T : Int)), .int (I (blI K k)), .int (I (k : Int))] [] g Q := by
  intro n
  induction n with
  | zero =>
    intro k g hk hMg u1 u2 u3 hX
    refine ax_iload_n dX6_pass_38 rfl ?_
    refine ax_iload_n dX6_pass_39 rfl ?_
    refine ax_icmp_ge (tgt := 56) dX6_pass_40 (by decide) (by omega) (by omega) (fun c40 => ?_) (fun c40 => ?_)
    · have e : k = T := by omega
      subst e
      exact kk g hMg u1 u2 u3 hX
    · exfalso
      omega
  | succ n ih =>
    intro k g hk hMg u1 u2 u3 hX
    refine ax_iload_n dX6_pass_38 rfl ?_
    refine ax_iload_n dX6_pass_39 rfl ?_
    refine ax_icmp_ge (tgt := 56) dX6_pass_40 (by decide) (by omega) (by omega) (fun c40 => ?_) (fun c40 => ?_)
    · exfalso
      omega
    · refine ax_iload_n dX6_pass_43 rfl ?_
      refine ax_aload_n dX6_pass_44 rfl ?_
      refine ax_cvi0 dX6_pass_45 ln_X6_pass_276 (Nat.le_of_ble_eq_true rfl) (Or.inl rfl) (by omega) hMg.1 rfl (s6_tick hN hMg (hK.fot k) u1 u2 u3) (fun r g2 hq => ?_)
      obtain ⟨hv, hM2, v1, v2, v3, x2⟩ := hq
      cases hv
      rw [fot_s] at hM2
      rw [ble_fot]
      refine ax_iadd dX6_pass_48 ?_
      refine ax_istore_n dX6_pass_49 rfl (by decide) ?_
      refine ax_iinc dX6_pass_50 rfl rfl (by decide) ?_
      refine ax_goto (tgt := 38) dX6_pass_53 (by decide) ?_
      exact ih (k + 1) g2 (by omega) hM2 v1 v2 v3 (hX.tr x2)
theorem s6_driesIn (hN : 132 ≤ NC) (hM : MD h s K) (hK : KI K) (s16 : sh 0 (h 116) 746) (t1 : sh 0 (h 126) 180) (t2 : sh 0 (h 127) 180) (t3 : sh 0 (h 128) 180) : Cl NC M_X6_driesIn [.ref 112] h (fun v h1 => v = .int (I (grtW K : Int)) ∧ MD h1 (upZ s 0 0) K ∧ sh 0 (h1 116) 746 ∧ sh 0 (h1 126) 180 ∧ sh 0 (h1 127) 180 ∧ sh 0 (h1 128) 180 ∧ ∀ a, a ≠ 112 → a ≠ 114 → a ≠ 116 → a ≠ 126 → a ≠ 127 → a ≠ 128 → h1 a = h a) := by
  refine ax_aload_n dX6_driesIn_0 rfl ?_
  refine ax_iconst dX6_driesIn_1 ?_
  refine ax_putf dX6_driesIn_2 ck6 fl_X6_51 (by decide) (by omega) hM.1 rfl (Or.inl rfl) (Nat.le_of_ble_eq_true rfl) rfl ?_
  generalize hg0 : va_up h 112 _ = g0
  have hM0 : MD g0 (upZ s 0 0) K := by rw [← hg0]; exact hM.s0
  have y0 : Y2 h g0 := fun a ha => by rw [← hg0]; exact vu_ne ha
  have z0 : upZ s 0 0 0 = 0 := rfl
  refine ax_iconst dX6_driesIn_5 ?_
  refine ax_istore_n dX6_driesIn_6 rfl (by decide) ?_
  refine ax_aload_n dX6_driesIn_7 rfl ?_
  refine ax_getf dX6_driesIn_8 ck6 fl_X6_17 (by decide) (by omega) hM0.1 rfl ?_
  refine ax_aload_n dX6_driesIn_11 rfl ?_
  refine ax_getf dX6_driesIn_12 ck6 fl_X6_23 (by decide) (by omega) hM0.1 rfl ?_
  refine ax_csv2 dX6_driesIn_15 ln_X6_driesIn_185 (Nat.le_of_ble_eq_true rfl) rfl (s6_copy (F := fun i => (K i : Int)) (by omega) (by omega) (by decide) hM0.2 (s16.mv (y0 116 (by decide)))) (fun g1 hq => ?_)
  obtain ⟨hC1, x1⟩ := hq
  have hM1 : MD g1 (upZ s 0 0) K := ⟨(x1 112 (by decide)).trans hM0.1, hM0.2.mv (x1 114 (by decide))⟩
  refine l6_dry hN hK (fun w g2 hM2 v1 v2 v3 x2 => ?_) (grtW K) 0 .null g1 (by omega) (by rw [fot_0]; exact hM1) (t1.mv ((x1 126 (by decide)).trans (y0 126 (by decide)))) (t2.mv ((x1 127 (by decide)).trans (y0 127 (by decide)))) (t3.mv ((x1 128 (by decide)).trans (y0 128 (by decide)))) EqX.rf
  refine ax_aload_n dX6_driesIn_36 rfl ?_
  refine ax_getf dX6_driesIn_37 ck6 fl_X6_23 (by decide) (by omega) hM2.1 rfl ?_
  refine ax_aload_n dX6_driesIn_40 rfl ?_
  refine ax_getf dX6_driesIn_41 ck6 fl_X6_17 (by decide) (by omega) hM2.1 rfl ?_
  refine ax_csv2 dX6_driesIn_44 ln_X6_driesIn_185 (Nat.le_of_ble_eq_true rfl) rfl (s6_copy (F := fun i => (K i : Int)) (by omega) (by omega) (by decide) (hC1.mv (x2 116 (by decide))) hM2.2.sh) (fun g3 hq => ?_)
  obtain ⟨hC3, x3⟩ := hq
  refine ax_iload_n dX6_driesIn_47 rfl ?_
  exact ax_iret dX6_driesIn_48 rfl ⟨rfl, ⟨(x3 112 (by decide)).trans hM2.1, hC3⟩, ⟨_, hC1.mv ((x3 116 (by decide)).trans (x2 116 (by decide)))⟩, v1.mv (x3 126 (by decide)), v2.mv (x3 127 (by decide)), v3.mv (x3 128 (by decide)), fun a a1 a2 a3 a4 a5 a6 => (x3 a (by simp; omega)).trans ((x2 a (by simp; omega)).trans ((x1 a (by simp; omega)).trans (y0 a a1)))⟩
theorem s6_foretold (hN : 132 ≤ NC) (hM : MD h s K) (hK : KI K) (s16 : sh 0 (h 116) 746) (t1 : sh 0 (h 126) 180) (t2 : sh 0 (h 127) 180) (t3 : sh 0 (h 128) 180) {a w : Nat} (ha : 1 ≤ a ∧ a ≤ 40) (hw : w ≤ 4) : Cl NC M_X6_foretold [.ref 112, .int (I (a : Int)), .int (I (w : Int))] h (fun v h1 => v = .int (I (fotN K a w)) ∧ MD h1 (upZ s 0 0) K ∧ sh 0 (h1 116) 746 ∧ sh 0 (h1 126) 180 ∧ sh 0 (h1 127) 180 ∧ sh 0 (h1 128) 180 ∧ ∀ a, a ≠ 112 → a ≠ 114 → a ≠ 116 → a ≠ 126 → a ≠ 127 → a ≠ 128 → h1 a = h a) := by
  rcases (by omega : w = 0 ∨ w = 1 ∨ w = 2 ∨ w = 3 ∨ w = 4) with rfl | rfl | rfl | rfl | rfl
  · refine ax_aload_n dX6_foretold_0 rfl ?_
    refine ax_iconst dX6_foretold_1 ?_
    refine ax_putf dX6_foretold_2 ck6 fl_X6_51 (by decide) (by omega) hM.1 rfl (Or.inl rfl) (Nat.le_of_ble_eq_true rfl) rfl ?_
    generalize hg0 : va_up h 112 _ = g0
    have hM0 : MD g0 (upZ s 0 0) K := by rw [← hg0]; exact hM.s0
    have y0 : Y2 h g0 := fun a ha => by rw [← hg0]; exact vu_ne ha
    have z0 : upZ s 0 0 0 = 0 := rfl
    refine ax_aload_n dX6_foretold_5 rfl ?_
    refine ax_iload_n dX6_foretold_6 rfl ?_
    refine ax_iconst dX6_foretold_7 ?_
    refine ax_bipush dX6_foretold_8 (by decide) ?_
    refine ax_csiP3 dX6_foretold_10 ln_X6_foretold_54 (Nat.le_of_ble_eq_true rfl) (Or.inr rfl) (s6_in (by omega) (by omega) (by omega)) ?_
    refine ax_if_eq (tgt := 25) dX6_foretold_13 (by decide) (by split <;> omega) (fun c13 => ?_) (fun c13 => ?_)
    · exfalso
      rw [if_pos (by omega)] at c13
      first | exact absurd c13 (by decide) | exact c13 rfl
    · refine ax_iload_n dX6_foretold_16 rfl ?_
      refine ax_iconst dX6_foretold_17 ?_
      refine ax_iconst dX6_foretold_18 ?_
      refine ax_csiP3 dX6_foretold_19 ln_X6_foretold_54 (Nat.le_of_ble_eq_true rfl) (Or.inr rfl) (s6_in (by omega) (by omega) (by omega)) ?_
      refine ax_if_ne (tgt := 29) dX6_foretold_22 (by decide) (by split <;> omega) (fun c22 => ?_) (fun c22 => ?_)
      · refine ax_iconst dX6_foretold_29 ?_
        refine ax_iconst dX6_foretold_30 ?_
        refine ax_cviP2 dX6_foretold_31 ln_X6_foretold_173 (Nat.le_of_ble_eq_true rfl) (Or.inr rfl) (by omega) hM0.1 rfl (s6_failsF hN hM0.1 z0) ?_
        refine ax_if_eq (tgt := 39) dX6_foretold_34 (by decide) (by omega) (fun c34 => ?_) (fun c34 => ?_)
        · refine ax_aload_n dX6_foretold_39 rfl ?_
          refine ax_getf dX6_foretold_40 ck6 fl_X6_17 (by decide) (by omega) hM0.1 rfl ?_
          refine ax_aload_n dX6_foretold_43 rfl ?_
          refine ax_getf dX6_foretold_44 ck6 fl_X6_23 (by decide) (by omega) hM0.1 rfl ?_
          refine ax_csv2 dX6_foretold_47 ln_X6_foretold_185 (Nat.le_of_ble_eq_true rfl) rfl (s6_copy (F := fun i => (K i : Int)) (by omega) (by omega) (by decide) hM0.2 (s16.mv (y0 116 (by decide)))) (fun g1 hq => ?_)
          obtain ⟨hC1, x1⟩ := hq
          have hM1 : MD g1 (upZ s 0 0) K := ⟨(x1 112 (by decide)).trans hM0.1, hM0.2.mv (x1 114 (by decide))⟩
          refine ax_iconst dX6_foretold_50 ?_
          refine ax_istore_n dX6_foretold_51 rfl (by decide) ?_
          refine ax_iconst dX6_foretold_52 ?_
          refine ax_istore dX6_foretold_53 rfl (by decide) ?_
          refine l6_fot hN hK (T := a) (by omega) (fun g2 hM2 v1 v2 v3 x2 => ?_) a 0 g1 (by omega) (by rw [fot_0]; exact hM1) (t1.mv ((x1 126 (by decide)).trans (y0 126 (by decide)))) (t2.mv ((x1 127 (by decide)).trans (y0 127 (by decide)))) (t3.mv ((x1 128 (by decide)).trans (y0 128 (by decide)))) EqX.rf
          refine ax_iload_n dX6_foretold_74 rfl ?_
          refine ax_if_ne (tgt := 85) dX6_foretold_75 (by decide) (by omega) (fun c75 => ?_) (fun c75 => ?_)
          · exfalso
            omega
          · refine ax_aload_n dX6_foretold_78 rfl ?_
            refine ax_cviP0 dX6_foretold_79 ln_X6_foretold_249 (Nat.le_of_ble_eq_true rfl) (Or.inl rfl) (by omega) hM2.1 rfl (s6_balance hN hM2 (hK.fot a)) ?_
            refine ax_goto (tgt := 123) dX6_foretold_82 (by decide) ?_
            refine ax_istore dX6_foretold_123 rfl (by decide) ?_
            refine ax_aload_n dX6_foretold_125 rfl ?_
            refine ax_getf dX6_foretold_126 ck6 fl_X6_23 (by decide) (by omega) hM2.1 rfl ?_
            refine ax_aload_n dX6_foretold_129 rfl ?_
            refine ax_getf dX6_foretold_130 ck6 fl_X6_17 (by decide) (by omega) hM2.1 rfl ?_
            refine ax_csv2 dX6_foretold_133 ln_X6_foretold_185 (Nat.le_of_ble_eq_true rfl) rfl (s6_copy (F := fun i => (K i : Int)) (by omega) (by omega) (by decide) (hC1.mv (x2 116 (by decide))) hM2.2.sh) (fun g3 hq => ?_)
            obtain ⟨hC3, x3⟩ := hq
            refine ax_iload dX6_foretold_136 rfl ?_
            exact ax_iret dX6_foretold_138 rfl ⟨rfl, ⟨(x3 112 (by decide)).trans hM2.1, hC3⟩, ⟨_, hC1.mv ((x3 116 (by decide)).trans (x2 116 (by decide)))⟩, v1.mv (x3 126 (by decide)), v2.mv (x3 127 (by decide)), v3.mv (x3 128 (by decide)), fun a a1 a2 a3 a4 a5 a6 => (x3 a (by simp; omega)).trans ((x2 a (by simp; omega)).trans ((x1 a (by simp; omega)).trans (y0 a a1)))⟩
        · exfalso
          omega
      · exfalso
        rw [if_pos (by omega)] at c22
        first | exact absurd c22 (by decide) | exact c22 rfl
  · refine ax_aload_n dX6_foretold_0 rfl ?_
    refine ax_iconst dX6_foretold_1 ?_
    refine ax_putf dX6_foretold_2 ck6 fl_X6_51 (by decide) (by omega) hM.1 rfl (Or.inl rfl) (Nat.le_of_ble_eq_true rfl) rfl ?_
    generalize hg0 : va_up h 112 _ = g0
    have hM0 : MD g0 (upZ s 0 0) K := by rw [← hg0]; exact hM.s0
    have y0 : Y2 h g0 := fun a ha => by rw [← hg0]; exact vu_ne ha
    have z0 : upZ s 0 0 0 = 0 := rfl
    refine ax_aload_n dX6_foretold_5 rfl ?_
    refine ax_iload_n dX6_foretold_6 rfl ?_
    refine ax_iconst dX6_foretold_7 ?_
    refine ax_bipush dX6_foretold_8 (by decide) ?_
    refine ax_csiP3 dX6_foretold_10 ln_X6_foretold_54 (Nat.le_of_ble_eq_true rfl) (Or.inr rfl) (s6_in (by omega) (by omega) (by omega)) ?_
    refine ax_if_eq (tgt := 25) dX6_foretold_13 (by decide) (by split <;> omega) (fun c13 => ?_) (fun c13 => ?_)
    · exfalso
      rw [if_pos (by omega)] at c13
      first | exact absurd c13 (by decide) | exact c13 rfl
    · refine ax_iload_n dX6_foretold_16 rfl ?_
      refine ax_iconst dX6_foretold_17 ?_
      refine ax_iconst dX6_foretold_18 ?_
      refine ax_csiP3 dX6_foretold_19 ln_X6_foretold_54 (Nat.le_of_ble_eq_true rfl) (Or.inr rfl) (s6_in (by omega) (by omega) (by omega)) ?_
      refine ax_if_ne (tgt := 29) dX6_foretold_22 (by decide) (by split <;> omega) (fun c22 => ?_) (fun c22 => ?_)
      · refine ax_iconst dX6_foretold_29 ?_
        refine ax_iconst dX6_foretold_30 ?_
        refine ax_cviP2 dX6_foretold_31 ln_X6_foretold_173 (Nat.le_of_ble_eq_true rfl) (Or.inr rfl) (by omega) hM0.1 rfl (s6_failsF hN hM0.1 z0) ?_
        refine ax_if_eq (tgt := 39) dX6_foretold_34 (by decide) (by omega) (fun c34 => ?_) (fun c34 => ?_)
        · refine ax_aload_n dX6_foretold_39 rfl ?_
          refine ax_getf dX6_foretold_40 ck6 fl_X6_17 (by decide) (by omega) hM0.1 rfl ?_
          refine ax_aload_n dX6_foretold_43 rfl ?_
          refine ax_getf dX6_foretold_44 ck6 fl_X6_23 (by decide) (by omega) hM0.1 rfl ?_
          refine ax_csv2 dX6_foretold_47 ln_X6_foretold_185 (Nat.le_of_ble_eq_true rfl) rfl (s6_copy (F := fun i => (K i : Int)) (by omega) (by omega) (by decide) hM0.2 (s16.mv (y0 116 (by decide)))) (fun g1 hq => ?_)
          obtain ⟨hC1, x1⟩ := hq
          have hM1 : MD g1 (upZ s 0 0) K := ⟨(x1 112 (by decide)).trans hM0.1, hM0.2.mv (x1 114 (by decide))⟩
          refine ax_iconst dX6_foretold_50 ?_
          refine ax_istore_n dX6_foretold_51 rfl (by decide) ?_
          refine ax_iconst dX6_foretold_52 ?_
          refine ax_istore dX6_foretold_53 rfl (by decide) ?_
          refine l6_fot hN hK (T := a) (by omega) (fun g2 hM2 v1 v2 v3 x2 => ?_) a 0 g1 (by omega) (by rw [fot_0]; exact hM1) (t1.mv ((x1 126 (by decide)).trans (y0 126 (by decide)))) (t2.mv ((x1 127 (by decide)).trans (y0 127 (by decide)))) (t3.mv ((x1 128 (by decide)).trans (y0 128 (by decide)))) EqX.rf
          refine ax_iload_n dX6_foretold_74 rfl ?_
          refine ax_if_ne (tgt := 85) dX6_foretold_75 (by decide) (by omega) (fun c75 => ?_) (fun c75 => ?_)
          · refine ax_iload_n dX6_foretold_85 rfl ?_
            refine ax_iconst dX6_foretold_86 ?_
            refine ax_icmp_ne (tgt := 98) dX6_foretold_87 (by decide) (by omega) (by omega) (fun c87 => ?_) (fun c87 => ?_)
            · exfalso
              omega
            · refine ax_aload_n dX6_foretold_90 rfl ?_
              refine ax_iconst dX6_foretold_91 ?_
              refine ax_cviP1 dX6_foretold_92 ln_X6_foretold_243 (Nat.le_of_ble_eq_true rfl) (Or.inl rfl) (by omega) hM2.1 rfl (s6_countOf hN hM2 (hK.fot a) (k := 0) (by omega)) ?_
              refine ax_goto (tgt := 123) dX6_foretold_95 (by decide) ?_
              refine ax_istore dX6_foretold_123 rfl (by decide) ?_
              refine ax_aload_n dX6_foretold_125 rfl ?_
              refine ax_getf dX6_foretold_126 ck6 fl_X6_23 (by decide) (by omega) hM2.1 rfl ?_
              refine ax_aload_n dX6_foretold_129 rfl ?_
              refine ax_getf dX6_foretold_130 ck6 fl_X6_17 (by decide) (by omega) hM2.1 rfl ?_
              refine ax_csv2 dX6_foretold_133 ln_X6_foretold_185 (Nat.le_of_ble_eq_true rfl) rfl (s6_copy (F := fun i => (K i : Int)) (by omega) (by omega) (by decide) (hC1.mv (x2 116 (by decide))) hM2.2.sh) (fun g3 hq => ?_)
              obtain ⟨hC3, x3⟩ := hq
              refine ax_iload dX6_foretold_136 rfl ?_
              exact ax_iret dX6_foretold_138 rfl ⟨rfl, ⟨(x3 112 (by decide)).trans hM2.1, hC3⟩, ⟨_, hC1.mv ((x3 116 (by decide)).trans (x2 116 (by decide)))⟩, v1.mv (x3 126 (by decide)), v2.mv (x3 127 (by decide)), v3.mv (x3 128 (by decide)), fun a a1 a2 a3 a4 a5 a6 => (x3 a (by simp; omega)).trans ((x2 a (by simp; omega)).trans ((x1 a (by simp; omega)).trans (y0 a a1)))⟩
          · exfalso
            omega
        · exfalso
          omega
      · exfalso
        rw [if_pos (by omega)] at c22
        first | exact absurd c22 (by decide) | exact c22 rfl
  · refine ax_aload_n dX6_foretold_0 rfl ?_
    refine ax_iconst dX6_foretold_1 ?_
    refine ax_putf dX6_foretold_2 ck6 fl_X6_51 (by decide) (by omega) hM.1 rfl (Or.inl rfl) (Nat.le_of_ble_eq_true rfl) rfl ?_
    generalize hg0 : va_up h 112 _ = g0
    have hM0 : MD g0 (upZ s 0 0) K := by rw [← hg0]; exact hM.s0
    have y0 : Y2 h g0 := fun a ha => by rw [← hg0]; exact vu_ne ha
    have z0 : upZ s 0 0 0 = 0 := rfl
    refine ax_aload_n dX6_foretold_5 rfl ?_
    refine ax_iload_n dX6_foretold_6 rfl ?_
    refine ax_iconst dX6_foretold_7 ?_
    refine ax_bipush dX6_foretold_8 (by decide) ?_
    refine ax_csiP3 dX6_foretold_10 ln_X6_foretold_54 (Nat.le_of_ble_eq_true rfl) (Or.inr rfl) (s6_in (by omega) (by omega) (by omega)) ?_
    refine ax_if_eq (tgt := 25) dX6_foretold_13 (by decide) (by split <;> omega) (fun c13 => ?_) (fun c13 => ?_)
    · exfalso
      rw [if_pos (by omega)] at c13
      first | exact absurd c13 (by decide) | exact c13 rfl
    · refine ax_iload_n dX6_foretold_16 rfl ?_
      refine ax_iconst dX6_foretold_17 ?_
      refine ax_iconst dX6_foretold_18 ?_
      refine ax_csiP3 dX6_foretold_19 ln_X6_foretold_54 (Nat.le_of_ble_eq_true rfl) (Or.inr rfl) (s6_in (by omega) (by omega) (by omega)) ?_
      refine ax_if_ne (tgt := 29) dX6_foretold_22 (by decide) (by split <;> omega) (fun c22 => ?_) (fun c22 => ?_)
      · refine ax_iconst dX6_foretold_29 ?_
        refine ax_iconst dX6_foretold_30 ?_
        refine ax_cviP2 dX6_foretold_31 ln_X6_foretold_173 (Nat.le_of_ble_eq_true rfl) (Or.inr rfl) (by omega) hM0.1 rfl (s6_failsF hN hM0.1 z0) ?_
        refine ax_if_eq (tgt := 39) dX6_foretold_34 (by decide) (by omega) (fun c34 => ?_) (fun c34 => ?_)
        · refine ax_aload_n dX6_foretold_39 rfl ?_
          refine ax_getf dX6_foretold_40 ck6 fl_X6_17 (by decide) (by omega) hM0.1 rfl ?_
          refine ax_aload_n dX6_foretold_43 rfl ?_
          refine ax_getf dX6_foretold_44 ck6 fl_X6_23 (by decide) (by omega) hM0.1 rfl ?_
          refine ax_csv2 dX6_foretold_47 ln_X6_foretold_185 (Nat.le_of_ble_eq_true rfl) rfl (s6_copy (F := fun i => (K i : Int)) (by omega) (by omega) (by decide) hM0.2 (s16.mv (y0 116 (by decide)))) (fun g1 hq => ?_)
          obtain ⟨hC1, x1⟩ := hq
          have hM1 : MD g1 (upZ s 0 0) K := ⟨(x1 112 (by decide)).trans hM0.1, hM0.2.mv (x1 114 (by decide))⟩
          refine ax_iconst dX6_foretold_50 ?_
          refine ax_istore_n dX6_foretold_51 rfl (by decide) ?_
          refine ax_iconst dX6_foretold_52 ?_
          refine ax_istore dX6_foretold_53 rfl (by decide) ?_
          refine l6_fot hN hK (T := a) (by omega) (fun g2 hM2 v1 v2 v3 x2 => ?_) a 0 g1 (by omega) (by rw [fot_0]; exact hM1) (t1.mv ((x1 126 (by decide)).trans (y0 126 (by decide)))) (t2.mv ((x1 127 (by decide)).trans (y0 127 (by decide)))) (t3.mv ((x1 128 (by decide)).trans (y0 128 (by decide)))) EqX.rf
          refine ax_iload_n dX6_foretold_74 rfl ?_
          refine ax_if_ne (tgt := 85) dX6_foretold_75 (by decide) (by omega) (fun c75 => ?_) (fun c75 => ?_)
          · refine ax_iload_n dX6_foretold_85 rfl ?_
            refine ax_iconst dX6_foretold_86 ?_
            refine ax_icmp_ne (tgt := 98) dX6_foretold_87 (by decide) (by omega) (by omega) (fun c87 => ?_) (fun c87 => ?_)
            · refine ax_iload_n dX6_foretold_98 rfl ?_
              refine ax_iconst dX6_foretold_99 ?_
              refine ax_icmp_ne (tgt := 110) dX6_foretold_100 (by decide) (by omega) (by omega) (fun c100 => ?_) (fun c100 => ?_)
              · exfalso
                omega
              · refine ax_aload_n dX6_foretold_103 rfl ?_
                refine ax_cviP0 dX6_foretold_104 ln_X6_foretold_267 (Nat.le_of_ble_eq_true rfl) (Or.inl rfl) (by omega) hM2.1 rfl (s6_unlikeNow hN hM2 (hK.fot a)) ?_
                refine ax_goto (tgt := 123) dX6_foretold_107 (by decide) ?_
                refine ax_istore dX6_foretold_123 rfl (by decide) ?_
                refine ax_aload_n dX6_foretold_125 rfl ?_
                refine ax_getf dX6_foretold_126 ck6 fl_X6_23 (by decide) (by omega) hM2.1 rfl ?_
                refine ax_aload_n dX6_foretold_129 rfl ?_
                refine ax_getf dX6_foretold_130 ck6 fl_X6_17 (by decide) (by omega) hM2.1 rfl ?_
                refine ax_csv2 dX6_foretold_133 ln_X6_foretold_185 (Nat.le_of_ble_eq_true rfl) rfl (s6_copy (F := fun i => (K i : Int)) (by omega) (by omega) (by decide) (hC1.mv (x2 116 (by decide))) hM2.2.sh) (fun g3 hq => ?_)
                obtain ⟨hC3, x3⟩ := hq
                refine ax_iload dX6_foretold_136 rfl ?_
                exact ax_iret dX6_foretold_138 rfl ⟨rfl, ⟨(x3 112 (by decide)).trans hM2.1, hC3⟩, ⟨_, hC1.mv ((x3 116 (by decide)).trans (x2 116 (by decide)))⟩, v1.mv (x3 126 (by decide)), v2.mv (x3 127 (by decide)), v3.mv (x3 128 (by decide)), fun a a1 a2 a3 a4 a5 a6 => (x3 a (by simp; omega)).trans ((x2 a (by simp; omega)).trans ((x1 a (by simp; omega)).trans (y0 a a1)))⟩
            · exfalso
              omega
          · exfalso
            omega
        · exfalso
          omega
      · exfalso
        rw [if_pos (by omega)] at c22
        first | exact absurd c22 (by decide) | exact c22 rfl
  · refine ax_aload_n dX6_foretold_0 rfl ?_
    refine ax_iconst dX6_foretold_1 ?_
    refine ax_putf dX6_foretold_2 ck6 fl_X6_51 (by decide) (by omega) hM.1 rfl (Or.inl rfl) (Nat.le_of_ble_eq_true rfl) rfl ?_
    generalize hg0 : va_up h 112 _ = g0
    have hM0 : MD g0 (upZ s 0 0) K := by rw [← hg0]; exact hM.s0
    have y0 : Y2 h g0 := fun a ha => by rw [← hg0]; exact vu_ne ha
    have z0 : upZ s 0 0 0 = 0 := rfl
    refine ax_aload_n dX6_foretold_5 rfl ?_
    refine ax_iload_n dX6_foretold_6 rfl ?_
    refine ax_iconst dX6_foretold_7 ?_
    refine ax_bipush dX6_foretold_8 (by decide) ?_
    refine ax_csiP3 dX6_foretold_10 ln_X6_foretold_54 (Nat.le_of_ble_eq_true rfl) (Or.inr rfl) (s6_in (by omega) (by omega) (by omega)) ?_
    refine ax_if_eq (tgt := 25) dX6_foretold_13 (by decide) (by split <;> omega) (fun c13 => ?_) (fun c13 => ?_)
    · exfalso
      rw [if_pos (by omega)] at c13
      first | exact absurd c13 (by decide) | exact c13 rfl
    · refine ax_iload_n dX6_foretold_16 rfl ?_
      refine ax_iconst dX6_foretold_17 ?_
      refine ax_iconst dX6_foretold_18 ?_
      refine ax_csiP3 dX6_foretold_19 ln_X6_foretold_54 (Nat.le_of_ble_eq_true rfl) (Or.inr rfl) (s6_in (by omega) (by omega) (by omega)) ?_
      refine ax_if_ne (tgt := 29) dX6_foretold_22 (by decide) (by split <;> omega) (fun c22 => ?_) (fun c22 => ?_)
      · refine ax_iconst dX6_foretold_29 ?_
        refine ax_iconst dX6_foretold_30 ?_
        refine ax_cviP2 dX6_foretold_31 ln_X6_foretold_173 (Nat.le_of_ble_eq_true rfl) (Or.inr rfl) (by omega) hM0.1 rfl (s6_failsF hN hM0.1 z0) ?_
        refine ax_if_eq (tgt := 39) dX6_foretold_34 (by decide) (by omega) (fun c34 => ?_) (fun c34 => ?_)
        · refine ax_aload_n dX6_foretold_39 rfl ?_
          refine ax_getf dX6_foretold_40 ck6 fl_X6_17 (by decide) (by omega) hM0.1 rfl ?_
          refine ax_aload_n dX6_foretold_43 rfl ?_
          refine ax_getf dX6_foretold_44 ck6 fl_X6_23 (by decide) (by omega) hM0.1 rfl ?_
          refine ax_csv2 dX6_foretold_47 ln_X6_foretold_185 (Nat.le_of_ble_eq_true rfl) rfl (s6_copy (F := fun i => (K i : Int)) (by omega) (by omega) (by decide) hM0.2 (s16.mv (y0 116 (by decide)))) (fun g1 hq => ?_)
          obtain ⟨hC1, x1⟩ := hq
          have hM1 : MD g1 (upZ s 0 0) K := ⟨(x1 112 (by decide)).trans hM0.1, hM0.2.mv (x1 114 (by decide))⟩
          refine ax_iconst dX6_foretold_50 ?_
          refine ax_istore_n dX6_foretold_51 rfl (by decide) ?_
          refine ax_iconst dX6_foretold_52 ?_
          refine ax_istore dX6_foretold_53 rfl (by decide) ?_
          refine l6_fot hN hK (T := a) (by omega) (fun g2 hM2 v1 v2 v3 x2 => ?_) a 0 g1 (by omega) (by rw [fot_0]; exact hM1) (t1.mv ((x1 126 (by decide)).trans (y0 126 (by decide)))) (t2.mv ((x1 127 (by decide)).trans (y0 127 (by decide)))) (t3.mv ((x1 128 (by decide)).trans (y0 128 (by decide)))) EqX.rf
          refine ax_iload_n dX6_foretold_74 rfl ?_
          refine ax_if_ne (tgt := 85) dX6_foretold_75 (by decide) (by omega) (fun c75 => ?_) (fun c75 => ?_)
          · refine ax_iload_n dX6_foretold_85 rfl ?_
            refine ax_iconst dX6_foretold_86 ?_
            refine ax_icmp_ne (tgt := 98) dX6_foretold_87 (by decide) (by omega) (by omega) (fun c87 => ?_) (fun c87 => ?_)
            · refine ax_iload_n dX6_foretold_98 rfl ?_
              refine ax_iconst dX6_foretold_99 ?_
              refine ax_icmp_ne (tgt := 110) dX6_foretold_100 (by decide) (by omega) (by omega) (fun c100 => ?_) (fun c100 => ?_)
              · refine ax_iload_n dX6_foretold_110 rfl ?_
                refine ax_iconst dX6_foretold_111 ?_
                refine ax_icmp_ne (tgt := 122) dX6_foretold_112 (by decide) (by omega) (by omega) (fun c112 => ?_) (fun c112 => ?_)
                · exfalso
                  omega
                · refine ax_aload_n dX6_foretold_115 rfl ?_
                  refine ax_cviP0 dX6_foretold_116 ln_X6_foretold_246 (Nat.le_of_ble_eq_true rfl) (Or.inl rfl) (by omega) hM2.1 rfl (s6_wetCells hN hM2 (hK.fot a)) ?_
                  refine ax_goto (tgt := 123) dX6_foretold_119 (by decide) ?_
                  refine ax_istore dX6_foretold_123 rfl (by decide) ?_
                  refine ax_aload_n dX6_foretold_125 rfl ?_
                  refine ax_getf dX6_foretold_126 ck6 fl_X6_23 (by decide) (by omega) hM2.1 rfl ?_
                  refine ax_aload_n dX6_foretold_129 rfl ?_
                  refine ax_getf dX6_foretold_130 ck6 fl_X6_17 (by decide) (by omega) hM2.1 rfl ?_
                  refine ax_csv2 dX6_foretold_133 ln_X6_foretold_185 (Nat.le_of_ble_eq_true rfl) rfl (s6_copy (F := fun i => (K i : Int)) (by omega) (by omega) (by decide) (hC1.mv (x2 116 (by decide))) hM2.2.sh) (fun g3 hq => ?_)
                  obtain ⟨hC3, x3⟩ := hq
                  refine ax_iload dX6_foretold_136 rfl ?_
                  exact ax_iret dX6_foretold_138 rfl ⟨rfl, ⟨(x3 112 (by decide)).trans hM2.1, hC3⟩, ⟨_, hC1.mv ((x3 116 (by decide)).trans (x2 116 (by decide)))⟩, v1.mv (x3 126 (by decide)), v2.mv (x3 127 (by decide)), v3.mv (x3 128 (by decide)), fun a a1 a2 a3 a4 a5 a6 => (x3 a (by simp; omega)).trans ((x2 a (by simp; omega)).trans ((x1 a (by simp; omega)).trans (y0 a a1)))⟩
              · exfalso
                omega
            · exfalso
              omega
          · exfalso
            omega
        · exfalso
          omega
      · exfalso
        rw [if_pos (by omega)] at c22
        first | exact absurd c22 (by decide) | exact c22 rfl
  · refine ax_aload_n dX6_foretold_0 rfl ?_
    refine ax_iconst dX6_foretold_1 ?_
    refine ax_putf dX6_foretold_2 ck6 fl_X6_51 (by decide) (by omega) hM.1 rfl (Or.inl rfl) (Nat.le_of_ble_eq_true rfl) rfl ?_
    generalize hg0 : va_up h 112 _ = g0
    have hM0 : MD g0 (upZ s 0 0) K := by rw [← hg0]; exact hM.s0
    have y0 : Y2 h g0 := fun a ha => by rw [← hg0]; exact vu_ne ha
    have z0 : upZ s 0 0 0 = 0 := rfl
    refine ax_aload_n dX6_foretold_5 rfl ?_
    refine ax_iload_n dX6_foretold_6 rfl ?_
    refine ax_iconst dX6_foretold_7 ?_
    refine ax_bipush dX6_foretold_8 (by decide) ?_
    refine ax_csiP3 dX6_foretold_10 ln_X6_foretold_54 (Nat.le_of_ble_eq_true rfl) (Or.inr rfl) (s6_in (by omega) (by omega) (by omega)) ?_
    refine ax_if_eq (tgt := 25) dX6_foretold_13 (by decide) (by split <;> omega) (fun c13 => ?_) (fun c13 => ?_)
    · exfalso
      rw [if_pos (by omega)] at c13
      first | exact absurd c13 (by decide) | exact c13 rfl
    · refine ax_iload_n dX6_foretold_16 rfl ?_
      refine ax_iconst dX6_foretold_17 ?_
      refine ax_iconst dX6_foretold_18 ?_
      refine ax_csiP3 dX6_foretold_19 ln_X6_foretold_54 (Nat.le_of_ble_eq_true rfl) (Or.inr rfl) (s6_in (by omega) (by omega) (by omega)) ?_
      refine ax_if_ne (tgt := 29) dX6_foretold_22 (by decide) (by split <;> omega) (fun c22 => ?_) (fun c22 => ?_)
      · refine ax_iconst dX6_foretold_29 ?_
        refine ax_iconst dX6_foretold_30 ?_
        refine ax_cviP2 dX6_foretold_31 ln_X6_foretold_173 (Nat.le_of_ble_eq_true rfl) (Or.inr rfl) (by omega) hM0.1 rfl (s6_failsF hN hM0.1 z0) ?_
        refine ax_if_eq (tgt := 39) dX6_foretold_34 (by decide) (by omega) (fun c34 => ?_) (fun c34 => ?_)
        · refine ax_aload_n dX6_foretold_39 rfl ?_
          refine ax_getf dX6_foretold_40 ck6 fl_X6_17 (by decide) (by omega) hM0.1 rfl ?_
          refine ax_aload_n dX6_foretold_43 rfl ?_
          refine ax_getf dX6_foretold_44 ck6 fl_X6_23 (by decide) (by omega) hM0.1 rfl ?_
          refine ax_csv2 dX6_foretold_47 ln_X6_foretold_185 (Nat.le_of_ble_eq_true rfl) rfl (s6_copy (F := fun i => (K i : Int)) (by omega) (by omega) (by decide) hM0.2 (s16.mv (y0 116 (by decide)))) (fun g1 hq => ?_)
          obtain ⟨hC1, x1⟩ := hq
          have hM1 : MD g1 (upZ s 0 0) K := ⟨(x1 112 (by decide)).trans hM0.1, hM0.2.mv (x1 114 (by decide))⟩
          refine ax_iconst dX6_foretold_50 ?_
          refine ax_istore_n dX6_foretold_51 rfl (by decide) ?_
          refine ax_iconst dX6_foretold_52 ?_
          refine ax_istore dX6_foretold_53 rfl (by decide) ?_
          refine l6_fot hN hK (T := a) (by omega) (fun g2 hM2 v1 v2 v3 x2 => ?_) a 0 g1 (by omega) (by rw [fot_0]; exact hM1) (t1.mv ((x1 126 (by decide)).trans (y0 126 (by decide)))) (t2.mv ((x1 127 (by decide)).trans (y0 127 (by decide)))) (t3.mv ((x1 128 (by decide)).trans (y0 128 (by decide)))) EqX.rf
          refine ax_iload_n dX6_foretold_74 rfl ?_
          refine ax_if_ne (tgt := 85) dX6_foretold_75 (by decide) (by omega) (fun c75 => ?_) (fun c75 => ?_)
          · refine ax_iload_n dX6_foretold_85 rfl ?_
            refine ax_iconst dX6_foretold_86 ?_
            refine ax_icmp_ne (tgt := 98) dX6_foretold_87 (by decide) (by omega) (by omega) (fun c87 => ?_) (fun c87 => ?_)
            · refine ax_iload_n dX6_foretold_98 rfl ?_
              refine ax_iconst dX6_foretold_99 ?_
              refine ax_icmp_ne (tgt := 110) dX6_foretold_100 (by decide) (by omega) (by omega) (fun c100 => ?_) (fun c100 => ?_)
              · refine ax_iload_n dX6_foretold_110 rfl ?_
                refine ax_iconst dX6_foretold_111 ?_
                refine ax_icmp_ne (tgt := 122) dX6_foretold_112 (by decide) (by omega) (by omega) (fun c112 => ?_) (fun c112 => ?_)
                · refine ax_iload_n dX6_foretold_122 rfl ?_
                  refine ax_istore dX6_foretold_123 rfl (by decide) ?_
                  refine ax_aload_n dX6_foretold_125 rfl ?_
                  refine ax_getf dX6_foretold_126 ck6 fl_X6_23 (by decide) (by omega) hM2.1 rfl ?_
                  refine ax_aload_n dX6_foretold_129 rfl ?_
                  refine ax_getf dX6_foretold_130 ck6 fl_X6_17 (by decide) (by omega) hM2.1 rfl ?_
                  refine ax_csv2 dX6_foretold_133 ln_X6_foretold_185 (Nat.le_of_ble_eq_true rfl) rfl (s6_copy (F := fun i => (K i : Int)) (by omega) (by omega) (by decide) (hC1.mv (x2 116 (by decide))) hM2.2.sh) (fun g3 hq => ?_)
                  obtain ⟨hC3, x3⟩ := hq
                  refine ax_iload dX6_foretold_136 rfl ?_
                  exact ax_iret dX6_foretold_138 rfl ⟨rfl, ⟨(x3 112 (by decide)).trans hM2.1, hC3⟩, ⟨_, hC1.mv ((x3 116 (by decide)).trans (x2 116 (by decide)))⟩, v1.mv (x3 126 (by decide)), v2.mv (x3 127 (by decide)), v3.mv (x3 128 (by decide)), fun a a1 a2 a3 a4 a5 a6 => (x3 a (by simp; omega)).trans ((x2 a (by simp; omega)).trans ((x1 a (by simp; omega)).trans (y0 a a1)))⟩
                · exfalso
                  omega
              · exfalso
                omega
            · exfalso
              omega
          · exfalso
            omega
        · exfalso
          omega
      · exfalso
        rw [if_pos (by omega)] at c22
        first | exact absurd c22 (by decide) | exact c22 rfl
theorem s6_foretoldT (hN : 132 ≤ NC) (hM : MD h s K) (hK : KI K) {a : Int} (ga : -2147483648 ≤ a ∧ a < 2147483648) {c : Int} (gc : -2147483648 ≤ c ∧ c < 2147483648) (hx : ¬ ((1 ≤ a ∧ a ≤ 40) ∧ 0 ≤ c ∧ c ≤ 4)) : Cl NC M_X6_foretold [.ref 112, .int (I a), .int (I c)] h (fun v h1 => v = .int (I (0)) ∧ MD h1 (upZ s 0 1) K ∧ Y2 h h1) := by
  refine ax_aload_n dX6_foretold_0 rfl ?_
  refine ax_iconst dX6_foretold_1 ?_
  refine ax_putf dX6_foretold_2 ck6 fl_X6_51 (by decide) (by omega) hM.1 rfl (Or.inl rfl) (Nat.le_of_ble_eq_true rfl) rfl ?_
  generalize hg0 : va_up h 112 _ = g0
  have hM0 : MD g0 (upZ s 0 0) K := by rw [← hg0]; exact hM.s0
  have y0 : Y2 h g0 := fun a ha => by rw [← hg0]; exact vu_ne ha
  have z0 : upZ s 0 0 0 = 0 := rfl
  refine ax_aload_n dX6_foretold_5 rfl ?_
  refine ax_iload_n dX6_foretold_6 rfl ?_
  refine ax_iconst dX6_foretold_7 ?_
  refine ax_bipush dX6_foretold_8 (by decide) ?_
  refine ax_csiP3 dX6_foretold_10 ln_X6_foretold_54 (Nat.le_of_ble_eq_true rfl) (Or.inr rfl) (s6_in ga (by omega) (by omega)) ?_
  refine ax_if_eq (tgt := 25) dX6_foretold_13 (by decide) (by split <;> omega) (fun c13 => ?_) (fun c13 => ?_)
  · refine ax_iconst dX6_foretold_25 ?_
    refine ax_goto (tgt := 30) dX6_foretold_26 (by decide) ?_
    refine ax_iconst dX6_foretold_30 ?_
    refine ax_cvi2 dX6_foretold_31 ln_X6_foretold_173 (Nat.le_of_ble_eq_true rfl) (Or.inr rfl) (by omega) hM0.1 rfl (s6_failsT hN hM0.1 z0 (by decide)) (fun r g1 hq => ?_)
    obtain ⟨hv, hO1, y1⟩ := hq
    cases hv
    have hM1 : MD g1 (upZ (upZ s 0 0) 0 1) K := ⟨hO1, hM0.2.mv (y1 114 (by decide))⟩
    refine ax_if_eq (tgt := 39) dX6_foretold_34 (by decide) (by omega) (fun c34 => ?_) (fun c34 => ?_)
    · exfalso
      omega
    · refine ax_iconst dX6_foretold_37 ?_
      exact ax_iret dX6_foretold_38 rfl ⟨rfl, (by rw [show upZ (upZ s 0 0) 0 1 = upZ s 0 1 from funext fun j => by unfold upZ; split <;> rfl] at hM1; exact hM1), y0.tr y1⟩
  · refine ax_iload_n dX6_foretold_16 rfl ?_
    refine ax_iconst dX6_foretold_17 ?_
    refine ax_iconst dX6_foretold_18 ?_
    refine ax_csiP3 dX6_foretold_19 ln_X6_foretold_54 (Nat.le_of_ble_eq_true rfl) (Or.inr rfl) (s6_in gc (by omega) (by omega)) ?_
    refine ax_if_ne (tgt := 29) dX6_foretold_22 (by decide) (by split <;> omega) (fun c22 => ?_) (fun c22 => ?_)
    · exfalso
      split at c13 <;> split at c22 <;> omega
    · refine ax_iconst dX6_foretold_25 ?_
      refine ax_goto (tgt := 30) dX6_foretold_26 (by decide) ?_
      refine ax_iconst dX6_foretold_30 ?_
      refine ax_cvi2 dX6_foretold_31 ln_X6_foretold_173 (Nat.le_of_ble_eq_true rfl) (Or.inr rfl) (by omega) hM0.1 rfl (s6_failsT hN hM0.1 z0 (by decide)) (fun r g1 hq => ?_)
      obtain ⟨hv, hO1, y1⟩ := hq
      cases hv
      have hM1 : MD g1 (upZ (upZ s 0 0) 0 1) K := ⟨hO1, hM0.2.mv (y1 114 (by decide))⟩
      refine ax_if_eq (tgt := 39) dX6_foretold_34 (by decide) (by omega) (fun c34 => ?_) (fun c34 => ?_)
      · exfalso
        omega
      · refine ax_iconst dX6_foretold_37 ?_
        exact ax_iret dX6_foretold_38 rfl ⟨rfl, (by rw [show upZ (upZ s 0 0) 0 1 = upZ s 0 1 from funext fun j => by unfold upZ; split <;> rfl] at hM1; exact hM1), y0.tr y1⟩
theorem s6_pass (hN : 132 ≤ NC) (hM : MD h s K) (hK : KI K) (hs : s 12 = (d : Int)) (hH : MH h H d) (t1 : sh 0 (h 126) 180) (t2 : sh 0 (h 127) 180) (t3 : sh 0 (h 128) 180) {a : Nat} (ha : 1 ≤ a ∧ a ≤ 20) : Cl NC M_X6_pass [.ref 112, .int (I (a : Int))] h (fun v h1 => v = .int (I (blI K a)) ∧ MD h1 (upZ (upZ s 0 0) 12 ((min (d + 1) 8 : Nat) : Int)) (fotK K a) ∧ MH h1 (psh K H) (min (d + 1) 8) ∧ sh 0 (h1 126) 180 ∧ sh 0 (h1 127) 180 ∧ sh 0 (h1 128) 180 ∧ ∀ a, a ≠ 112 → a ≠ 114 → ¬ (118 ≤ a ∧ a ≤ 125) → a ≠ 126 → a ≠ 127 → a ≠ 128 → h1 a = h a) := by
  refine ax_aload_n dX6_pass_0 rfl ?_
  refine ax_iconst dX6_pass_1 ?_
  refine ax_putf dX6_pass_2 ck6 fl_X6_51 (by decide) (by omega) hM.1 rfl (Or.inl rfl) (Nat.le_of_ble_eq_true rfl) rfl ?_
  generalize hg0 : va_up h 112 _ = g0
  have hM0 : MD g0 (upZ s 0 0) K := by rw [← hg0]; exact hM.s0
  have y0 : Y2 h g0 := fun a ha => by rw [← hg0]; exact vu_ne ha
  have z0 : upZ s 0 0 0 = 0 := rfl
  refine ax_aload_n dX6_pass_5 rfl ?_
  refine ax_iload_n dX6_pass_6 rfl ?_
  refine ax_iconst dX6_pass_7 ?_
  refine ax_bipush dX6_pass_8 (by decide) ?_
  refine ax_csiP3 dX6_pass_10 ln_X6_pass_54 (Nat.le_of_ble_eq_true rfl) (Or.inr rfl) (s6_in (by omega) (by omega) (by omega)) ?_
  refine ax_if_ne (tgt := 20) dX6_pass_13 (by decide) (by split <;> omega) (fun c13 => ?_) (fun c13 => ?_)
  · refine ax_iconst dX6_pass_20 ?_
    refine ax_iconst dX6_pass_21 ?_
    refine ax_cviP2 dX6_pass_22 ln_X6_pass_173 (Nat.le_of_ble_eq_true rfl) (Or.inr rfl) (by omega) hM0.1 rfl (s6_failsF hN hM0.1 z0) ?_
    refine ax_if_eq (tgt := 30) dX6_pass_25 (by decide) (by omega) (fun c25 => ?_) (fun c25 => ?_)
    · refine ax_aload_n dX6_pass_30 rfl ?_
      refine ax_cvv0 dX6_pass_31 ln_X6_pass_182 (Nat.le_of_ble_eq_true rfl) rfl (by omega) hM0.1 rfl (s6_remember hN hM0 (show upZ s 0 0 12 = (d : Int) from hs) (hH.mv (fun a a1 a2 => y0 a (by omega)))) (fun g1 hq => ?_)
      obtain ⟨hM1, hH1, x1⟩ := hq
      refine ax_iconst dX6_pass_34 ?_
      refine ax_istore_n dX6_pass_35 rfl (by decide) ?_
      refine ax_iconst dX6_pass_36 ?_
      refine ax_istore_n dX6_pass_37 rfl (by decide) ?_
      refine l6_pas hN hK (T := a) (by omega) (w := .null) (fun g2 hM2 v1 v2 v3 x2 => ?_) a 0 g1 (by omega) (by rw [fot_0]; exact hM1) (t1.mv ((x1 126 (by decide)).trans (y0 126 (by decide)))) (t2.mv ((x1 127 (by decide)).trans (y0 127 (by decide)))) (t3.mv ((x1 128 (by decide)).trans (y0 128 (by decide)))) EqX.rf
      refine ax_iload_n dX6_pass_56 rfl ?_
      exact ax_iret dX6_pass_57 rfl ⟨rfl, hM2, hH1.mv (fun a a1 a2 => x2 a (by simp; omega)), v1, v2, v3, fun a a1 a2 a3 a4 a5 a6 => (x2 a (by simp; omega)).trans ((x1 a (by simp; omega)).trans (y0 a a1))⟩
    · exfalso
      omega
  · exfalso
    rw [if_pos (by omega)] at c13
    first | exact absurd c13 (by decide) | exact c13 rfl
theorem s6_passT (hN : 132 ≤ NC) (hM : MD h s K) (hK : KI K) {a : Int} (ga : -2147483648 ≤ a ∧ a < 2147483648) (ha : ¬ (1 ≤ a ∧ a ≤ 20)) : Cl NC M_X6_pass [.ref 112, .int (I a)] h (fun v h1 => v = .int (I (0)) ∧ MD h1 (upZ s 0 1) K ∧ Y2 h h1) := by
  refine ax_aload_n dX6_pass_0 rfl ?_
  refine ax_iconst dX6_pass_1 ?_
  refine ax_putf dX6_pass_2 ck6 fl_X6_51 (by decide) (by omega) hM.1 rfl (Or.inl rfl) (Nat.le_of_ble_eq_true rfl) rfl ?_
  generalize hg0 : va_up h 112 _ = g0
  have hM0 : MD g0 (upZ s 0 0) K := by rw [← hg0]; exact hM.s0
  have y0 : Y2 h g0 := fun a ha => by rw [← hg0]; exact vu_ne ha
  have z0 : upZ s 0 0 0 = 0 := rfl
  refine ax_aload_n dX6_pass_5 rfl ?_
  refine ax_iload_n dX6_pass_6 rfl ?_
  refine ax_iconst dX6_pass_7 ?_
  refine ax_bipush dX6_pass_8 (by decide) ?_
  refine ax_csiP3 dX6_pass_10 ln_X6_pass_54 (Nat.le_of_ble_eq_true rfl) (Or.inr rfl) (s6_in ga (by omega) (by omega)) ?_
  refine ax_if_ne (tgt := 20) dX6_pass_13 (by decide) (by split <;> omega) (fun c13 => ?_) (fun c13 => ?_)
  · exfalso
    rw [if_neg ha] at c13
    first | exact absurd c13 (by decide) | exact c13 rfl
  · refine ax_iconst dX6_pass_16 ?_
    refine ax_goto (tgt := 21) dX6_pass_17 (by decide) ?_
    refine ax_iconst dX6_pass_21 ?_
    refine ax_cvi2 dX6_pass_22 ln_X6_pass_173 (Nat.le_of_ble_eq_true rfl) (Or.inr rfl) (by omega) hM0.1 rfl (s6_failsT hN hM0.1 z0 (by decide)) (fun r g1 hq => ?_)
    obtain ⟨hv, hO1, y1⟩ := hq
    cases hv
    have hM1 : MD g1 (upZ (upZ s 0 0) 0 1) K := ⟨hO1, hM0.2.mv (y1 114 (by decide))⟩
    refine ax_if_eq (tgt := 30) dX6_pass_25 (by decide) (by omega) (fun c25 => ?_) (fun c25 => ?_)
    · exfalso
      omega
    · refine ax_iconst dX6_pass_28 ?_
      exact ax_iret dX6_pass_29 rfl ⟨rfl, (by rw [show upZ (upZ s 0 0) 0 1 = upZ s 0 1 from funext fun j => by unfold upZ; split <;> rfl] at hM1; exact hM1), y0.tr y1⟩
theorem l6_evens (hN : 132 ≤ NC) (hM : MD h s K) (hK : KI K) {c : Nat} (hc : c < 7) (kk : ∀ w6 : Value, Ex NC none M_X6_evens 140 [.ref 112, .int (I (c : Int)), .int (I (balW K)), .int (I (evS K c (nC K)).1), .int (I (evS K c (nC K)).2), .int (I (nC K : Int)), w6] [] h Q) : ∀ (n : Nat) (i : Nat) (w6 : Value), i + n = nC K → Ex NC none M_X6_evens 46 [.ref 112, .int (I (c : Int)), .int (I (balW K)), .int (I (evS K c (i)).1), .int (I (evS K c (i)).2), .int (I (i : Int)), w6] [] h Q := by
  intro n
  induction n with
  | zero =>
    intro i w6 hi
    have n0 := nC_le hK
    have md : i % K 0 ≤ i := Nat.mod_le _ _
    have er := ev_rg hK (c := c) (n := i) (by omega)
    have br := bal_rg hK
    have k0 := hK.1
    have hv9 : i < nC K → -99 ≤ hvN K c i ∧ hvN K c i ≤ 99 ∧ K (74 + i) ≤ 6 := fun z => ⟨(hv_rg hK hc (by omega)).1, (hv_rg hK hc (by omega)).2, hK.2.2.2.2.1 i (by omega)⟩
    refine ax_iload dX6_evens_46 rfl ?_
    refine ax_aload_n dX6_evens_48 rfl ?_
    refine ax_cviP0 dX6_evens_49 ln_X6_evens_205 (Nat.le_of_ble_eq_true rfl) (Or.inl rfl) (by omega) hM.1 rfl (s6_cells hN hM hK) ?_
    refine ax_icmp_ge (tgt := 140) dX6_evens_52 (by decide) (by omega) (by omega) (fun c52 => ?_) (fun c52 => ?_)
    · have e : i = nC K := by omega
      subst e
      exact kk w6
    · exfalso
      omega
  | succ n ih =>
    intro i w6 hi
    have n0 := nC_le hK
    have md : i % K 0 ≤ i := Nat.mod_le _ _
    have er := ev_rg hK (c := c) (n := i) (by omega)
    have br := bal_rg hK
    have k0 := hK.1
    have hv9 : i < nC K → -99 ≤ hvN K c i ∧ hvN K c i ≤ 99 ∧ K (74 + i) ≤ 6 := fun z => ⟨(hv_rg hK hc (by omega)).1, (hv_rg hK hc (by omega)).2, hK.2.2.2.2.1 i (by omega)⟩
    refine ax_iload dX6_evens_46 rfl ?_
    refine ax_aload_n dX6_evens_48 rfl ?_
    refine ax_cviP0 dX6_evens_49 ln_X6_evens_205 (Nat.le_of_ble_eq_true rfl) (Or.inl rfl) (by omega) hM.1 rfl (s6_cells hN hM hK) ?_
    refine ax_icmp_ge (tgt := 140) dX6_evens_52 (by decide) (by omega) (by omega) (fun c52 => ?_) (fun c52 => ?_)
    · exfalso
      omega
    · refine ax_aload_n dX6_evens_55 rfl ?_
      refine ax_iload dX6_evens_56 rfl ?_
      refine ax_cviP1 dX6_evens_58 ln_X6_evens_208 (Nat.le_of_ble_eq_true rfl) (Or.inr rfl) (by omega) hM.1 rfl (s6_isCell hN hM hK (c := i) (by omega)) ?_
      refine ax_if_ne (tgt := 67) dX6_evens_61 (by decide) (by split <;> omega) (fun c61 => ?_) (fun c61 => ?_)
      · have ho : on K i = true := by
          by_cases q : on K i = true
          · exact q
          · rw [if_neg q] at c61; exact absurd rfl c61
        refine ax_aload_n dX6_evens_67 rfl ?_
        refine ax_iload dX6_evens_68 rfl ?_
        refine ax_cviP1 dX6_evens_70 ln_X6_evens_192 (Nat.le_of_ble_eq_true rfl) (Or.inl rfl) (by omega) hM.1 rfl (s6_xOf hN hM hK (c := i) (by omega)) ?_
        refine ax_aload_n dX6_evens_73 rfl ?_
        refine ax_getf dX6_evens_74 ck6 fl_X6_17 (by decide) (by omega) hM.1 rfl ?_
        refine ax_iconst dX6_evens_77 ?_
        refine ax_ialr (j := 0) (w := (K 0 : Int)) dX6_evens_78 (by omega) hM.2 (by omega) (by omega) (by decide) rfl ?_
        refine ax_iconst dX6_evens_79 ?_
        refine ax_idiv dX6_evens_80 (by omega) (by omega) ?_
        refine ax_isub dX6_evens_81 ?_
        refine ex_l_signum (by exact dX6_evens_82) (by decide) (show 2 ≤ _ ∧ 50 ≤ _ from ⟨by decide, by decide⟩) (Nat.le_of_ble_eq_true rfl) ?_
        rw [sgn_I (by omega)]
        refine ax_aload_n dX6_evens_85 rfl ?_
        refine ax_iload_n dX6_evens_86 rfl ?_
        refine ax_cviP1 dX6_evens_87 ln_X6_evens_211 (Nat.le_of_ble_eq_true rfl) (Or.inl rfl) (by omega) hM.1 rfl (s6_colourWeight hN hM hK (by omega)) ?_
        refine ax_aload_n dX6_evens_90 rfl ?_
        refine ax_aload_n dX6_evens_91 rfl ?_
        refine ax_getf dX6_evens_92 ck6 fl_X6_17 (by decide) (by omega) hM.1 rfl ?_
        refine ax_bipush dX6_evens_95 (by decide) ?_
        refine ax_iload dX6_evens_97 rfl ?_
        refine ax_iadd dX6_evens_99 ?_
        refine ax_ialr (j := (74 + i)) (w := (K (74 + i) : Int)) dX6_evens_100 (by omega) hM.2 (by omega) (by omega) (by decide) rfl ?_
        refine ax_cviP1 dX6_evens_101 ln_X6_evens_211 (Nat.le_of_ble_eq_true rfl) (Or.inl rfl) (by omega) hM.1 rfl (s6_colourWeight hN hM hK (c := K (74 + i)) (by omega)) ?_
        refine ax_isub dX6_evens_104 ?_
        refine ax_imul dX6_evens_105 ?_
        rw [show sgz (((i % K 0 : Nat) : Int) - (K 0 : Int) / 2) * ((K (18 + c) : Int) - (K (18 + K (74 + i)) : Int)) = hvN K c i by unfold hvN sdN; push_cast; rfl]
        refine ax_istore dX6_evens_106 rfl (by decide) ?_
        refine ax_iload_n dX6_evens_108 rfl ?_
        refine ax_iload dX6_evens_109 rfl ?_
        refine ax_iadd dX6_evens_111 ?_
        refine ex_l_abs (by exact dX6_evens_112) (by decide) (show 2 ≤ _ ∧ 50 ≤ _ from ⟨by decide, by decide⟩) (Nat.le_of_ble_eq_true rfl) ?_
        rw [abs_I (by omega)]
        refine ax_iload_n dX6_evens_115 rfl ?_
        refine ax_icmp_lt (tgt := 122) dX6_evens_116 (by decide) (by omega) (by omega) (fun c116 => ?_) (fun c116 => ?_)
        · have e1 := ev_t (K := K) (c := c) (n := i) ⟨ho, c116⟩
          refine ax_iload_n dX6_evens_122 rfl ?_
          refine ax_iload dX6_evens_123 rfl ?_
          refine ax_iadd dX6_evens_125 ?_
          refine ex_l_abs (by exact dX6_evens_126) (by decide) (show 2 ≤ _ ∧ 50 ≤ _ from ⟨by decide, by decide⟩) (Nat.le_of_ble_eq_true rfl) ?_
          rw [abs_I (by omega)]
          refine ax_istore_n dX6_evens_129 rfl (by decide) ?_
          refine ax_iload dX6_evens_130 rfl ?_
          refine ax_istore dX6_evens_132 rfl (by decide) ?_
          refine ax_iinc dX6_evens_134 rfl rfl (by decide) ?_
          refine ax_goto (tgt := 46) dX6_evens_137 (by decide) ?_
          first | (have := ih (i + 1) w6 (by omega); rw [e1] at this; exact this) | (have := ih (i + 1) (.int (I (hvN K c i))) (by omega); rw [e1] at this; exact this)
        · have e1 := ev_f (K := K) (c := c) (n := i) (by rintro ⟨-, q⟩; omega)
          refine ax_goto (tgt := 134) dX6_evens_119 (by decide) ?_
          refine ax_iinc dX6_evens_134 rfl rfl (by decide) ?_
          refine ax_goto (tgt := 46) dX6_evens_137 (by decide) ?_
          first | (have := ih (i + 1) w6 (by omega); rw [e1] at this; exact this) | (have := ih (i + 1) (.int (I (hvN K c i))) (by omega); rw [e1] at this; exact this)
      · have e1 := ev_f (K := K) (c := c) (n := i) (fun z => by rw [if_pos z.1] at c61; exact absurd c61 (by decide))
        refine ax_goto (tgt := 134) dX6_evens_64 (by decide) ?_
        refine ax_iinc dX6_evens_134 rfl rfl (by decide) ?_
        refine ax_goto (tgt := 46) dX6_evens_137 (by decide) ?_
        first | (have := ih (i + 1) w6 (by omega); rw [e1] at this; exact this) | (have := ih (i + 1) (.int (I (hvN K c i))) (by omega); rw [e1] at this; exact this)
theorem s6_evens (hN : 132 ≤ NC) (hM : MD h s K) (hK : KI K) {a : Nat} (ha : a ≤ 6) : Cl NC M_X6_evens [.ref 112, .int (I (a : Int))] h (fun v h1 => v = .int (I ((evS K a (nC K)).2)) ∧ MD h1 (upZ s 0 0) K ∧ Y2 h h1) := by
  refine ax_aload_n dX6_evens_0 rfl ?_
  refine ax_iconst dX6_evens_1 ?_
  refine ax_putf dX6_evens_2 ck6 fl_X6_51 (by decide) (by omega) hM.1 rfl (Or.inl rfl) (Nat.le_of_ble_eq_true rfl) rfl ?_
  generalize hg0 : va_up h 112 _ = g0
  have hM0 : MD g0 (upZ s 0 0) K := by rw [← hg0]; exact hM.s0
  have y0 : Y2 h g0 := fun a ha => by rw [← hg0]; exact vu_ne ha
  have z0 : upZ s 0 0 0 = 0 := rfl
  refine ax_aload_n dX6_evens_5 rfl ?_
  refine ax_iload_n dX6_evens_6 rfl ?_
  refine ax_iconst dX6_evens_7 ?_
  refine ax_bipush dX6_evens_8 (by decide) ?_
  refine ax_csiP3 dX6_evens_10 ln_X6_evens_54 (Nat.le_of_ble_eq_true rfl) (Or.inr rfl) (s6_in (by omega) (by omega) (by omega)) ?_
  refine ax_if_ne (tgt := 20) dX6_evens_13 (by decide) (by split <;> omega) (fun c13 => ?_) (fun c13 => ?_)
  · refine ax_iconst dX6_evens_20 ?_
    refine ax_iconst dX6_evens_21 ?_
    refine ax_cviP2 dX6_evens_22 ln_X6_evens_173 (Nat.le_of_ble_eq_true rfl) (Or.inr rfl) (by omega) hM0.1 rfl (s6_failsF hN hM0.1 z0) ?_
    refine ax_if_eq (tgt := 30) dX6_evens_25 (by decide) (by omega) (fun c25 => ?_) (fun c25 => ?_)
    · refine ax_aload_n dX6_evens_30 rfl ?_
      refine ax_cviP0 dX6_evens_31 ln_X6_evens_249 (Nat.le_of_ble_eq_true rfl) (Or.inl rfl) (by omega) hM0.1 rfl (s6_balance hN hM0 hK) ?_
      refine ax_istore_n dX6_evens_34 rfl (by decide) ?_
      refine ax_iload_n dX6_evens_35 rfl ?_
      refine ex_l_abs (by exact dX6_evens_36) (by decide) (show 2 ≤ _ ∧ 50 ≤ _ from ⟨by decide, by decide⟩) (Nat.le_of_ble_eq_true rfl) ?_
      rw [abs_I (by have := bal_rg hK; omega)]
      refine ax_istore_n dX6_evens_39 rfl (by decide) ?_
      refine ax_iconst dX6_evens_40 ?_
      refine ax_istore dX6_evens_41 rfl (by decide) ?_
      refine ax_iconst dX6_evens_43 ?_
      refine ax_istore dX6_evens_44 rfl (by decide) ?_
      refine l6_evens hN hM0 hK (c := a) (by omega) (fun w6 => ?_) (nC K) 0 .null (by omega)
      refine ax_iload dX6_evens_140 rfl ?_
      exact ax_iret dX6_evens_142 rfl ⟨rfl, hM0, y0⟩
    · exfalso
      omega
  · exfalso
    rw [if_pos (by omega)] at c13
    first | exact absurd c13 (by decide) | exact c13 rfl
theorem s6_evensT (hN : 132 ≤ NC) (hM : MD h s K) (hK : KI K) {a : Int} (ga : -2147483648 ≤ a ∧ a < 2147483648) (ha : ¬ (0 ≤ a ∧ a ≤ 6)) : Cl NC M_X6_evens [.ref 112, .int (I a)] h (fun v h1 => v = .int (I (0)) ∧ MD h1 (upZ s 0 1) K ∧ Y2 h h1) := by
  refine ax_aload_n dX6_evens_0 rfl ?_
  refine ax_iconst dX6_evens_1 ?_
  refine ax_putf dX6_evens_2 ck6 fl_X6_51 (by decide) (by omega) hM.1 rfl (Or.inl rfl) (Nat.le_of_ble_eq_true rfl) rfl ?_
  generalize hg0 : va_up h 112 _ = g0
  have hM0 : MD g0 (upZ s 0 0) K := by rw [← hg0]; exact hM.s0
  have y0 : Y2 h g0 := fun a ha => by rw [← hg0]; exact vu_ne ha
  have z0 : upZ s 0 0 0 = 0 := rfl
  refine ax_aload_n dX6_evens_5 rfl ?_
  refine ax_iload_n dX6_evens_6 rfl ?_
  refine ax_iconst dX6_evens_7 ?_
  refine ax_bipush dX6_evens_8 (by decide) ?_
  refine ax_csiP3 dX6_evens_10 ln_X6_evens_54 (Nat.le_of_ble_eq_true rfl) (Or.inr rfl) (s6_in ga (by omega) (by omega)) ?_
  refine ax_if_ne (tgt := 20) dX6_evens_13 (by decide) (by split <;> omega) (fun c13 => ?_) (fun c13 => ?_)
  · exfalso
    rw [if_neg ha] at c13
    first | exact absurd c13 (by decide) | exact c13 rfl
  · refine ax_iconst dX6_evens_16 ?_
    refine ax_goto (tgt := 21) dX6_evens_17 (by decide) ?_
    refine ax_iconst dX6_evens_21 ?_
    refine ax_cvi2 dX6_evens_22 ln_X6_evens_173 (Nat.le_of_ble_eq_true rfl) (Or.inr rfl) (by omega) hM0.1 rfl (s6_failsT hN hM0.1 z0 (by decide)) (fun r g1 hq => ?_)
    obtain ⟨hv, hO1, y1⟩ := hq
    cases hv
    have hM1 : MD g1 (upZ (upZ s 0 0) 0 1) K := ⟨hO1, hM0.2.mv (y1 114 (by decide))⟩
    refine ax_if_eq (tgt := 30) dX6_evens_25 (by decide) (by omega) (fun c25 => ?_) (fun c25 => ?_)
    · exfalso
      omega
    · refine ax_iconst dX6_evens_28 ?_
      exact ax_iret dX6_evens_29 rfl ⟨rfl, (by rw [show upZ (upZ s 0 0) 0 1 = upZ s 0 1 from funext fun j => by unfold upZ; split <;> rfl] at hM1; exact hM1), y0.tr y1⟩
theorem l6_regs (hN : 132 ≤ NC) (hK : KI K) {col : Nat} (hcol : col < 7) (kk : ∀ (acc : Int) (w4 : Value) (N : Nat → Int) (g : hp), RG K col (nC K) N acc → MD g s K → row 2 (g 129) 180 N → sh 0 (g 130) 180 → EqX [129, 130] h g → Ex NC none M_X6_regions 95 [.ref 112, .int (I (col : Int)), .int (I acc), .int (I (nC K : Int)), w4] [] g Q) : ∀ (n : Nat) (c : Nat) (acc : Int) (w4 : Value) (N : Nat → Int) (g : hp), c + n = nC K → RG K col c N acc → MD g s K → row 2 (g 129) 180 N → sh 0 (g 130) 180 → EqX [129, 130] h g → Ex NC none M_X6_regions 38 [.ref 112, .int (I (col : Int)), .int (I acc), .int (I (c : Int)), w4] [] g Q := by
  intro n
  induction n with
  | zero =>
    intro c acc w4 N g hi hRG hMg hR s10 hX
    have n0 := nC_le hK
    have mk := RG.mk hK hRG
    refine ax_iload_n dX6_regions_38 rfl ?_
    refine ax_aload_n dX6_regions_39 rfl ?_
    refine ax_cviP0 dX6_regions_40 ln_X6_regions_205 (Nat.le_of_ble_eq_true rfl) (Or.inl rfl) (by omega) hMg.1 rfl (s6_cells hN hMg hK) ?_
    refine ax_icmp_ge (tgt := 95) dX6_regions_43 (by decide) (by omega) (by omega) (fun c43 => ?_) (fun c43 => ?_)
    · have e : c = nC K := by omega
      subst e
      exact kk acc w4 N g hRG hMg hR s10 hX
    · exfalso
      omega
  | succ n ih =>
    intro c acc w4 N g hi hRG hMg hR s10 hX
    have n0 := nC_le hK
    have mk := RG.mk hK hRG
    refine ax_iload_n dX6_regions_38 rfl ?_
    refine ax_aload_n dX6_regions_39 rfl ?_
    refine ax_cviP0 dX6_regions_40 ln_X6_regions_205 (Nat.le_of_ble_eq_true rfl) (Or.inl rfl) (by omega) hMg.1 rfl (s6_cells hN hMg hK) ?_
    refine ax_icmp_ge (tgt := 95) dX6_regions_43 (by decide) (by omega) (by omega) (fun c43 => ?_) (fun c43 => ?_)
    · exfalso
      omega
    · refine ax_aload_n dX6_regions_46 rfl ?_
      refine ax_iload_n dX6_regions_47 rfl ?_
      refine ax_cviP1 dX6_regions_48 ln_X6_regions_208 (Nat.le_of_ble_eq_true rfl) (Or.inr rfl) (by omega) hMg.1 rfl (s6_isCell hN hMg hK (c := c) (by omega)) ?_
      refine ax_if_eq (tgt := 89) dX6_regions_51 (by decide) (by split <;> omega) (fun c51 => ?_) (fun c51 => ?_)
      · refine ax_iinc dX6_regions_89 rfl rfl (by decide) ?_
        refine ax_goto (tgt := 38) dX6_regions_92 (by decide) ?_
        first
        | exact ih (c + 1) (acc + 1) _ N2 g2 (by omega) ⟨_, _, hRG, Or.inl ⟨ho, by omega, c60, hE2, rfl⟩⟩ hM2 hN2 hs2 (hX.tr x2)
        | exact ih (c + 1) acc _ N g (by omega) ⟨_, _, hRG, Or.inr ⟨by rintro ⟨z1, z2, z3⟩; (rw [if_pos z1] at c51; exact absurd c51 (by decide)), fun _ _ => rfl, rfl⟩⟩ hMg hR s10 hX
        | exact ih (c + 1) acc _ N g (by omega) ⟨_, _, hRG, Or.inr ⟨by rintro ⟨z1, z2, z3⟩; exact c60 z3, fun _ _ => rfl, rfl⟩⟩ hMg hR s10 hX
        | exact ih (c + 1) acc _ N g (by omega) ⟨_, _, hRG, Or.inr ⟨by rintro ⟨z1, z2, z3⟩; exact c73 (by rw [z2]), fun _ _ => rfl, rfl⟩⟩ hMg hR s10 hX
      · have ho : on K c = true := by
          by_cases q : on K c = true
          · exact q
          · rw [if_neg q] at c51; exact absurd rfl c51
        refine ax_aload_n dX6_regions_54 rfl ?_
        refine ax_getf dX6_regions_55 ck6 fl_X6_40 (by decide) (by omega) hMg.1 rfl ?_
        refine ax_iload_n dX6_regions_58 rfl ?_
        refine ax_zalr (j := c) (w := (N c : Int)) dX6_regions_59 (by omega) hR (by omega) (by omega) (by decide) rfl ?_
        refine ax_if_ne (tgt := 89) dX6_regions_60 (by decide) (by have := mk.1 c (by omega); omega) (fun c60 => ?_) (fun c60 => ?_)
        · refine ax_iinc dX6_regions_89 rfl rfl (by decide) ?_
          refine ax_goto (tgt := 38) dX6_regions_92 (by decide) ?_
          first
          | exact ih (c + 1) (acc + 1) _ N2 g2 (by omega) ⟨_, _, hRG, Or.inl ⟨ho, by omega, c60, hE2, rfl⟩⟩ hM2 hN2 hs2 (hX.tr x2)
          | exact ih (c + 1) acc _ N g (by omega) ⟨_, _, hRG, Or.inr ⟨by rintro ⟨z1, z2, z3⟩; (rw [if_pos z1] at c51; exact absurd c51 (by decide)), fun _ _ => rfl, rfl⟩⟩ hMg hR s10 hX
          | exact ih (c + 1) acc _ N g (by omega) ⟨_, _, hRG, Or.inr ⟨by rintro ⟨z1, z2, z3⟩; exact c60 z3, fun _ _ => rfl, rfl⟩⟩ hMg hR s10 hX
          | exact ih (c + 1) acc _ N g (by omega) ⟨_, _, hRG, Or.inr ⟨by rintro ⟨z1, z2, z3⟩; exact c73 (by rw [z2]), fun _ _ => rfl, rfl⟩⟩ hMg hR s10 hX
        · refine ax_aload_n dX6_regions_63 rfl ?_
          refine ax_getf dX6_regions_64 ck6 fl_X6_17 (by decide) (by omega) hMg.1 rfl ?_
          refine ax_bipush dX6_regions_67 (by decide) ?_
          refine ax_iload_n dX6_regions_69 rfl ?_
          refine ax_iadd dX6_regions_70 ?_
          refine ax_ialr (j := (74 + c)) (w := (K (74 + c) : Int)) dX6_regions_71 (by omega) hMg.2 (by omega) (by omega) (by decide) rfl ?_
          refine ax_iload_n dX6_regions_72 rfl ?_
          refine ax_icmp_eq (tgt := 79) dX6_regions_73 (by decide) (by have := hK.2.2.2.2.1 c (by omega); omega) (by omega) (fun c73 => ?_) (fun c73 => ?_)
          · refine ax_aload_n dX6_regions_79 rfl ?_
            refine ax_iload_n dX6_regions_80 rfl ?_
            refine ax_cvi1 dX6_regions_81 ln_X6_regions_273 (Nat.le_of_ble_eq_true rfl) (Or.inl rfl) (by omega) hMg.1 rfl (s6_mark hN hMg hK (c0 := c) (by omega) ho hR mk.1 mk.2 c60 s10) (fun r g2 hq => ?_)
            obtain ⟨n9, N2, hv, hn, hM2, hN2, hE2, hs2, x2⟩ := hq
            cases hv
            refine ax_istore dX6_regions_84 rfl (by decide) ?_
            refine ax_iinc dX6_regions_86 rfl rfl (by decide) ?_
            refine ax_iinc dX6_regions_89 rfl rfl (by decide) ?_
            refine ax_goto (tgt := 38) dX6_regions_92 (by decide) ?_
            first
            | exact ih (c + 1) (acc + 1) _ N2 g2 (by omega) ⟨_, _, hRG, Or.inl ⟨ho, by omega, c60, hE2, rfl⟩⟩ hM2 hN2 hs2 (hX.tr x2)
            | exact ih (c + 1) acc _ N g (by omega) ⟨_, _, hRG, Or.inr ⟨by rintro ⟨z1, z2, z3⟩; (rw [if_pos z1] at c51; exact absurd c51 (by decide)), fun _ _ => rfl, rfl⟩⟩ hMg hR s10 hX
            | exact ih (c + 1) acc _ N g (by omega) ⟨_, _, hRG, Or.inr ⟨by rintro ⟨z1, z2, z3⟩; exact c60 z3, fun _ _ => rfl, rfl⟩⟩ hMg hR s10 hX
            | exact ih (c + 1) acc _ N g (by omega) ⟨_, _, hRG, Or.inr ⟨by rintro ⟨z1, z2, z3⟩; exact c73 (by rw [z2]), fun _ _ => rfl, rfl⟩⟩ hMg hR s10 hX
          · refine ax_goto (tgt := 89) dX6_regions_76 (by decide) ?_
            refine ax_iinc dX6_regions_89 rfl rfl (by decide) ?_
            refine ax_goto (tgt := 38) dX6_regions_92 (by decide) ?_
            first
            | exact ih (c + 1) (acc + 1) _ N2 g2 (by omega) ⟨_, _, hRG, Or.inl ⟨ho, by omega, c60, hE2, rfl⟩⟩ hM2 hN2 hs2 (hX.tr x2)
            | exact ih (c + 1) acc _ N g (by omega) ⟨_, _, hRG, Or.inr ⟨by rintro ⟨z1, z2, z3⟩; (rw [if_pos z1] at c51; exact absurd c51 (by decide)), fun _ _ => rfl, rfl⟩⟩ hMg hR s10 hX
            | exact ih (c + 1) acc _ N g (by omega) ⟨_, _, hRG, Or.inr ⟨by rintro ⟨z1, z2, z3⟩; exact c60 z3, fun _ _ => rfl, rfl⟩⟩ hMg hR s10 hX
            | exact ih (c + 1) acc _ N g (by omega) ⟨_, _, hRG, Or.inr ⟨by rintro ⟨z1, z2, z3⟩; exact c73 (by rw [z2]), fun _ _ => rfl, rfl⟩⟩ hMg hR s10 hX
theorem s6_regions (hN : 132 ≤ NC) (hM : MD h s K) (hK : KI K) (s9 : sh 2 (h 129) 180) (s10 : sh 0 (h 130) 180) {a : Nat} (ha : a ≤ 6) : Cl NC M_X6_regions [.ref 112, .int (I (a : Int))] h (fun v h1 => ∃ acc N, v = .int (I acc) ∧ RG K a (nC K) N acc ∧ MD h1 (upZ s 0 0) K ∧ sh 2 (h1 129) 180 ∧ sh 0 (h1 130) 180 ∧ ∀ a, a ≠ 112 → a ≠ 129 → a ≠ 130 → h1 a = h a) := by
  refine ax_aload_n dX6_regions_0 rfl ?_
  refine ax_iconst dX6_regions_1 ?_
  refine ax_putf dX6_regions_2 ck6 fl_X6_51 (by decide) (by omega) hM.1 rfl (Or.inl rfl) (Nat.le_of_ble_eq_true rfl) rfl ?_
  generalize hg0 : va_up h 112 _ = g0
  have hM0 : MD g0 (upZ s 0 0) K := by rw [← hg0]; exact hM.s0
  have y0 : Y2 h g0 := fun a ha => by rw [← hg0]; exact vu_ne ha
  have z0 : upZ s 0 0 0 = 0 := rfl
  refine ax_aload_n dX6_regions_5 rfl ?_
  refine ax_iload_n dX6_regions_6 rfl ?_
  refine ax_iconst dX6_regions_7 ?_
  refine ax_bipush dX6_regions_8 (by decide) ?_
  refine ax_csiP3 dX6_regions_10 ln_X6_regions_54 (Nat.le_of_ble_eq_true rfl) (Or.inr rfl) (s6_in (by omega) (by omega) (by omega)) ?_
  refine ax_if_ne (tgt := 20) dX6_regions_13 (by decide) (by split <;> omega) (fun c13 => ?_) (fun c13 => ?_)
  · refine ax_iconst dX6_regions_20 ?_
    refine ax_iconst dX6_regions_21 ?_
    refine ax_cviP2 dX6_regions_22 ln_X6_regions_173 (Nat.le_of_ble_eq_true rfl) (Or.inr rfl) (by omega) hM0.1 rfl (s6_failsF hN hM0.1 z0) ?_
    refine ax_if_eq (tgt := 30) dX6_regions_25 (by decide) (by omega) (fun c25 => ?_) (fun c25 => ?_)
    · refine ax_iconst dX6_regions_30 ?_
      refine ax_istore_n dX6_regions_31 rfl (by decide) ?_
      refine ax_aload_n dX6_regions_32 rfl ?_
      refine ax_cvv0 dX6_regions_33 ln_X6_regions_270 (Nat.le_of_ble_eq_true rfl) rfl (by omega) hM0.1 rfl (s6_clearMarks hN hM0 (s9.mv (y0 129 (by decide)))) (fun g1 hq => ?_)
      obtain ⟨hM1, ⟨F, hF, iF⟩, x1⟩ := hq
      refine ax_iconst dX6_regions_36 ?_
      refine ax_istore_n dX6_regions_37 rfl (by decide) ?_
      refine l6_regs hN hK (col := a) (by omega) (fun acc w4 N g2 hRG hM2 hR2 s2 x2 => ?_) (nC K) 0 0 .null F g1 (by omega) ⟨iF, rfl⟩ hM1 hF (s10.mv ((x1 130 (by decide)).trans (y0 130 (by decide)))) EqX.rf
      refine ax_iload_n dX6_regions_95 rfl ?_
      exact ax_iret dX6_regions_96 rfl ⟨acc, N, rfl, hRG, hM2, ⟨N, hR2⟩, s2, fun a a1 a2 a3 => (x2 a (by simp; omega)).trans ((x1 a (by simp; omega)).trans (y0 a a1))⟩
    · exfalso
      omega
  · exfalso
    rw [if_pos (by omega)] at c13
    first | exact absurd c13 (by decide) | exact c13 rfl
theorem s6_regionsT (hN : 132 ≤ NC) (hM : MD h s K) (hK : KI K) {a : Int} (ga : -2147483648 ≤ a ∧ a < 2147483648) (ha : ¬ (0 ≤ a ∧ a ≤ 6)) : Cl NC M_X6_regions [.ref 112, .int (I a)] h (fun v h1 => v = .int (I (0)) ∧ MD h1 (upZ s 0 1) K ∧ Y2 h h1) := by
  refine ax_aload_n dX6_regions_0 rfl ?_
  refine ax_iconst dX6_regions_1 ?_
  refine ax_putf dX6_regions_2 ck6 fl_X6_51 (by decide) (by omega) hM.1 rfl (Or.inl rfl) (Nat.le_of_ble_eq_true rfl) rfl ?_
  generalize hg0 : va_up h 112 _ = g0
  have hM0 : MD g0 (upZ s 0 0) K := by rw [← hg0]; exact hM.s0
  have y0 : Y2 h g0 := fun a ha => by rw [← hg0]; exact vu_ne ha
  have z0 : upZ s 0 0 0 = 0 := rfl
  refine ax_aload_n dX6_regions_5 rfl ?_
  refine ax_iload_n dX6_regions_6 rfl ?_
  refine ax_iconst dX6_regions_7 ?_
  refine ax_bipush dX6_regions_8 (by decide) ?_
  refine ax_csiP3 dX6_regions_10 ln_X6_regions_54 (Nat.le_of_ble_eq_true rfl) (Or.inr rfl) (s6_in ga (by omega) (by omega)) ?_
  refine ax_if_ne (tgt := 20) dX6_regions_13 (by decide) (by split <;> omega) (fun c13 => ?_) (fun c13 => ?_)
  · exfalso
    rw [if_neg ha] at c13
    first | exact absurd c13 (by decide) | exact c13 rfl
  · refine ax_iconst dX6_regions_16 ?_
    refine ax_goto (tgt := 21) dX6_regions_17 (by decide) ?_
    refine ax_iconst dX6_regions_21 ?_
    refine ax_cvi2 dX6_regions_22 ln_X6_regions_173 (Nat.le_of_ble_eq_true rfl) (Or.inr rfl) (by omega) hM0.1 rfl (s6_failsT hN hM0.1 z0 (by decide)) (fun r g1 hq => ?_)
    obtain ⟨hv, hO1, y1⟩ := hq
    cases hv
    have hM1 : MD g1 (upZ (upZ s 0 0) 0 1) K := ⟨hO1, hM0.2.mv (y1 114 (by decide))⟩
    refine ax_if_eq (tgt := 30) dX6_regions_25 (by decide) (by omega) (fun c25 => ?_) (fun c25 => ?_)
    · exfalso
      omega
    · refine ax_iconst dX6_regions_28 ?_
      exact ax_iret dX6_regions_29 rfl ⟨rfl, (by rw [show upZ (upZ s 0 0) 0 1 = upZ s 0 1 from funext fun j => by unfold upZ; split <;> rfl] at hM1; exact hM1), y0.tr y1⟩
end MT
