/-! regions: filling, bleaching, counting -/
section FN
variable {NC b : Nat} {h : hp} {K : Nat → Nat} {Q : qt}
theorem sp_fillFrom (hN : 112 ≤ NC) (hb : b + 10 ≤ 103) (hS : SA NC h b K) (hK : KI K) {n0 : Nat} (hF : FO h n0) (s7 : sh 0 (h 107) 180) (s8 : sh 0 (h 108) 180) (s9 : sh 0 (h 109) 180) {u v : Nat} (hon : onZ K (u : Int) (v : Int) = true) {c0 : Nat} (hc : c0 = v * K 0 + u) : Cl NC M_X2_fillFrom [.ref 106, .ref b, .int (I (u : Int)), .int (I (v : Int))] h (fun r h1 => ∃ (n : Nat) (N X Y : Nat → Int) (q : Nat → Nat), r = .int (I (n : Int)) ∧ n ≤ 180 ∧ FO h1 n ∧ row 0 (h1 107) 180 N ∧ row 0 (h1 108) 180 X ∧ row 0 (h1 109) 180 Y ∧ BI K c0 (fun _ => 0) N q n ∧ mkEnd K c0 (fun _ => 0) N ∧ XY K q X Y n ∧ EqX [106, 107, 108, 109] h h1) := by
  obtain ⟨R0, hR0⟩ := s7
  refine ax_aload_n dX2_fillFrom_0 rfl ?_
  refine ax_getf dX2_fillFrom_1 ck2 fl_X2_9 (by decide) (by omega) hF rfl ?_
  refine ax_iconst dX2_fillFrom_4 ?_
  refine ax_fill (n := 180) (by exact dX2_fillFrom_5) (by decide) (show 2 ≤ _ ∧ 50 ≤ _ from ⟨by decide, by decide⟩) (Nat.le_of_ble_eq_true rfl) (by omega) hR0 (by decide) (fun e5 he5 => ?_)
  have x1 : EqX [106, 107, 108, 109] h (va_up h 107 e5) := EqX.rf.up (by decide)
  have hF1 : FO (va_up h 107 e5) n0 := (vu_ne (by decide)).trans hF
  have hS1 : SA NC (va_up h 107 e5) b K := hS.eq (fun a h1 h2 => vu_ne (by omega))
  have r7 : row 0 (va_up h 107 e5 107) 180 (fun _ => 0) := he5.mv vu_eq
  have r8 : sh 0 (va_up h 107 e5 108) 180 := s8.mv (vu_ne (by decide))
  have r9 : sh 0 (va_up h 107 e5 109) 180 := s9.mv (vu_ne (by decide))
  generalize va_up h 107 e5 = g1 at *
  refine ax_aload_n dX2_fillFrom_8 rfl ?_
  refine ax_aload_n dX2_fillFrom_9 rfl ?_
  refine ax_iload_n dX2_fillFrom_10 rfl ?_
  refine ax_iload_n dX2_fillFrom_11 rfl ?_
  refine ax_cvv3 dX2_fillFrom_12 ln_X2_fillFrom_47 (Nat.le_of_ble_eq_true rfl) rfl (by omega) hF1 rfl (sp_spread hN hb hS1 hK hF1 r7 r8 r9 (fun j hj => Or.inl rfl) (fun a b ha h1 => by cases h1) hon rfl hc) (fun g2 hq => ?_)
  obtain ⟨n, N, X, Y, q, hn, hF2, hR2, hX2, hY2, hB2, hE2, hXY, x2⟩ := hq
  refine ax_aload_n dX2_fillFrom_15 rfl ?_
  refine ax_getf dX2_fillFrom_16 ck2 fl_X2_51 (by decide) (by omega) hF2 rfl ?_
  exact ax_iret dX2_fillFrom_19 rfl ⟨n, N, X, Y, q, rfl, hn, hF2, hR2, hX2, hY2, hB2, hE2, hXY, x1.tr x2⟩
theorem l_bare (hN : 112 ≤ NC) (hb : b + 10 ≤ 103) {n0 : Nat} {X Y : Nat → Int} {q : Nat → Nat} (hX0 : row 0 (h 108) 180 X) (hY0 : row 0 (h 109) 180 Y) (hF0 : FO h n0) (hn : n0 ≤ 180) (hq : ∀ k, k < n0 → q k < nC K) (hXY : XY K q X Y n0) (hK : KI K) (kk : ∀ g, SW NC h g b (wshK K (mq q n0)) → Ex NC none M_X2_makeFoundBare 38 [.ref 106, .ref b, .int (I (n0 : Int))] [] g Q) : ∀ (n : Nat) (i : Nat) (g : hp), i + n = n0 → SW NC h g b (wshK K (mq q i)) → Ex NC none M_X2_makeFoundBare 2 [.ref 106, .ref b, .int (I (i : Int))] [] g Q := by
  have nc := nC_le hK
  intro n
  induction n with
  | zero =>
    intro i g hi hW
    have hS := hW.1
    have hF : FO g n0 := (hW.2 106 (by omega)).trans hF0
    have hX : row 0 (g 108) 180 X := hX0.mv (hW.2 108 (by omega))
    have hY : row 0 (g 109) 180 Y := hY0.mv (hW.2 109 (by omega))
    refine ax_iload_n dX2_makeFoundBare_2 rfl ?_
    refine ax_aload_n dX2_makeFoundBare_3 rfl ?_
    refine ax_getf dX2_makeFoundBare_4 ck2 fl_X2_51 (by decide) (by omega) hF rfl ?_
    refine ax_icmp_ge (tgt := 38) dX2_makeFoundBare_7 (by decide) (by omega) (by omega) (fun c7 => ?_) (fun c7 => ?_)
    · have e : i = n0 := by omega
      subst e
      exact kk g hW
    · exfalso
      omega
  | succ n ih =>
    intro i g hi hW
    have hS := hW.1
    have hF : FO g n0 := (hW.2 106 (by omega)).trans hF0
    have hX : row 0 (g 108) 180 X := hX0.mv (hW.2 108 (by omega))
    have hY : row 0 (g 109) 180 Y := hY0.mv (hW.2 109 (by omega))
    refine ax_iload_n dX2_makeFoundBare_2 rfl ?_
    refine ax_aload_n dX2_makeFoundBare_3 rfl ?_
    refine ax_getf dX2_makeFoundBare_4 ck2 fl_X2_51 (by decide) (by omega) hF rfl ?_
    refine ax_icmp_ge (tgt := 38) dX2_makeFoundBare_7 (by decide) (by omega) (by omega) (fun c7 => ?_) (fun c7 => ?_)
    · exfalso
      omega
    · refine ax_aload_n dX2_makeFoundBare_10 rfl ?_
      refine ax_aload_n dX2_makeFoundBare_11 rfl ?_
      refine ax_aload_n dX2_makeFoundBare_12 rfl ?_
      refine ax_getf dX2_makeFoundBare_13 ck2 fl_X2_15 (by decide) (by omega) hF rfl ?_
      refine ax_iload_n dX2_makeFoundBare_16 rfl ?_
      refine ax_ialr (j := i) (w := (((q i % K 0 : Nat) : Int) : Int)) dX2_makeFoundBare_17 (by omega) hX (by omega) (by omega) (by decide) ((hXY i (by omega)).1) ?_
      refine ax_aload_n dX2_makeFoundBare_18 rfl ?_
      refine ax_getf dX2_makeFoundBare_19 ck2 fl_X2_18 (by decide) (by omega) hF rfl ?_
      refine ax_iload_n dX2_makeFoundBare_22 rfl ?_
      refine ax_ialr (j := i) (w := (((q i / K 0 : Nat) : Int) : Int)) dX2_makeFoundBare_23 (by omega) hY (by omega) (by omega) (by decide) ((hXY i (by omega)).2) ?_
      refine ax_cviP2 dX2_makeFoundBare_24 ln_X2_makeFoundBare_40 (Nat.le_of_ble_eq_true rfl) (Or.inl rfl) hS.n0 hS.o rfl (sp_numberOf hS) ?_
      have hq9 := hq i (by omega)
      rw [wsh_lo (j := 0) (Or.inl (by decide)), show (((q i / K 0 : Nat) : Int) * (K 0 : Int) + ((q i % K 0 : Nat) : Int)) = ((q i : Nat) : Int) by rw [← Int.natCast_mul, ← Int.natCast_add, Nat.mul_comm, Nat.div_add_mod]]
      refine ax_iconst dX2_makeFoundBare_27 ?_
      refine ax_iconst dX2_makeFoundBare_28 ?_
      refine ax_cvv3 dX2_makeFoundBare_29 ln_X2_makeFoundBare_54 (Nat.le_of_ble_eq_true rfl) rfl hS.n0 hS.o rfl (sp_setCell hS (i := q i) (c := 0) (w := 0) (by omega)) (fun g1 hq1 => ?_)
      obtain ⟨hS1, hF1⟩ := hq1
      rw [wsh_st (by omega)] at hS1
      refine ax_iinc dX2_makeFoundBare_32 rfl rfl (by decide) ?_
      refine ax_goto (tgt := 2) dX2_makeFoundBare_35 (by decide) ?_
      exact ih (i + 1) g1 (by omega) ⟨hS1, hW.2.tr hF1⟩
theorem sp_bare (hN : 112 ≤ NC) (hb : b + 10 ≤ 103) (hS : SA NC h b K) (hK : KI K) {n0 : Nat} {X Y : Nat → Int} {q : Nat → Nat} (hX0 : row 0 (h 108) 180 X) (hY0 : row 0 (h 109) 180 Y) (hF0 : FO h n0) (hn : n0 ≤ 180) (hq : ∀ k, k < n0 → q k < nC K) (hXY : XY K q X Y n0) : Cl NC M_X2_makeFoundBare [.ref 106, .ref b] h (fun _ h1 => SW NC h h1 b (wshK K (mq q n0))) := by
  refine ax_iconst dX2_makeFoundBare_0 ?_
  refine ax_istore_n dX2_makeFoundBare_1 rfl (by decide) ?_
  refine l_bare (h := h) hN hb hX0 hY0 hF0 hn hq hXY hK (fun g hW => ?_) n0 0 h (by omega) ⟨by rw [wsh_0 (fun j hj => by show (0 : Int) ≠ 1; decide)]; exact hS, Fr.rf⟩
  exact ax_vret dX2_makeFoundBare_38 rfl hW
theorem li_ofc (hN : 112 ≤ NC) (hb : b + 10 ≤ 103) (hS : SA NC h b K) (hK : KI K) {col : Nat} (hcol : col < 7) {y : Nat} (hy : y < K 1) (kk : ∀ (w : Value) (acc : Int) (g : hp) (N : Nat → Int) (w6 : Value), RG K col (y * K 0 + (K 0 / 2 + K (6 + y) + 1)) N acc → row 0 (g 107) 180 N → (∃ n0, FO g n0) → sh 0 (g 108) 180 → sh 0 (g 109) 180 → EqX [106, 107, 108, 109] h g → Ex NC none M_X2_ofColour 90 [.ref 106, .ref b, .int (I (col : Int)), .int (I acc), .int (I (y : Int)), w, w6] [] g Q) : ∀ (n : Nat) (x : Nat) (acc : Int) (g : hp) (N : Nat → Int) (w6 : Value), x + n = K 0 / 2 + K (6 + y) + 1 → K 0 / 2 - K (6 + y) ≤ x → RG K col (y * K 0 + x) N acc → row 0 (g 107) 180 N → (∃ n0, FO g n0) → sh 0 (g 108) 180 → sh 0 (g 109) 180 → EqX [106, 107, 108, 109] h g → Ex NC none M_X2_ofColour 30 [.ref 106, .ref b, .int (I (col : Int)), .int (I acc), .int (I (y : Int)), .int (I (x : Int)), w6] [] g Q := by
  have k0 := hK.1
  have k1 := hK.2.1 y (by omega)
  have nc := nC_le hK
  have hS0 := hS
  intro n
  induction n with
  | zero =>
    intro x acc g N w6 hx hx0 hG hR hF0 s8 s9 hE
    have hS : SA NC g b K := hS0.eq (fun a h1 h2 => hE a (by simp; omega))
    have hm := hG.mk hK
    obtain ⟨n0, hF⟩ := hF0
    have hF0 : ∃ n0, FO g n0 := ⟨n0, hF⟩
    refine ax_iload dX2_ofColour_30 rfl ?_
    refine ax_aload_n dX2_ofColour_32 rfl ?_
    refine ax_iload dX2_ofColour_33 rfl ?_
    refine ax_cviP1 dX2_ofColour_35 ln_X2_ofColour_37 (Nat.le_of_ble_eq_true rfl) (Or.inl rfl) hS.n0 hS.o rfl (sp_lastX hS hK (by omega)) ?_
    refine ax_icmp_gt (tgt := 90) dX2_ofColour_38 (by decide) (by omega) (by omega) (fun c38 => ?_) (fun c38 => ?_)
    · have e : x = K 0 / 2 + K (6 + y) + 1 := by omega
      subst e
      exact kk _ acc g N w6 hG hR hF0 s8 s9 hE
    · exfalso
      omega
  | succ n ih =>
    intro x acc g N w6 hx hx0 hG hR hF0 s8 s9 hE
    have hS : SA NC g b K := hS0.eq (fun a h1 h2 => hE a (by simp; omega))
    have hm := hG.mk hK
    obtain ⟨n0, hF⟩ := hF0
    have hF0 : ∃ n0, FO g n0 := ⟨n0, hF⟩
    refine ax_iload dX2_ofColour_30 rfl ?_
    refine ax_aload_n dX2_ofColour_32 rfl ?_
    refine ax_iload dX2_ofColour_33 rfl ?_
    refine ax_cviP1 dX2_ofColour_35 ln_X2_ofColour_37 (Nat.le_of_ble_eq_true rfl) (Or.inl rfl) hS.n0 hS.o rfl (sp_lastX hS hK (by omega)) ?_
    refine ax_icmp_gt (tgt := 90) dX2_ofColour_38 (by decide) (by omega) (by omega) (fun c38 => ?_) (fun c38 => ?_)
    · exfalso
      omega
    · have hon := on_of (K := K) (x := x) (y := y) (by omega) hy (by omega) (by omega)
      have hlt := ci_lt (K := K) (x := x) hy (by omega)
      have ei : y * K 0 + (x + 1) = y * K 0 + x + 1 := by omega
      refine ax_aload_n dX2_ofColour_41 rfl ?_
      refine ax_iload dX2_ofColour_42 rfl ?_
      refine ax_iload dX2_ofColour_44 rfl ?_
      refine ax_cviP2 dX2_ofColour_46 ln_X2_ofColour_40 (Nat.le_of_ble_eq_true rfl) (Or.inl rfl) hS.n0 hS.o rfl (sp_numberOf hS) ?_
      rw [show ((y : Int) * (K 0 : Int) + (x : Int)) = ((y * K 0 + x : Nat) : Int) by push_cast; omega]
      generalize hi0 : y * K 0 + x = i0 at *
      refine ax_istore dX2_ofColour_49 rfl (by decide) ?_
      refine ax_aload_n dX2_ofColour_51 rfl ?_
      refine ax_getf dX2_ofColour_52 ck2 fl_X2_9 (by decide) (by omega) hF rfl ?_
      refine ax_iload dX2_ofColour_55 rfl ?_
      refine ax_ialr (j := i0) (w := (N i0 : Int)) dX2_ofColour_57 (by omega) hR (by omega) (by omega) (by decide) rfl ?_
      refine ax_if_ne (tgt := 84) dX2_ofColour_58 (by decide) (by rcases hm.1 i0 (by omega) with z | z <;> omega) (fun c58 => ?_) (fun c58 => ?_)
      · refine ax_iinc dX2_ofColour_84 rfl rfl (by decide) ?_
        refine ax_goto (tgt := 30) dX2_ofColour_87 (by decide) ?_
        exact ih (x + 1) acc g N _ (by omega) (by omega) (by rw [ei]; exact ⟨N, acc, hG, Or.inr ⟨fun z => c58 z.2.2, fun j _ => rfl, rfl⟩⟩) hR hF0 s8 s9 hE
      · refine ax_aload_n dX2_ofColour_61 rfl ?_
        refine ax_getf dX2_ofColour_62 ck3 fl_X2_44 (by decide) hS.n0 hS.o rfl ?_
        refine ax_iload dX2_ofColour_65 rfl ?_
        refine ax_ialr (j := i0) (w := (K (74 + i0) : Int)) dX2_ofColour_67 (hS.n 7 (by omega)) hS.co (by omega) (by omega) (by decide) rfl ?_
        refine ax_iload_n dX2_ofColour_68 rfl ?_
        refine ax_icmp_ne (tgt := 84) dX2_ofColour_69 (by decide) (by have := hK.2.2.2.2.1 i0 (by omega); omega) (by omega) (fun c69 => ?_) (fun c69 => ?_)
        · refine ax_iinc dX2_ofColour_84 rfl rfl (by decide) ?_
          refine ax_goto (tgt := 30) dX2_ofColour_87 (by decide) ?_
          exact ih (x + 1) acc g N _ (by omega) (by omega) (by rw [ei]; exact ⟨N, acc, hG, Or.inr ⟨fun z => c69 (by omega), fun j _ => rfl, rfl⟩⟩) hR hF0 s8 s9 hE
        · refine ax_aload_n dX2_ofColour_72 rfl ?_
          refine ax_aload_n dX2_ofColour_73 rfl ?_
          refine ax_iload dX2_ofColour_74 rfl ?_
          refine ax_iload dX2_ofColour_76 rfl ?_
          refine ax_cvv3 dX2_ofColour_78 ln_X2_ofColour_47 (Nat.le_of_ble_eq_true rfl) rfl (by omega) hF rfl (sp_spread hN hb hS hK hF hR s8 s9 hm.1 hm.2 (u := x) (v := y) (by rw [← on_at (by omega), hi0]; exact hon) (by rw [hi0]; exact c58) hi0.symm) (fun g1 hq => ?_)
          obtain ⟨n1, N1, X1, Y1, q1, hn1, hF1, hR1, hX1, hY1, hB1, hE1, hXY1, x1⟩ := hq
          refine ax_iinc dX2_ofColour_81 rfl rfl (by decide) ?_
          refine ax_iinc dX2_ofColour_84 rfl rfl (by decide) ?_
          refine ax_goto (tgt := 30) dX2_ofColour_87 (by decide) ?_
          exact ih (x + 1) _ g1 N1 _ (by omega) (by omega) (by rw [ei]; exact ⟨N, acc, hG, Or.inl ⟨hon, by omega, c58, hE1, rfl⟩⟩) hR1 ⟨_, hF1⟩ ⟨_, hX1⟩ ⟨_, hY1⟩ (hE.tr x1)
theorem lo_ofc (hN : 112 ≤ NC) (hb : b + 10 ≤ 103) (hS : SA NC h b K) (hK : KI K) {col : Nat} (hcol : col < 7) (kk : ∀ (w5 : Value) (acc : Int) (g : hp) (N : Nat → Int) (w6 : Value), RG K col (nC K) N acc → row 0 (g 107) 180 N → (∃ n0, FO g n0) → sh 0 (g 108) 180 → sh 0 (g 109) 180 → EqX [106, 107, 108, 109] h g → Ex NC none M_X2_ofColour 96 [.ref 106, .ref b, .int (I (col : Int)), .int (I acc), .int (I (K 1 : Int)), w5, w6] [] g Q) : ∀ (n y : Nat) (w5 : Value) (acc : Int) (g : hp) (N : Nat → Int) (w6 : Value), y + n = K 1 → RG K col (y * K 0) N acc → row 0 (g 107) 180 N → (∃ n0, FO g n0) → sh 0 (g 108) 180 → sh 0 (g 109) 180 → EqX [106, 107, 108, 109] h g → Ex NC none M_X2_ofColour 13 [.ref 106, .ref b, .int (I (col : Int)), .int (I acc), .int (I (y : Int)), w5, w6] [] g Q := by
  have k0 := hK.1
  have hS0 := hS
  intro n
  induction n with
  | zero =>
    intro y w5 acc g N w6 hy hG hR hF0 s8 s9 hE
    have hS : SA NC g b K := hS0.eq (fun a h1 h2 => hE a (by simp; omega))
    refine ax_iload dX2_ofColour_13 rfl ?_
    refine ax_aload_n dX2_ofColour_15 rfl ?_
    refine ax_getf dX2_ofColour_16 ck3 fl_X2_27 (by decide) hS.n0 hS.o rfl ?_
    refine ax_icmp_ge (tgt := 96) dX2_ofColour_19 (by decide) (by omega) (by omega) (fun c19 => ?_) (fun c19 => ?_)
    · have e : y = K 1 := by omega
      subst e
      exact kk _ acc g N _ (by unfold nC; rw [Nat.mul_comm]; exact hG) hR hF0 s8 s9 hE
    · exfalso
      omega
  | succ n ih =>
    intro y w5 acc g N w6 hy hG hR hF0 s8 s9 hE
    have hS : SA NC g b K := hS0.eq (fun a h1 h2 => hE a (by simp; omega))
    have hy9 : y < K 1 := by omega
    have k1 := hK.2.1 y (by omega)
    refine ax_iload dX2_ofColour_13 rfl ?_
    refine ax_aload_n dX2_ofColour_15 rfl ?_
    refine ax_getf dX2_ofColour_16 ck3 fl_X2_27 (by decide) hS.n0 hS.o rfl ?_
    refine ax_icmp_ge (tgt := 96) dX2_ofColour_19 (by decide) (by omega) (by omega) (fun c19 => ?_) (fun c19 => ?_)
    · exfalso
      omega
    · refine ax_aload_n dX2_ofColour_22 rfl ?_
      refine ax_iload dX2_ofColour_23 rfl ?_
      refine ax_cviP1 dX2_ofColour_25 ln_X2_ofColour_33 (Nat.le_of_ble_eq_true rfl) (Or.inl rfl) hS.n0 hS.o rfl (sp_firstX hS hK (by omega)) ?_
      refine ax_istore (L' := [.ref 106, .ref b, .int (I (col : Int)), .int (I acc), .int (I (y : Int)), .int (I ((K 0 / 2 - K (6 + y) : Nat) : Int)), w6]) dX2_ofColour_28 (by rw [show ((K 0 / 2 - K (6 + y) : Nat) : Int) = ((K 0 / 2 : Nat) : Int) - (K (6 + y) : Int) by omega]; rfl) (by decide) ?_
      refine li_ofc (h := h) hN hb hS0 hK hcol hy9 (fun w acc1 g1 N1 w61 hG1 hR1 hF1 s81 s91 hE1 => ?_) (K 0 / 2 + K (6 + y) + 1 - (K 0 / 2 - K (6 + y))) (K 0 / 2 - K (6 + y)) acc g N w6 (by omega) (Nat.le_refl _) (hG.skip (by omega) (row_off1 hK hy9)) hR hF0 s8 s9 hE
      refine ax_iinc dX2_ofColour_90 rfl rfl (by decide) ?_
      refine ax_goto (tgt := 13) dX2_ofColour_93 (by decide) ?_
      exact ih (y + 1) w acc1 g1 N1 w61 (by omega) (hG1.skip (row_le hK hy9) (row_off2 hK hy9)) hR1 hF1 s81 s91 hE1
theorem sp_ofColour (hN : 112 ≤ NC) (hb : b + 10 ≤ 103) (hS : SA NC h b K) (hK : KI K) {n0 : Nat} (hF : FO h n0) (s7 : sh 0 (h 107) 180) (s8 : sh 0 (h 108) 180) (s9 : sh 0 (h 109) 180) {col : Nat} (hcol : col < 7) : Cl NC M_X2_ofColour [.ref 106, .ref b, .int (I (col : Int))] h (fun r h1 => ∃ acc N, r = .int (I acc) ∧ RG K col (nC K) N acc ∧ sh 0 (h1 107) 180 ∧ (∃ n0, FO h1 n0) ∧ sh 0 (h1 108) 180 ∧ sh 0 (h1 109) 180 ∧ EqX [106, 107, 108, 109] h h1) := by
  obtain ⟨R0, hR0⟩ := s7
  refine ax_aload_n dX2_ofColour_0 rfl ?_
  refine ax_getf dX2_ofColour_1 ck2 fl_X2_9 (by decide) (by omega) hF rfl ?_
  refine ax_iconst dX2_ofColour_4 ?_
  refine ax_fill (n := 180) (by exact dX2_ofColour_5) (by decide) (show 2 ≤ _ ∧ 50 ≤ _ from ⟨by decide, by decide⟩) (Nat.le_of_ble_eq_true rfl) (by omega) hR0 (by decide) (fun e5 he5 => ?_)
  have x1 : EqX [106, 107, 108, 109] h (va_up h 107 e5) := EqX.rf.up (by decide)
  have hF1 : FO (va_up h 107 e5) n0 := (vu_ne (by decide)).trans hF
  have hS1 : SA NC (va_up h 107 e5) b K := hS.eq (fun a h1 h2 => vu_ne (by omega))
  have r7 : row 0 (va_up h 107 e5 107) 180 (fun _ => 0) := he5.mv vu_eq
  have r8 : sh 0 (va_up h 107 e5 108) 180 := s8.mv (vu_ne (by decide))
  have r9 : sh 0 (va_up h 107 e5 109) 180 := s9.mv (vu_ne (by decide))
  generalize va_up h 107 e5 = g1 at *
  refine ax_iconst dX2_ofColour_8 ?_
  refine ax_istore_n dX2_ofColour_9 rfl (by decide) ?_
  refine ax_iconst dX2_ofColour_10 ?_
  refine ax_istore dX2_ofColour_11 rfl (by decide) ?_
  refine lo_ofc (h := g1) hN hb hS1 hK hcol (fun w5 acc g N w6 hG hR2 hF2 s82 s92 hE2 => ?_) (K 1) 0 .null 0 g1 _ .null (by omega) (by rw [Nat.zero_mul]; exact ⟨fun j _ => rfl, rfl⟩) r7 ⟨_, hF1⟩ r8 r9 EqX.rf
  refine ax_iload_n dX2_ofColour_96 rfl ?_
  exact ax_iret dX2_ofColour_97 rfl ⟨acc, N, rfl, hG, ⟨_, hR2⟩, hF2, s82, s92, x1.tr hE2⟩
end FN
