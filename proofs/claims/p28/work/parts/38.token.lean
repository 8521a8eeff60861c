/-! the class's reader: to the next token, words, numbers -/
theorem Y1.tr {h g k : hp} (H1 : Y1 h g) (H2 : Y1 g k) : Y1 h k := fun a ha => (H2 a ha).trans (H1 a ha)
section RD
variable {NC : Nat} {h : hp} {r T : Nat → Int} {n s : Nat} {Q : qt}
theorem sp_goOn (hN : 112 ≤ NC) (hO : RO h r) (hT : TX T) (hTr : TR h T) (hn : n ≤ 600) {p : Nat} (hp : p ≤ n) (h2 : r 2 = (n : Int)) (h5 : r 5 = (p : Int)) : Cl NC M_X4_goOn [.ref 110] h (fun _ h1 => ∃ r1, RO h1 r1 ∧ agr r r1 ∧ TK T n r1 (sk T n p) ∧ Y1 h h1) := by
  refine ax_aload_n dX4_goOn_0 rfl ?_
  refine ax_aload_n dX4_goOn_1 rfl ?_
  refine ax_getf dX4_goOn_2 ck4 fl_X4_28 (by decide) (by omega) hO rfl ?_
  rw [h5]
  refine ax_putf dX4_goOn_5 ck4 fl_X4_66 (by decide) (by omega) hO rfl (Or.inl rfl) (Nat.le_of_ble_eq_true rfl) rfl ?_
  generalize hgg1 : va_up h 110 _ = g1
  obtain ⟨r1, hO1, er1⟩ : ∃ rr, RO g1 rr ∧ rr = upZ r 4 (p : Int) := ⟨_, by rw [← hgg1]; exact hO.s4, rfl⟩
  have y1 : Y1 h g1 := fun a ha => by rw [← hgg1]; exact (vu_ne ha)
  refine l_gob (h := h) hN hT hTr hn (e := sk T n p) (r0 := r1) (fun g2 r2 hO2 h4 hr2 y2 => ?_) (n - p) p g1 r1 (by omega) hO1 (by rw [er1]; exact h2) (by rw [er1]; rfl) rfl (fun k hk => rfl) y1
  have hs : sk T n p ≤ n := sk_le hp
  generalize sk T n p = s at *
  have h22 : r2 2 = (n : Int) := by rw [hr2 2 (by decide), er1]; exact h2
  have hx2 : ∀ k, k ≠ 4 → r2 k = r k := fun k hk => by rw [hr2 k hk, er1]; exact if_neg hk
  refine ax_aload_n dX4_goOn_46 rfl ?_
  refine ax_aload_n dX4_goOn_47 rfl ?_
  refine ax_getf dX4_goOn_48 ck4 fl_X4_66 (by decide) (by omega) hO2 rfl ?_
  rw [h4]
  refine ax_putf dX4_goOn_51 ck4 fl_X4_28 (by decide) (by omega) hO2 rfl (Or.inl rfl) (Nat.le_of_ble_eq_true rfl) rfl ?_
  generalize hgg3 : va_up g2 110 _ = g3
  obtain ⟨r3, hO3, er3⟩ : ∃ rr, RO g3 rr ∧ rr = upZ r2 5 (s : Int) := ⟨_, by rw [← hgg3]; exact hO2.s5, rfl⟩
  have y3 : Y1 h g3 := fun a ha => by rw [← hgg3]; exact (vu_ne ha).trans (y2 a ha)
  have h2x : r3 2 = (n : Int) := by rw [er3]; exact h22
  have h4x : r3 4 = (s : Int) := by rw [er3]; exact h4
  have h5x : r3 5 = (s : Int) := by rw [er3]; rfl
  have hx : ∀ k, k ≠ 4 → k ≠ 5 → r3 k = r k := fun k k4 k5 => by rw [er3]; exact (if_neg k5).trans (hx2 k k4)
  have hTr3 : TR g3 T := hTr.mv (y3 111 (by decide))
  refine ax_aload_n dX4_goOn_54 rfl ?_
  refine ax_getf dX4_goOn_55 ck4 fl_X4_66 (by decide) (by omega) hO3 rfl ?_
  refine ax_aload_n dX4_goOn_58 rfl ?_
  refine ax_getf dX4_goOn_59 ck4 fl_X4_25 (by decide) (by omega) hO3 rfl ?_
  refine ax_icmp_lt (tgt := 73) dX4_goOn_62 (by decide) (by omega) (by omega) (fun c62 => ?_) (fun c62 => ?_)
  · refine ax_aload_n dX4_goOn_73 rfl ?_
    refine ax_aload_n dX4_goOn_74 rfl ?_
    refine ax_getf dX4_goOn_75 ck4 fl_X4_66 (by decide) (by omega) hO3 rfl ?_
    rw [h4x]
    refine ax_cviP1 dX4_goOn_78 ln_X4_goOn_69 (Nat.le_of_ble_eq_true rfl) (Or.inr rfl) (by omega) hO3 rfl (sp_isDigit hN hO3 hT hTr3 (k := s) (by omega)) ?_
    refine ax_if_eq (tgt := 124) dX4_goOn_81 (by decide) (by split <;> omega) (fun c81 => ?_) (fun c81 => ?_)
    · have zd : ¬ cD T s = true := fun w => by (rw [if_pos w] at c81; omega)
      refine ax_aload_n dX4_goOn_124 rfl ?_
      refine ax_aload_n dX4_goOn_125 rfl ?_
      refine ax_getf dX4_goOn_126 ck4 fl_X4_66 (by decide) (by omega) hO3 rfl ?_
      rw [h4x]
      refine ax_cviP1 dX4_goOn_129 ln_X4_goOn_73 (Nat.le_of_ble_eq_true rfl) (Or.inr rfl) (by omega) hO3 rfl (sp_isLetter hN hO3 hT hTr3 (k := s) (by omega)) ?_
      refine ax_if_eq (tgt := 175) dX4_goOn_132 (by decide) (by split <;> omega) (fun c132 => ?_) (fun c132 => ?_)
      · have zl : ¬ cL T s = true := fun w => by (rw [if_pos w] at c132; omega)
        refine ax_aload_n dX4_goOn_175 rfl ?_
        refine ax_aload_n dX4_goOn_176 rfl ?_
        refine ax_getf dX4_goOn_177 ck4 fl_X4_9 (by decide) (by omega) hO3 rfl ?_
        refine ax_aload_n dX4_goOn_180 rfl ?_
        refine ax_getf dX4_goOn_181 ck4 fl_X4_66 (by decide) (by omega) hO3 rfl ?_
        refine ax_balr (j := s) (w := (sb (T s) : Int)) dX4_goOn_184 (by omega) hTr3 (by omega) (by omega) (by decide) rfl ?_
        have hs5 := sb_rg (hT s (by omega))
        have hq5 := sb_eq (hT s (by omega)) (c := 59) (by decide)
        refine ax_bipush dX4_goOn_185 (by decide) ?_
        refine ax_icmp_ne (tgt := 194) dX4_goOn_187 (by decide) (by omega) (by omega) (fun c187 => ?_) (fun c187 => ?_)
        · refine ax_iconst dX4_goOn_194 ?_
          refine ax_putf dX4_goOn_195 ck4 fl_X4_57 (by decide) (by omega) hO3 rfl (Or.inl rfl) (Nat.le_of_ble_eq_true rfl) rfl ?_
          generalize hgg4 : va_up g3 110 _ = g4
          obtain ⟨r4, hO4, er4⟩ : ∃ rr, RO g4 rr ∧ rr = upZ r3 3 4 := ⟨_, by rw [← hgg4]; exact hO3.s3, rfl⟩
          have y4 : Y1 h g4 := fun a ha => by rw [← hgg4]; exact (vu_ne ha).trans (y3 a ha)
          refine ax_aload_n dX4_goOn_198 rfl ?_
          refine ax_dup dX4_goOn_199 rfl ?_
          refine ax_getf dX4_goOn_200 ck4 fl_X4_28 (by decide) (by omega) hO4 rfl ?_
          refine ax_iconst dX4_goOn_203 ?_
          refine ax_iadd dX4_goOn_204 ?_
          rw [show r4 5 = (s : Int) by rw [er4]; exact h5x]
          refine ax_putf dX4_goOn_205 ck4 fl_X4_28 (by decide) (by omega) hO4 rfl (Or.inl rfl) (Nat.le_of_ble_eq_true rfl) rfl ?_
          generalize hgg5 : va_up g4 110 _ = g5
          obtain ⟨r5, hO5, er5⟩ : ∃ rr, RO g5 rr ∧ rr = upZ r4 5 ((s : Int) + 1) := ⟨_, by rw [← hgg5]; exact hO4.s5, rfl⟩
          have y5 : Y1 h g5 := fun a ha => by rw [← hgg5]; exact (vu_ne ha).trans (y4 a ha)
          exact ax_vret dX4_goOn_208 rfl ⟨r5, hO5, fun k k3 k4 k5 => by rw [er5]; exact (if_neg k5).trans (by rw [er4]; exact (if_neg k3).trans (hx k k4 k5)), ⟨hn, hs, by rw [er5, er4]; exact h2x, by rw [er5, er4]; exact h4x, by rw [er5, er4]; show (4 : Int) = _; unfold kd; rw [if_neg (by omega : ¬ n ≤ s), if_neg zd, if_neg zl, if_neg (fun w => c187 (hq5.mpr w))], by rw [er5]; show (s : Int) + 1 = _; unfold tE; rw [if_neg (by omega : ¬ n ≤ s), if_neg zd, if_neg zl]; push_cast; rfl⟩, y5⟩
        · refine ax_iconst dX4_goOn_190 ?_
          refine ax_goto (tgt := 195) dX4_goOn_191 (by decide) ?_
          refine ax_putf dX4_goOn_195 ck4 fl_X4_57 (by decide) (by omega) hO3 rfl (Or.inl rfl) (Nat.le_of_ble_eq_true rfl) rfl ?_
          generalize hgg4 : va_up g3 110 _ = g4
          obtain ⟨r4, hO4, er4⟩ : ∃ rr, RO g4 rr ∧ rr = upZ r3 3 3 := ⟨_, by rw [← hgg4]; exact hO3.s3, rfl⟩
          have y4 : Y1 h g4 := fun a ha => by rw [← hgg4]; exact (vu_ne ha).trans (y3 a ha)
          refine ax_aload_n dX4_goOn_198 rfl ?_
          refine ax_dup dX4_goOn_199 rfl ?_
          refine ax_getf dX4_goOn_200 ck4 fl_X4_28 (by decide) (by omega) hO4 rfl ?_
          refine ax_iconst dX4_goOn_203 ?_
          refine ax_iadd dX4_goOn_204 ?_
          rw [show r4 5 = (s : Int) by rw [er4]; exact h5x]
          refine ax_putf dX4_goOn_205 ck4 fl_X4_28 (by decide) (by omega) hO4 rfl (Or.inl rfl) (Nat.le_of_ble_eq_true rfl) rfl ?_
          generalize hgg5 : va_up g4 110 _ = g5
          obtain ⟨r5, hO5, er5⟩ : ∃ rr, RO g5 rr ∧ rr = upZ r4 5 ((s : Int) + 1) := ⟨_, by rw [← hgg5]; exact hO4.s5, rfl⟩
          have y5 : Y1 h g5 := fun a ha => by rw [← hgg5]; exact (vu_ne ha).trans (y4 a ha)
          exact ax_vret dX4_goOn_208 rfl ⟨r5, hO5, fun k k3 k4 k5 => by rw [er5]; exact (if_neg k5).trans (by rw [er4]; exact (if_neg k3).trans (hx k k4 k5)), ⟨hn, hs, by rw [er5, er4]; exact h2x, by rw [er5, er4]; exact h4x, by rw [er5, er4]; show (3 : Int) = _; unfold kd; rw [if_neg (by omega : ¬ n ≤ s), if_neg zd, if_neg zl, if_pos (hq5.mp c187)], by rw [er5]; show (s : Int) + 1 = _; unfold tE; rw [if_neg (by omega : ¬ n ≤ s), if_neg zd, if_neg zl]; push_cast; rfl⟩, y5⟩
      · have zl : cL T s = true := by (by_cases w : cL T s = true; exact w; rw [if_neg w] at c132; exact absurd rfl c132)
        refine ax_aload_n dX4_goOn_135 rfl ?_
        refine ax_iconst dX4_goOn_136 ?_
        refine ax_putf dX4_goOn_137 ck4 fl_X4_57 (by decide) (by omega) hO3 rfl (Or.inl rfl) (Nat.le_of_ble_eq_true rfl) rfl ?_
        generalize hgg4 : va_up g3 110 _ = g4
        obtain ⟨r4, hO4, er4⟩ : ∃ rr, RO g4 rr ∧ rr = upZ r3 3 1 := ⟨_, by rw [← hgg4]; exact hO3.s3, rfl⟩
        have y4 : Y1 h g4 := fun a ha => by rw [← hgg4]; exact (vu_ne ha).trans (y3 a ha)
        refine l_gol (h := h) hN hT hTr hn (e := rn (cL T) n s) (r0 := r4) (fun g5 r5 hO5 h5 hr5 y5 => ?_) (n - s) s g4 r4 (by omega) hO4 (by rw [er4]; exact h2x) (by rw [er4]; exact h5x) rfl (fun k hk => rfl) y4
        exact ax_vret dX4_goOn_208 rfl ⟨r5, hO5, fun k k3 k4 k5 => by rw [hr5 k k5, er4]; exact (if_neg k3).trans (hx k k4 k5), ⟨hn, hs, by rw [hr5 2 (by decide), er4]; exact h2x, by rw [hr5 4 (by decide), er4]; exact h4x, by rw [hr5 3 (by decide), er4]; show (1 : Int) = _; unfold kd; rw [if_neg (by omega : ¬ n ≤ s), if_neg zd, if_pos zl], by rw [h5]; unfold tE; rw [if_neg (by omega : ¬ n ≤ s), if_neg zd, if_pos zl]⟩, y5⟩
    · have zd : cD T s = true := by (by_cases w : cD T s = true; exact w; rw [if_neg w] at c81; exact absurd rfl c81)
      refine ax_aload_n dX4_goOn_84 rfl ?_
      refine ax_iconst dX4_goOn_85 ?_
      refine ax_putf dX4_goOn_86 ck4 fl_X4_57 (by decide) (by omega) hO3 rfl (Or.inl rfl) (Nat.le_of_ble_eq_true rfl) rfl ?_
      generalize hgg4 : va_up g3 110 _ = g4
      obtain ⟨r4, hO4, er4⟩ : ∃ rr, RO g4 rr ∧ rr = upZ r3 3 2 := ⟨_, by rw [← hgg4]; exact hO3.s3, rfl⟩
      have y4 : Y1 h g4 := fun a ha => by rw [← hgg4]; exact (vu_ne ha).trans (y3 a ha)
      refine l_god (h := h) hN hT hTr hn (e := rn (cD T) n s) (r0 := r4) (fun g5 r5 hO5 h5 hr5 y5 => ?_) (n - s) s g4 r4 (by omega) hO4 (by rw [er4]; exact h2x) (by rw [er4]; exact h5x) rfl (fun k hk => rfl) y4
      exact ax_vret dX4_goOn_208 rfl ⟨r5, hO5, fun k k3 k4 k5 => by rw [hr5 k k5, er4]; exact (if_neg k3).trans (hx k k4 k5), ⟨hn, hs, by rw [hr5 2 (by decide), er4]; exact h2x, by rw [hr5 4 (by decide), er4]; exact h4x, by rw [hr5 3 (by decide), er4]; show (2 : Int) = _; unfold kd; rw [if_neg (by omega : ¬ n ≤ s), if_pos zd], by rw [h5]; unfold tE; rw [if_neg (by omega : ¬ n ≤ s), if_pos zd]⟩, y5⟩
  · refine ax_aload_n dX4_goOn_65 rfl ?_
    refine ax_iconst dX4_goOn_66 ?_
    refine ax_putf dX4_goOn_67 ck4 fl_X4_57 (by decide) (by omega) hO3 rfl (Or.inl rfl) (Nat.le_of_ble_eq_true rfl) rfl ?_
    generalize hgg4 : va_up g3 110 _ = g4
    obtain ⟨r4, hO4, er4⟩ : ∃ rr, RO g4 rr ∧ rr = upZ r3 3 0 := ⟨_, by rw [← hgg4]; exact hO3.s3, rfl⟩
    have y4 : Y1 h g4 := fun a ha => by rw [← hgg4]; exact (vu_ne ha).trans (y3 a ha)
    refine ax_goto (tgt := 208) dX4_goOn_70 (by decide) ?_
    exact ax_vret dX4_goOn_208 rfl ⟨r4, hO4, fun k k3 k4 k5 => by rw [er4]; exact (if_neg k3).trans (hx k k4 k5), ⟨hn, hs, by rw [er4]; exact h2x, by rw [er4]; exact h4x, by rw [er4]; show (0 : Int) = _; unfold kd; rw [if_pos (by omega : n ≤ s)], by rw [er4]; show r3 5 = _; rw [h5x]; unfold tE; rw [if_pos (by omega : n ≤ s)]⟩, y4⟩
theorem l_isW (hN : 112 ≤ NC) (hO : RO h r) (hT : TX T) (hTr : TR h T) (hk : TK T n r s) {j : Nat} (hj : j < 10) (hlen : tE T n s = s + LN j) (hkd : kd T n s = 1) (kk : ∀ v, v = (if wd T n j s = true then (1 : Int) else 0) → Q (.int (I v)) h) : ∀ (n1 : Nat) (i : Nat), i + n1 = LN j → (∀ m, m < i → T (s + m) = Wc j m) → Ex NC none M_X4_isWord 28 [.ref 110, .ref (2000 + j), .int (I (i : Int))] [] h Q := by
  obtain ⟨hn, hsn, h2, h4, h3, h5⟩ := hk
  have hl := LN_rg j hj
  have tl := tE_le (T := T) hsn
  intro n1
  induction n1 with
  | zero =>
    intro i hi hm
    refine ax_iload_n dX4_isWord_28 rfl ?_
    refine ax_aload_n dX4_isWord_29 rfl ?_
    refine ex_l_length (by exact dX4_isWord_30) (by decide) (show 3 ≤ _ ∧ 60 ≤ _ from ⟨by decide, by decide⟩) (Nat.le_of_ble_eq_true rfl) (show j < 24 by omega) (show _ = I ((LN j : Nat) : Int) from I_nat _) ?_
    refine ax_icmp_ge (tgt := 63) dX4_isWord_33 (by decide) (by omega) (by omega) (fun c33 => ?_) (fun c33 => ?_)
    · refine ax_iconst dX4_isWord_63 ?_
      exact ax_zret dX4_isWord_64 rfl (by first | exact Or.inl rfl | exact Or.inr rfl) (kk 1 (by rw [if_pos (wd_iff.mpr ⟨hkd, hlen, fun m hm2 => hm m (by omega)⟩)]))
    · exfalso
      omega
  | succ n1 ih =>
    intro i hi hm
    refine ax_iload_n dX4_isWord_28 rfl ?_
    refine ax_aload_n dX4_isWord_29 rfl ?_
    refine ex_l_length (by exact dX4_isWord_30) (by decide) (show 3 ≤ _ ∧ 60 ≤ _ from ⟨by decide, by decide⟩) (Nat.le_of_ble_eq_true rfl) (show j < 24 by omega) (show _ = I ((LN j : Nat) : Int) from I_nat _) ?_
    refine ax_icmp_ge (tgt := 63) dX4_isWord_33 (by decide) (by omega) (by omega) (fun c33 => ?_) (fun c33 => ?_)
    · exfalso
      omega
    · refine ax_aload_n dX4_isWord_36 rfl ?_
      refine ax_getf dX4_isWord_37 ck4 fl_X4_9 (by decide) (by omega) hO rfl ?_
      refine ax_aload_n dX4_isWord_40 rfl ?_
      refine ax_getf dX4_isWord_41 ck4 fl_X4_66 (by decide) (by omega) hO rfl ?_
      refine ax_iload_n dX4_isWord_44 rfl ?_
      refine ax_iadd dX4_isWord_45 ?_
      refine ax_balr (j := (s + i)) (w := (sb (T (s + i)) : Int)) dX4_isWord_46 (by omega) hTr (by omega) (by omega) (by decide) rfl ?_
      refine ax_aload_n dX4_isWord_47 rfl ?_
      refine ax_iload_n dX4_isWord_48 rfl ?_
      refine ex_l_charAt (by exact dX4_isWord_49) (by decide) (show 5 ≤ _ ∧ 110 ≤ _ from ⟨by decide, by decide⟩) (Nat.le_of_ble_eq_true rfl) (show j < 24 by omega) (show i < txtN.getD j 0 from (by unfold LN at *; omega)) (I_nat i).symm (I_of _) ?_
      have hs5 := sb_rg (hT (s + i) (by omega))
      have hw5 := Wc_rg j hj i (by omega)
      have hq5 := sb_eq (hT (s + i) (by omega)) (c := Wc j i) (by omega)
      refine ax_icmp_eq (tgt := 57) dX4_isWord_52 (by decide) (by omega) (by unfold Wc at hw5; omega) (fun c52 => ?_) (fun c52 => ?_)
      · refine ax_iinc dX4_isWord_57 rfl rfl (by decide) ?_
        refine ax_goto (tgt := 28) dX4_isWord_60 (by decide) ?_
        exact ih (i + 1) (by omega) (fun m hm2 => by by_cases e : m = i; (rw [e]; exact hq5.mp c52); exact hm m (by omega))
      · refine ax_iconst dX4_isWord_55 ?_
        exact ax_zret dX4_isWord_56 rfl (by first | exact Or.inl rfl | exact Or.inr rfl) (kk 0 (by rw [if_neg (fun w => c52 (hq5.mpr ((wd_iff.mp w).2.2 i (by omega))))]))
theorem sp_isWord (hN : 112 ≤ NC) (hO : RO h r) (hT : TX T) (hTr : TR h T) (hk : TK T n r s) {j : Nat} (hj : j < 10) : Cl NC M_X4_isWord [.ref 110, .ref (2000 + j)] h (fun v h1 => v = .int (I (if wd T n j s = true then 1 else 0)) ∧ h1 = h) := by
  obtain ⟨hn, hsn, h2, h4, h3, h5⟩ := hk
  have hl := LN_rg j hj
  have tl := tE_le (T := T) hsn
  have tg := tE_ge (T := T) (n := n) (s := s)
  have kr := kd_rg (T := T) (n := n) (s := s)
  refine ax_aload_n dX4_isWord_0 rfl ?_
  refine ax_getf dX4_isWord_1 ck4 fl_X4_57 (by decide) (by omega) hO rfl ?_
  refine ax_iconst dX4_isWord_4 ?_
  rw [h3]
  refine ax_icmp_ne (tgt := 24) dX4_isWord_5 (by decide) (by omega) (by omega) (fun c5 => ?_) (fun c5 => ?_)
  · refine ax_iconst dX4_isWord_24 ?_
    exact ax_zret dX4_isWord_25 rfl (by first | exact Or.inl rfl | exact Or.inr rfl) ⟨by rw [if_neg (fun w => c5 (wd_iff.mp w).1)], rfl⟩
  · refine ax_aload_n dX4_isWord_8 rfl ?_
    refine ax_getf dX4_isWord_9 ck4 fl_X4_28 (by decide) (by omega) hO rfl ?_
    refine ax_aload_n dX4_isWord_12 rfl ?_
    refine ax_getf dX4_isWord_13 ck4 fl_X4_66 (by decide) (by omega) hO rfl ?_
    refine ax_isub dX4_isWord_16 ?_
    refine ax_aload_n dX4_isWord_17 rfl ?_
    refine ex_l_length (by exact dX4_isWord_18) (by decide) (show 3 ≤ _ ∧ 60 ≤ _ from ⟨by decide, by decide⟩) (Nat.le_of_ble_eq_true rfl) (show j < 24 by omega) (show _ = I ((LN j : Nat) : Int) from I_nat _) ?_
    rw [h5, h4]
    refine ax_icmp_eq (tgt := 26) dX4_isWord_21 (by decide) (by omega) (by omega) (fun c21 => ?_) (fun c21 => ?_)
    · refine ax_iconst dX4_isWord_26 ?_
      refine ax_istore_n dX4_isWord_27 rfl (by decide) ?_
      refine l_isW hN hO hT hTr ⟨hn, hsn, h2, h4, h3, h5⟩ hj (by omega) c5 (fun v hv => ⟨by rw [hv], rfl⟩) (LN j) 0 (by omega) (fun m hm => absurd hm (Nat.not_lt_zero _))
    · refine ax_iconst dX4_isWord_24 ?_
      exact ax_zret dX4_isWord_25 rfl (by first | exact Or.inl rfl | exact Or.inr rfl) ⟨by rw [if_neg (fun w => c21 (by have := (wd_iff.mp w).2.1; omega))], rfl⟩
end RD
