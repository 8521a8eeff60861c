/-! the reference reads: words, semicolons, numbers -/
theorem cn_110 : Cond.constant M_X6_number.1.cls 110 (I 100000000) ∈ gT := gT_mem 1078 (by decide +kernel) (by decide +kernel)
section RM
variable {NC : Nat} {h : hp} {s T : Nat → Int} {n p t : Nat} {Q : qt}
theorem l6_take (hN : 132 ≤ NC) (hO : XO h s) (hT : TX T) (hB : BT h T) (hP : PX T s n t t) {j : Nat} (hj : j < 10) (kk : ∀ k, k ≤ LN j → (∀ i, i < k → chr T n (t + i) = Wc j i) → (k < LN j → chr T n (t + k) ≠ Wc j k) → Ex NC none M_X6_takeWord 48 [.ref 112, .ref (2000 + j), .int (I (k : Int))] [] h Q) : ∀ (f : Nat) (k : Nat), k + f = LN j → (∀ i, i < k → chr T n (t + i) = Wc j i) → Ex NC none M_X6_takeWord 16 [.ref 112, .ref (2000 + j), .int (I (k : Int))] [] h Q := by
  have hl := LN_rg j hj
  have hn := hP.1
  have htn := hP.le
  intro f
  induction f with
  | zero =>
    intro k hk hm
    refine ax_iload_n dX6_takeWord_16 rfl ?_
    refine ax_aload_n dX6_takeWord_17 rfl ?_
    refine ex_l_length (by exact dX6_takeWord_18) (by decide) (show 3 ≤ _ ∧ 60 ≤ _ from ⟨by decide, by decide⟩) (Nat.le_of_ble_eq_true rfl) (show j < 18 by omega) (show _ = I ((LN j : Nat) : Int) from I_nat _) ?_
    refine ax_icmp_ge (tgt := 48) dX6_takeWord_21 (by decide) (by omega) (by omega) (fun c21 => ?_) (fun c21 => ?_)
    · exact kk k (by omega) hm (fun q => absurd q (by omega))
    · exfalso
      omega
  | succ f ih =>
    intro k hk hm
    refine ax_iload_n dX6_takeWord_16 rfl ?_
    refine ax_aload_n dX6_takeWord_17 rfl ?_
    refine ex_l_length (by exact dX6_takeWord_18) (by decide) (show 3 ≤ _ ∧ 60 ≤ _ from ⟨by decide, by decide⟩) (Nat.le_of_ble_eq_true rfl) (show j < 18 by omega) (show _ = I ((LN j : Nat) : Int) from I_nat _) ?_
    refine ax_icmp_ge (tgt := 48) dX6_takeWord_21 (by decide) (by omega) (by omega) (fun c21 => ?_) (fun c21 => ?_)
    · exfalso
      omega
    · refine ax_aload_n dX6_takeWord_24 rfl ?_
      refine ax_aload_n dX6_takeWord_25 rfl ?_
      refine ax_getf dX6_takeWord_26 ck6 fl_X6_70 (by decide) (by omega) hO rfl ?_
      rw [hP.2.2.1]
      refine ax_iload_n dX6_takeWord_29 rfl ?_
      refine ax_iadd dX6_takeWord_30 ?_
      rw [show (t : Int) + (k : Int) = ((t + k : Nat) : Int) by push_cast; rfl]
      refine ax_cviP1 dX6_takeWord_31 ln_X6_takeWord_73 (Nat.le_of_ble_eq_true rfl) (Or.inl rfl) (by omega) hO rfl (s6_byteAt hN hO hT hB hP (k := t + k) (by omega)) ?_
      refine ax_aload_n dX6_takeWord_34 rfl ?_
      refine ax_iload_n dX6_takeWord_35 rfl ?_
      refine ex_l_charAt (by exact dX6_takeWord_36) (by decide) (show 5 ≤ _ ∧ 110 ≤ _ from ⟨by decide, by decide⟩) (Nat.le_of_ble_eq_true rfl) (show j < 18 by omega) (show k < txtN.getD j 0 from (by unfold LN at *; omega)) (I_nat k).symm (I_of _) ?_
      have cr := chr_rg (k := t + k) hT hP.1
      have wr := Wc_rg j hj k (by omega)
      refine ax_icmp_ne (tgt := 48) dX6_takeWord_39 (by decide) (by omega) (by unfold Wc at wr; omega) (fun c39 => ?_) (fun c39 => ?_)
      · exact kk k (by omega) hm (fun _ => c39)
      · refine ax_iinc dX6_takeWord_42 rfl rfl (by decide) ?_
        refine ax_goto (tgt := 16) dX6_takeWord_45 (by decide) ?_
        exact ih (k + 1) (by omega) (fun i hi => by by_cases e : i = k; (rw [e]; exact c39); exact hm i (by omega))
theorem s6_takeWord (hN : 132 ≤ NC) (hO : XO h s) (hT : TX T) (hB : BT h T) (hP : PX T s n p t) (h5 : -1000 ≤ s 5 ∧ s 5 ≤ 1000) {j : Nat} (hj : j < 10) : Cl NC M_X6_takeWord [.ref 112, .ref (2000 + j)] h (fun v h1 => ∃ (z : Int) (s1 : Nat → Int) (p1 t1 : Nat), v = .int (I z) ∧ (z = 0 ∨ z = 1) ∧ XO h1 s1 ∧ agM s s1 ∧ PX T s1 n p1 t1 ∧ Y2 h h1 ∧ (s 5 ≠ 0 → z = 0) ∧ (s 5 = 0 → z = 1 → wd T n j t = true ∧ t1 = sN T n t) ∧ (s 5 = 0 → z = 0 → wd T n j t = false ∧ t1 = t ∧ p1 = t)) := by
  have hl := LN_rg j hj
  refine ax_aload_n dX6_takeWord_0 rfl ?_
  refine ax_cviP0 dX6_takeWord_1 ln_X6_takeWord_82 (Nat.le_of_ble_eq_true rfl) (Or.inr rfl) (by omega) hO rfl (s6_isGood hN hO h5) ?_
  refine ax_if_ne (tgt := 9) dX6_takeWord_4 (by decide) (by split <;> omega) (fun c4 => ?_) (fun c4 => ?_)
  · have c4 : s 5 = 0 := by (by_cases q : s 5 = 0; exact q; rw [if_neg q] at c4; exact absurd rfl c4)
    refine ax_aload_n dX6_takeWord_9 rfl ?_
    refine ax_cvi0 dX6_takeWord_10 ln_X6_takeWord_86 (Nat.le_of_ble_eq_true rfl) (Or.inl rfl) (by omega) hO rfl (s6_ahead hN hO hT hB hP) (fun ret g1 hq => ?_)
    obtain ⟨hv, s1, hO1, hA1, hP1, y1⟩ := hq
    cases hv
    have hB1 : BT g1 T := hB.mv (y1 113 (by decide))
    have htn := hP1.le
    have hn := hP1.1
    refine ax_pop dX6_takeWord_13 rfl ?_
    refine ax_iconst dX6_takeWord_14 ?_
    refine ax_istore_n dX6_takeWord_15 rfl (by decide) ?_
    refine l6_take hN hO1 hT hB1 hP1 hj (fun k hkl hm hno => ?_) (LN j) 0 (by omega) (fun i hi => absurd hi (Nat.not_lt_zero _))
    refine ax_iload_n dX6_takeWord_48 rfl ?_
    refine ax_aload_n dX6_takeWord_49 rfl ?_
    refine ex_l_length (by exact dX6_takeWord_50) (by decide) (show 3 ≤ _ ∧ 60 ≤ _ from ⟨by decide, by decide⟩) (Nat.le_of_ble_eq_true rfl) (show j < 18 by omega) (show _ = I ((LN j : Nat) : Int) from I_nat _) ?_
    refine ax_icmp_lt (tgt := 76) dX6_takeWord_53 (by decide) (by omega) (by omega) (fun c53 => ?_) (fun c53 => ?_)
    · refine ax_iconst dX6_takeWord_76 ?_
      exact ax_zret dX6_takeWord_77 rfl (by first | exact Or.inl rfl | exact Or.inr rfl) ⟨0, s1, t, t, rfl, Or.inl rfl, hO1, hA1, hP1, y1, fun _ => rfl, fun _ e => absurd e (by decide), fun _ _ => ⟨by cases e : wd T n j t with | true => exact absurd ((wd_alt hj htn).mp e) (fun w => hno (by omega) (w.1 k (by omega))) | false => rfl, rfl, rfl⟩⟩
    · refine ax_aload_n dX6_takeWord_56 rfl ?_
      refine ax_aload_n dX6_takeWord_57 rfl ?_
      refine ax_getf dX6_takeWord_58 ck6 fl_X6_70 (by decide) (by omega) hO1 rfl ?_
      have ek : k = LN j := by omega
      rw [hP1.2.2.1]
      refine ax_iload_n dX6_takeWord_61 rfl ?_
      refine ax_iadd dX6_takeWord_62 ?_
      rw [show (t : Int) + (k : Int) = ((t + k : Nat) : Int) by push_cast; rfl]
      refine ax_cviP1 dX6_takeWord_63 ln_X6_takeWord_73 (Nat.le_of_ble_eq_true rfl) (Or.inl rfl) (by omega) hO1 rfl (s6_byteAt hN hO1 hT hB1 hP1 (k := t + k) (by omega)) ?_
      refine ax_bipush dX6_takeWord_66 (by decide) ?_
      refine ax_bipush dX6_takeWord_68 (by decide) ?_
      refine ax_csiP3 dX6_takeWord_70 ln_X6_takeWord_54 (Nat.le_of_ble_eq_true rfl) (Or.inr rfl) (s6_in (by have := chr_rg (k := t + k) hT hP1.1; omega) (by omega) (by omega)) ?_
      refine ax_if_eq (tgt := 78) dX6_takeWord_73 (by decide) (by split <;> omega) (fun c73 => ?_) (fun c73 => ?_)
      · have hnl : ¬ (97 ≤ chr T n (t + k) ∧ chr T n (t + k) ≤ 122) := fun q => by (rw [if_pos q] at c73; omega)
        have hwd : wd T n j t = true := (wd_alt hj htn).mpr ⟨fun i hi => hm i (by omega), by rw [← ek]; exact hnl⟩
        have hte := (wd_iff.mp hwd).2.1
        have tl := tE_le (T := T) htn
        refine ax_aload_n dX6_takeWord_78 rfl ?_
        refine ax_dup dX6_takeWord_79 rfl ?_
        refine ax_getf dX6_takeWord_80 ck6 fl_X6_70 (by decide) (by omega) hO1 rfl ?_
        rw [hP1.2.2.1]
        refine ax_iload_n dX6_takeWord_83 rfl ?_
        refine ax_iadd dX6_takeWord_84 ?_
        rw [show (t : Int) + (k : Int) = ((t + k : Nat) : Int) by push_cast; rfl]
        refine ax_putf dX6_takeWord_85 ck6 fl_X6_70 (by decide) (by omega) hO1 rfl (Or.inl rfl) (Nat.le_of_ble_eq_true rfl) rfl ?_
        generalize hgg2 : va_up g1 112 _ = g2
        obtain ⟨s2, hO2, es2⟩ : ∃ rr, XO g2 rr ∧ rr = upZ s1 4 ((t + k : Nat) : Int) := ⟨_, by rw [← hgg2]; exact hO1.s4, rfl⟩
        have y2 : Y2 h g2 := fun a ha => by rw [← hgg2]; exact (vu_ne ha).trans (y1 a ha)
        refine ax_iconst dX6_takeWord_88 ?_
        exact ax_zret dX6_takeWord_89 rfl (by first | exact Or.inl rfl | exact Or.inr rfl) ⟨1, s2, t + k, sN T n t, rfl, Or.inr rfl, hO2, fun i hi => by rw [es2]; exact (if_neg hi).trans (hA1 i hi), ⟨hP1.1, by rw [es2]; exact hP1.2.1, by rw [es2]; rfl, by omega, by rw [ek, ← hte]; rfl⟩, y2, fun e => absurd c4 e, fun _ _ => ⟨hwd, rfl⟩, fun _ e => absurd e (by decide)⟩
      · have hlt : 97 ≤ chr T n (t + k) ∧ chr T n (t + k) ≤ 122 := by (by_cases q : 97 ≤ chr T n (t + k) ∧ chr T n (t + k) ≤ 122; exact q; rw [if_neg q] at c73; exact absurd rfl c73)
        refine ax_iconst dX6_takeWord_76 ?_
        exact ax_zret dX6_takeWord_77 rfl (by first | exact Or.inl rfl | exact Or.inr rfl) ⟨0, s1, t, t, rfl, Or.inl rfl, hO1, hA1, hP1, y1, fun _ => rfl, fun _ e => absurd e (by decide), fun _ _ => ⟨by cases e : wd T n j t with | true => exact absurd ((wd_alt hj htn).mp e) (fun w => w.2 (by rw [← ek]; exact hlt)) | false => rfl, rfl, rfl⟩⟩
  · have c4 : s 5 ≠ 0 := fun q => by (rw [if_pos q] at c4; omega)
    refine ax_iconst dX6_takeWord_7 ?_
    exact ax_zret dX6_takeWord_8 rfl (by first | exact Or.inl rfl | exact Or.inr rfl) ⟨0, s, p, t, rfl, Or.inl rfl, hO, fun _ _ => rfl, hP, fun _ _ => rfl, fun _ => rfl, fun e => absurd e c4, fun e => absurd e c4⟩
theorem s6_expect (hN : 132 ≤ NC) (hO : XO h s) (hT : TX T) (hB : BT h T) (hP : PX T s n p t) (h5 : -1000 ≤ s 5 ∧ s 5 ≤ 1000) : Cl NC M_X6_expect [.ref 112, .int (I 59)] h (fun _ h1 => ∃ s1 p1 t1, XO h1 s1 ∧ agN s s1 ∧ PX T s1 n p1 t1 ∧ Y2 h h1 ∧ ST (semP T n t) (s 5) (s 6) (s1 5) (s1 6) (fun y => t1 = y)) := by
  refine ax_aload_n dX6_expect_0 rfl ?_
  refine ax_cviP0 dX6_expect_1 ln_X6_expect_82 (Nat.le_of_ble_eq_true rfl) (Or.inr rfl) (by omega) hO rfl (s6_isGood hN hO h5) ?_
  refine ax_if_ne (tgt := 8) dX6_expect_4 (by decide) (by split <;> omega) (fun c4 => ?_) (fun c4 => ?_)
  · have c4 : s 5 = 0 := by (by_cases q : s 5 = 0; exact q; rw [if_neg q] at c4; exact absurd rfl c4)
    refine ax_aload_n dX6_expect_8 rfl ?_
    refine ax_cvi0 dX6_expect_9 ln_X6_expect_86 (Nat.le_of_ble_eq_true rfl) (Or.inl rfl) (by omega) hO rfl (s6_ahead hN hO hT hB hP) (fun ret g1 hq => ?_)
    obtain ⟨hv, s1, hO1, hA1, hP1, y1⟩ := hq
    cases hv
    have cr := chr_rg (k := t) hT hP1.1
    have e5 : s1 5 = s 5 := hA1 5 (by decide)
    have e6 : s1 6 = s 6 := hA1 6 (by decide)
    refine ax_iload_n dX6_expect_12 rfl ?_
    refine ax_icmp_ne (tgt := 29) dX6_expect_13 (by decide) (by omega) (by omega) (fun c13 => ?_) (fun c13 => ?_)
    · have c3 : ¬ kd T n t = 3 := fun q => c13 (sem_chr.mp q)
      refine ax_aload_n dX6_expect_29 rfl ?_
      refine ax_bipush dX6_expect_30 (by decide) ?_
      refine ax_aload_n dX6_expect_32 rfl ?_
      refine ax_getf dX6_expect_33 ck6 fl_X6_70 (by decide) (by omega) hO1 rfl ?_
      rw [hP1.2.2.1]
      refine ax_cvv2 dX6_expect_36 ln_X6_expect_99 (Nat.le_of_ble_eq_true rfl) rfl (by omega) hO1 rfl (s6_report hN hO1 (by omega)) (fun g2 hq => ?_)
      obtain ⟨hO2, y2⟩ := hq
      exact ax_vret dX6_expect_39 rfl ⟨_, t, t, hO2, hA1.N.tr repN, hP1.rep, y1.tr y2, by rw [rep5, rep6, e5, e6]; unfold semP; rw [if_neg c3]; exact ST.no (by decide)⟩
    · have c3 := sem_chr.mpr c13
      have s3 := sN_3 c3
      refine ax_aload_n dX6_expect_16 rfl ?_
      refine ax_dup dX6_expect_17 rfl ?_
      refine ax_getf dX6_expect_18 ck6 fl_X6_70 (by decide) (by omega) hO1 rfl ?_
      rw [hP1.2.2.1]
      refine ax_iconst dX6_expect_21 ?_
      refine ax_iadd dX6_expect_22 ?_
      rw [show (t : Int) + 1 = ((t + 1 : Nat) : Int) by push_cast; rfl]
      refine ax_putf dX6_expect_23 ck6 fl_X6_70 (by decide) (by omega) hO1 rfl (Or.inl rfl) (Nat.le_of_ble_eq_true rfl) rfl ?_
      generalize hgg2 : va_up g1 112 _ = g2
      obtain ⟨s2, hO2, es2⟩ : ∃ rr, XO g2 rr ∧ rr = upZ s1 4 ((t + 1 : Nat) : Int) := ⟨_, by rw [← hgg2]; exact hO1.s4, rfl⟩
      have y2 : Y2 h g2 := fun a ha => by rw [← hgg2]; exact (vu_ne ha).trans (y1 a ha)
      refine ax_goto (tgt := 39) dX6_expect_26 (by decide) ?_
      exact ax_vret dX6_expect_39 rfl ⟨s2, t + 1, sN T n t, hO2, fun k k4 _ _ _ => by rw [es2]; exact (if_neg k4).trans (hA1 k k4), ⟨hP1.1, by rw [es2]; exact hP1.2.1, by rw [es2]; rfl, by omega, s3.2.symm⟩, y2, by rw [show s2 5 = s 5 by rw [es2]; exact e5, show s2 6 = s 6 by rw [es2]; exact e6]; unfold semP; rw [if_pos c3]; exact ST.ok rfl⟩
  · have c4 : s 5 ≠ 0 := fun q => by (rw [if_pos q] at c4; omega)
    exact ax_vret dX6_expect_7 rfl ⟨s, p, t, hO, fun _ _ _ _ _ => rfl, hP, fun _ _ => rfl, Or.inl ⟨c4, rfl, rfl⟩⟩
theorem l6_num (hN : 132 ≤ NC) (hT : TX T) (hB : BT h T) (hn : n ≤ 600) (hd : isD T n t = true) {lo hi : Int} {s0 : Nat → Int} (kk : ∀ g s, XO g s → (∀ k, k ≠ 4 → s k = s0 k) → s 4 = ((rn (cD T) n t : Nat) : Int) → Y2 h g → Ex NC none M_X6_number 90 [.ref 112, .int (I lo), .int (I hi), .int (I (min (vN T n t) 100000000))] [] g Q) : ∀ (f : Nat) (k : Nat) (g : hp) (s : Nat → Int), k + f = lnM T n t → XO g s → (∀ k, k ≠ 4 → s k = s0 k) → s 3 = (n : Int) → s 4 = ((t + k : Nat) : Int) → Y2 h g → Ex NC none M_X6_number 41 [.ref 112, .int (I lo), .int (I hi), .int (I (min (xv T t k) 100000000))] [] g Q := by
  have ds := isD_iff.mp hd
  have rg := rn_ge (c := cD T) (n := n) (p := t)
  have rl := rn_le (c := cD T) (n := n) (p := t) (by omega)
  have lm : lnM T n t = rn (cD T) n t - t := rfl
  intro f
  induction f with
  | zero =>
    intro k g s hk hO hA h3 h4 hY
    have hB1 : BT g T := hB.mv (hY 113 (by decide))
    have cr := chr_rg (k := t + k) hT hn
    have hPx : PX T s n (t + k) (sk T n (t + k)) := ⟨hn, h3, h4, by omega, rfl⟩
    refine ax_aload_n dX6_number_41 rfl ?_
    refine ax_aload_n dX6_number_42 rfl ?_
    refine ax_getf dX6_number_43 ck6 fl_X6_70 (by decide) (by omega) hO rfl ?_
    rw [h4]
    refine ax_cviP1 dX6_number_46 ln_X6_number_73 (Nat.le_of_ble_eq_true rfl) (Or.inl rfl) (by omega) hO rfl (s6_byteAt hN hO hT hB1 hPx (k := t + k) (by omega)) ?_
    refine ax_csiP1 dX6_number_49 ln_X6_number_103 (Nat.le_of_ble_eq_true rfl) (Or.inr rfl) (s6_isDigit (by omega)) ?_
    refine ax_if_eq (tgt := 90) dX6_number_52 (by decide) (by split <;> omega) (fun c52 => ?_) (fun c52 => ?_)
    · have e : k = lnM T n t := by omega
      subst e
      exact kk g s hO hA (by rw [h4]; unfold lnM; have := rn_ge (c := cD T) (n := n) (p := t); push_cast; omega) hY
    · exfalso
      have e : k = lnM T n t := by omega
      have st := rn_end (c := cD T) (n := n) (p := t)
      rw [show rn (cD T) n t = t + k by omega] at st
      have z := isD_chr (T := T) (n := n) (t := t + k)
      rw [isD_iff] at z
      by_cases q : 48 ≤ chr T n (t + k) ∧ chr T n (t + k) ≤ 57
      · exact st (z.mpr q)
      · rw [if_neg q] at c52; exact absurd rfl c52
  | succ f ih =>
    intro k g s hk hO hA h3 h4 hY
    have hB1 : BT g T := hB.mv (hY 113 (by decide))
    have cr := chr_rg (k := t + k) hT hn
    have hPx : PX T s n (t + k) (sk T n (t + k)) := ⟨hn, h3, h4, by omega, rfl⟩
    refine ax_aload_n dX6_number_41 rfl ?_
    refine ax_aload_n dX6_number_42 rfl ?_
    refine ax_getf dX6_number_43 ck6 fl_X6_70 (by decide) (by omega) hO rfl ?_
    rw [h4]
    refine ax_cviP1 dX6_number_46 ln_X6_number_73 (Nat.le_of_ble_eq_true rfl) (Or.inl rfl) (by omega) hO rfl (s6_byteAt hN hO hT hB1 hPx (k := t + k) (by omega)) ?_
    refine ax_csiP1 dX6_number_49 ln_X6_number_103 (Nat.le_of_ble_eq_true rfl) (Or.inr rfl) (s6_isDigit (by omega)) ?_
    refine ax_if_eq (tgt := 90) dX6_number_52 (by decide) (by split <;> omega) (fun c52 => ?_) (fun c52 => ?_)
    · exfalso
      have hrk := rn_in (c := cD T) (n := n) (p := t) (k := t + k) (by omega) (by omega)
      have z := (isD_chr (T := T) (n := n) (t := t + k)).mp (isD_iff.mpr hrk)
      rw [if_pos z] at c52; omega
    · refine ex_ldcI (v := I 100000000) cn_110 dX6_number_55 ?_
      refine ax_bipush dX6_number_57 (by decide) ?_
      refine ax_iload_n dX6_number_59 rfl ?_
      refine ax_imul dX6_number_60 ?_
      refine ax_aload_n dX6_number_61 rfl ?_
      refine ax_aload_n dX6_number_62 rfl ?_
      refine ax_getf dX6_number_63 ck6 fl_X6_70 (by decide) (by omega) hO rfl ?_
      rw [h4]
      refine ax_cviP1 dX6_number_66 ln_X6_number_73 (Nat.le_of_ble_eq_true rfl) (Or.inl rfl) (by omega) hO rfl (s6_byteAt hN hO hT hB1 hPx (k := t + k) (by omega)) ?_
      have hdk := dig_rg (T := T) (n := n) (s := t) k (by omega)
      have hrk := rn_in (c := cD T) (n := n) (p := t) (k := t + k) (by omega) (by unfold lnM at hk; omega)
      rw [show chr T n (t + k) = T (t + k) from if_pos hrk.1]
      have x0 := xv_ge (T := T) (s := t) (k := k) (fun i hi => (dig_rg (T := T) (n := n) (s := t) i (by omega)).1)
      refine ax_iadd dX6_number_69 ?_
      refine ax_bipush dX6_number_70 (by decide) ?_
      refine ax_isub dX6_number_72 ?_
      refine ax_csiP2 dX6_number_73 ln_X6_number_111 (Nat.le_of_ble_eq_true rfl) (Or.inl rfl) (s6_min (by omega) (by omega)) ?_
      rw [show 10 * min (xv T t k) 100000000 + T (t + k) - 48 = 10 * min (xv T t k) 100000000 + (T (t + k) - 48) by omega, Int.min_comm 100000000, xv_min (by decide) (fun i hi => (dig_rg (T := T) (n := n) (s := t) i (by omega)).1)]
      refine ax_istore_n dX6_number_76 rfl (by decide) ?_
      refine ax_aload_n dX6_number_77 rfl ?_
      refine ax_dup dX6_number_78 rfl ?_
      refine ax_getf dX6_number_79 ck6 fl_X6_70 (by decide) (by omega) hO rfl ?_
      rw [h4]
      refine ax_iconst dX6_number_82 ?_
      refine ax_iadd dX6_number_83 ?_
      rw [show ((t + k : Nat) : Int) + 1 = ((t + (k + 1) : Nat) : Int) by push_cast; omega]
      refine ax_putf dX6_number_84 ck6 fl_X6_70 (by decide) (by omega) hO rfl (Or.inl rfl) (Nat.le_of_ble_eq_true rfl) rfl ?_
      refine ax_goto (tgt := 41) dX6_number_87 (by decide) ?_
      generalize hgg1 : va_up g 112 _ = g1
      obtain ⟨s1, hO1, es1⟩ : ∃ rr, XO g1 rr ∧ rr = upZ s 4 ((t + (k + 1) : Nat) : Int) := ⟨_, by rw [← hgg1]; exact hO.s4, rfl⟩
      have y1 : Y2 h g1 := fun a ha => by rw [← hgg1]; exact (vu_ne ha).trans (hY a ha)
      exact ih (k + 1) g1 s1 (by omega) hO1 (fun i hi => by rw [es1]; exact (if_neg hi).trans (hA i hi)) (by rw [es1]; exact h3) (by rw [es1]; rfl) y1
theorem s6_number (hN : 132 ≤ NC) (hO : XO h s) (hT : TX T) (hB : BT h T) (hP : PX T s n p t) (h5 : -1000 ≤ s 5 ∧ s 5 ≤ 1000) {lo hi : Int} (hlh : 0 ≤ lo ∧ lo ≤ hi ∧ hi ≤ 200) : Cl NC M_X6_number [.ref 112, .int (I lo), .int (I hi)] h (fun v h1 => ∃ z s1 p1 t1, v = .int (I z) ∧ (0 ≤ z ∧ z ≤ hi) ∧ XO h1 s1 ∧ agN s s1 ∧ PX T s1 n p1 t1 ∧ Y2 h h1 ∧ (s1 5 ≠ 0 → z = 0) ∧ ST (numP T n lo hi t) (s 5) (s 6) (s1 5) (s1 6) (fun y => z = y.1 ∧ t1 = y.2 ∧ s1 13 = (t : Int))) := by
  refine ax_aload_n dX6_number_0 rfl ?_
  refine ax_cviP0 dX6_number_1 ln_X6_number_82 (Nat.le_of_ble_eq_true rfl) (Or.inr rfl) (by omega) hO rfl (s6_isGood hN hO h5) ?_
  refine ax_if_ne (tgt := 9) dX6_number_4 (by decide) (by split <;> omega) (fun c4 => ?_) (fun c4 => ?_)
  · have c4 : s 5 = 0 := by (by_cases q : s 5 = 0; exact q; rw [if_neg q] at c4; exact absurd rfl c4)
    refine ax_aload_n dX6_number_9 rfl ?_
    refine ax_cvi0 dX6_number_10 ln_X6_number_86 (Nat.le_of_ble_eq_true rfl) (Or.inl rfl) (by omega) hO rfl (s6_ahead hN hO hT hB hP) (fun ret g1 hq => ?_)
    obtain ⟨hv, s1, hO1, hA1, hP1, y1⟩ := hq
    cases hv
    have cr := chr_rg (k := t) hT hP1.1
    have e5 : s1 5 = s 5 := hA1 5 (by decide)
    have e6 : s1 6 = s 6 := hA1 6 (by decide)
    have hn := hP1.1
    refine ax_csiP1 dX6_number_13 ln_X6_number_103 (Nat.le_of_ble_eq_true rfl) (Or.inr rfl) (s6_isDigit (by omega)) ?_
    refine ax_if_ne (tgt := 31) dX6_number_16 (by decide) (by split <;> omega) (fun c16 => ?_) (fun c16 => ?_)
    · have hd : isD T n t = true := by (by_cases q : 48 ≤ chr T n t ∧ chr T n t ≤ 57; exact isD_chr.mpr q; rw [if_neg q] at c16; exact absurd rfl c16)
      refine ax_aload_n dX6_number_31 rfl ?_
      refine ax_aload_n dX6_number_32 rfl ?_
      refine ax_getf dX6_number_33 ck6 fl_X6_70 (by decide) (by omega) hO1 rfl ?_
      rw [hP1.2.2.1]
      refine ax_putf dX6_number_36 ck6 fl_X6_107 (by decide) (by omega) hO1 rfl (Or.inl rfl) (Nat.le_of_ble_eq_true rfl) rfl ?_
      generalize hgg2 : va_up g1 112 _ = g2
      obtain ⟨s2, hO2, es2⟩ : ∃ rr, XO g2 rr ∧ rr = upZ s1 13 (t : Int) := ⟨_, by rw [← hgg2]; exact hO1.s13, rfl⟩
      have y2 : Y2 h g2 := fun a ha => by rw [← hgg2]; exact (vu_ne ha).trans (y1 a ha)
      have hB2 : BT g2 T := hB.mv (y2 113 (by decide))
      refine ax_iconst dX6_number_39 ?_
      refine ax_istore_n dX6_number_40 rfl (by decide) ?_
      suffices lx : Ex NC none M_X6_number 41 [.ref 112, .int (I lo), .int (I hi), .int (I (min (xv T t 0) 100000000))] [] g2 (fun v h1 => ∃ z s1 p1 t1, v = .int (I z) ∧ (0 ≤ z ∧ z ≤ hi) ∧ XO h1 s1 ∧ agN s s1 ∧ PX T s1 n p1 t1 ∧ Y2 h h1 ∧ (s1 5 ≠ 0 → z = 0) ∧ ST (numP T n lo hi t) (s 5) (s 6) (s1 5) (s1 6) (fun y => z = y.1 ∧ t1 = y.2 ∧ s1 13 = (t : Int))) by
        rw [show min (xv T t 0) 100000000 = 0 from by show min (0 : Int) 100000000 = 0; omega] at lx
        exact lx
      refine l6_num (h := g2) (s0 := s2) (lo := lo) (hi := hi) hN hT hB2 hn hd (fun g3 s3 hO3 hA3 h43 y3 => ?_) (lnM T n t) 0 g2 s2 (by omega) hO2 (fun _ _ => rfl) (by rw [es2]; exact hP1.2.1) (by rw [es2]; exact hP1.2.2.1) (fun _ _ => rfl)
      have f5 : s3 5 = s 5 := (hA3 5 (by decide)).trans (by rw [es2]; exact e5)
      have f6 : s3 6 = s 6 := (hA3 6 (by decide)).trans (by rw [es2]; exact e6)
      have f13 : s3 13 = (t : Int) := (hA3 13 (by decide)).trans (by rw [es2]; rfl)
      have hAN : agN s s3 := fun k k4 k5 k6 k13 => (hA3 k k4).trans (by rw [es2]; exact (if_neg k13).trans (hA1 k k4))
      have rl := rn_le (c := cD T) (n := n) (p := t) (by have := (isD_iff.mp hd).1; omega)
      have hP3 : PX T s3 n (rn (cD T) n t) (sN T n t) := ⟨hn, (hA3 3 (by decide)).trans (by rw [es2]; exact hP1.2.1), h43, rl, by unfold sN; rw [tE_d hd]⟩
      have v0 : 0 ≤ vN T n t := xv_ge (fun i hi => (dig_rg (T := T) (n := n) (s := t) i hi).1)
      have y23 := y2.tr y3
      refine ax_iload_n dX6_number_90 rfl ?_
      refine ax_iload_n dX6_number_91 rfl ?_
      refine ax_iload_n dX6_number_92 rfl ?_
      refine ax_csiP3 dX6_number_93 ln_X6_number_54 (Nat.le_of_ble_eq_true rfl) (Or.inr rfl) (s6_in (by omega) (by omega) (by omega)) ?_
      refine ax_if_ne (tgt := 109) dX6_number_96 (by decide) (by split <;> omega) (fun c96 => ?_) (fun c96 => ?_)
      · have hin : lo ≤ min (vN T n t) 100000000 ∧ min (vN T n t) 100000000 ≤ hi := by (by_cases q : lo ≤ min (vN T n t) 100000000 ∧ min (vN T n t) 100000000 ≤ hi; exact q; rw [if_neg q] at c96; exact absurd rfl c96)
        refine ax_aload_n dX6_number_109 rfl ?_
        refine ax_cviP0 dX6_number_110 ln_X6_number_82 (Nat.le_of_ble_eq_true rfl) (Or.inr rfl) (by omega) hO3 rfl (s6_isGood hN hO3 (by omega)) ?_
        refine ax_if_eq (tgt := 120) dX6_number_113 (by decide) (by split <;> omega) (fun c113 => ?_) (fun c113 => ?_)
        · exfalso
          rw [if_pos (by omega)] at c113
          omega
        · refine ax_iload_n dX6_number_116 rfl ?_
          refine ax_goto (tgt := 121) dX6_number_117 (by decide) ?_
          exact ax_iret dX6_number_121 rfl ⟨_, s3, _, _, rfl, by omega, hO3, hAN, hP3, y23, fun e => absurd (by omega) e, by rw [f5, f6]; unfold numP; rw [if_pos hd, if_pos (by omega)]; exact ST.ok ⟨by show min _ _ = vN T n t; omega, rfl, f13⟩⟩
      · have hin : ¬ (lo ≤ vN T n t ∧ vN T n t ≤ hi) := fun q => by (rw [if_pos (by omega)] at c96; omega)
        refine ax_aload_n dX6_number_99 rfl ?_
        refine ax_bipush dX6_number_100 (by decide) ?_
        refine ax_aload_n dX6_number_102 rfl ?_
        refine ax_getf dX6_number_103 ck6 fl_X6_107 (by decide) (by omega) hO3 rfl ?_
        rw [f13]
        refine ax_cvv2 dX6_number_106 ln_X6_number_99 (Nat.le_of_ble_eq_true rfl) rfl (by omega) hO3 rfl (s6_report hN hO3 (by omega)) (fun g4 hq => ?_)
        obtain ⟨hO4, y4⟩ := hq
        have g5 : rep s3 (-3) (t : Int) 5 = -3 := by rw [rep5, if_pos (by omega)]
        refine ax_aload_n dX6_number_109 rfl ?_
        refine ax_cviP0 dX6_number_110 ln_X6_number_82 (Nat.le_of_ble_eq_true rfl) (Or.inr rfl) (by omega) hO4 rfl (s6_isGood hN hO4 (by omega)) ?_
        refine ax_if_eq (tgt := 120) dX6_number_113 (by decide) (by split <;> omega) (fun c113 => ?_) (fun c113 => ?_)
        · refine ax_iconst dX6_number_120 ?_
          exact ax_iret dX6_number_121 rfl ⟨0, _, _, _, rfl, by omega, hO4, hAN.tr repN, hP3.rep, y23.tr y4, fun _ => rfl, by rw [rep5, rep6, f5, f6]; unfold numP; rw [if_pos hd, if_neg hin]; exact ST.no (by decide)⟩
        · exfalso
          rw [if_neg (by omega)] at c113
          exact absurd rfl c113
    · have hd : ¬ isD T n t = true := fun q => by (rw [if_pos (isD_chr.mp q)] at c16; omega)
      refine ax_aload_n dX6_number_19 rfl ?_
      refine ax_bipush dX6_number_20 (by decide) ?_
      refine ax_aload_n dX6_number_22 rfl ?_
      refine ax_getf dX6_number_23 ck6 fl_X6_70 (by decide) (by omega) hO1 rfl ?_
      rw [hP1.2.2.1]
      refine ax_cvv2 dX6_number_26 ln_X6_number_99 (Nat.le_of_ble_eq_true rfl) rfl (by omega) hO1 rfl (s6_report hN hO1 (by omega)) (fun g2 hq => ?_)
      obtain ⟨hO2, y2⟩ := hq
      refine ax_iconst dX6_number_29 ?_
      exact ax_iret dX6_number_30 rfl ⟨0, _, t, t, rfl, by omega, hO2, hA1.N.tr repN, hP1.rep, y1.tr y2, fun _ => rfl, by rw [rep5, rep6, e5, e6]; unfold numP; rw [if_neg hd]; exact ST.no (by decide)⟩
  · have c4 : s 5 ≠ 0 := fun q => by (rw [if_pos q] at c4; omega)
    refine ax_iconst dX6_number_7 ?_
    exact ax_iret dX6_number_8 rfl ⟨0, s, p, t, rfl, by omega, hO, fun _ _ _ _ _ => rfl, hP, fun _ _ => rfl, fun _ => rfl, Or.inl ⟨c4, rfl, rfl⟩⟩
end RM
