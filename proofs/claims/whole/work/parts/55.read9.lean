/-! the reference reads: a fresh draft, and the statements up to the end -/
theorem fl_x {f1 f2 f3 f4 : Int} (h : F01 f1 f2 f3 f4) : ∃ x : Nat, x < 8 ∧ f1 + 2 * f2 + 4 * f3 = (x : Int) ∧ ((x / 2 ^ 0 % 2 : Nat) : Int) = f1 ∧ ((x / 2 ^ 1 % 2 : Nat) : Int) = f2 ∧ ((x / 2 ^ 2 % 2 : Nat) : Int) = f3 := by
  obtain ⟨h1, h2, h3, -⟩ := h
  refine ⟨(f1 + 2 * f2 + 4 * f3).toNat, by omega, by omega, by omega, by omega, by omega⟩
theorem x_F01 {x : Nat} {f4 : Int} (h : f4 = 0 ∨ f4 = 1) : F01 ((x / 2 ^ 0 % 2 : Nat) : Int) ((x / 2 ^ 1 % 2 : Nat) : Int) ((x / 2 ^ 2 % 2 : Nat) : Int) f4 := ⟨by omega, by omega, by omega, h⟩
theorem lp_sts {T : Nat → Int} {n f t x : Nat} {K : Nat → Nat} {f4 : Int} (h : t < n) : lpP T n (f + 1) t K ((x / 2 ^ 0 % 2 : Nat) : Int) ((x / 2 ^ 1 % 2 : Nat) : Int) ((x / 2 ^ 2 % 2 : Nat) : Int) f4 = bnd (stsP T n t K x f4) (fun v => lpP T n f v.1 v.2.1 v.2.2.1 v.2.2.2.1 v.2.2.2.2.1 v.2.2.2.2.2) := by
  show (if n ≤ t then _ else _) = _
  rw [if_neg (by omega)]
  unfold stsP
  rw [bnd_as]
  congr 1
  funext v
  rw [bnd_as]
  rfl
section RM
variable {NC : Nat} {h : hp} {s T : Nat → Int} {n p t : Nat} {K : Nat → Nat} {Q : qt}
theorem y6_0 {a w u : Nat} (ha : a < NC) (kk : ∀ g F, row 0 (g a) 746 F → (∀ j, j < 746 → F j = 0) → EqX [a] h g → Ex NC none M_X6_layKite 19 [.ref a, .int (I (w : Int)), .int (I (u : Int)), .int (I ((746 : Nat) : Int))] [] g Q) : ∀ (f : Nat) (i : Nat) (g : hp) (F : Nat → Int), i + f = 746 → row 0 (g a) 746 F → (∀ j, j < i → F j = 0) → EqX [a] h g → Ex NC none M_X6_layKite 2 [.ref a, .int (I (w : Int)), .int (I (u : Int)), .int (I (i : Int))] [] g Q := by
  intro f
  induction f with
  | zero =>
    intro i g F hi hF iF hX
    refine ax_iload_n dX6_layKite_2 rfl ?_
    refine ax_sipush dX6_layKite_3 (by decide) ?_
    refine ax_icmp_ge (tgt := 19) dX6_layKite_6 (by decide) (by omega) (by omega) (fun c6 => ?_) (fun c6 => ?_)
    · have e : i = 746 := by omega
      subst e
      exact kk g F hF iF hX
    · exfalso
      omega
  | succ f ih =>
    intro i g F hi hF iF hX
    refine ax_iload_n dX6_layKite_2 rfl ?_
    refine ax_sipush dX6_layKite_3 (by decide) ?_
    refine ax_icmp_ge (tgt := 19) dX6_layKite_6 (by decide) (by omega) (by omega) (fun c6 => ?_) (fun c6 => ?_)
    · exfalso
      omega
    · refine ax_aload_n dX6_layKite_9 rfl ?_
      refine ax_iload_n dX6_layKite_10 rfl ?_
      refine ax_iconst dX6_layKite_11 ?_
      refine ax_iasr (j := i) dX6_layKite_12 ha hF (by omega) (by omega) (by decide) (fun e12 he12 => ?_)
      refine ax_iinc dX6_layKite_13 rfl rfl (by decide) ?_
      refine ax_goto (tgt := 2) dX6_layKite_16 (by decide) ?_
      exact ih (i + 1) _ _ (by omega) (he12.mv vu_eq) (fun j hj => by unfold upZ; by_cases q : j = i; exact if_pos q; rw [if_neg q]; exact iF j (by omega)) (hX.up (by simp))
theorem y6_1 {a w u : Nat} (ha : a < NC) (hw : w < 1000) {F0 : Nat → Int} (kk : ∀ g, row 0 (g a) 746 (fun j => if 6 ≤ j ∧ j < 18 then ((w / 2 : Nat) : Int) else F0 j) → EqX [a] h g → Ex NC none M_X6_layKite 58 [.ref a, .int (I (w : Int)), .int (I (u : Int)), .int (I ((12 : Nat) : Int))] [] g Q) : ∀ (f : Nat) (i : Nat) (g : hp), i + f = 12 → row 0 (g a) 746 (fun j => if 6 ≤ j ∧ j < 6 + i then ((w / 2 : Nat) : Int) else F0 j) → EqX [a] h g → Ex NC none M_X6_layKite 37 [.ref a, .int (I (w : Int)), .int (I (u : Int)), .int (I (i : Int))] [] g Q := by
  intro f
  induction f with
  | zero =>
    intro i g hi hF hX
    refine ax_iload_n dX6_layKite_37 rfl ?_
    refine ax_bipush dX6_layKite_38 (by decide) ?_
    refine ax_icmp_ge (tgt := 58) dX6_layKite_40 (by decide) (by omega) (by omega) (fun c40 => ?_) (fun c40 => ?_)
    · have e : i = 12 := by omega
      subst e
      exact kk g hF hX
    · exfalso
      omega
  | succ f ih =>
    intro i g hi hF hX
    refine ax_iload_n dX6_layKite_37 rfl ?_
    refine ax_bipush dX6_layKite_38 (by decide) ?_
    refine ax_icmp_ge (tgt := 58) dX6_layKite_40 (by decide) (by omega) (by omega) (fun c40 => ?_) (fun c40 => ?_)
    · exfalso
      omega
    · refine ax_aload_n dX6_layKite_43 rfl ?_
      refine ax_bipush dX6_layKite_44 (by decide) ?_
      refine ax_iload_n dX6_layKite_46 rfl ?_
      refine ax_iadd dX6_layKite_47 ?_
      refine ax_iload_n dX6_layKite_48 rfl ?_
      refine ax_iconst dX6_layKite_49 ?_
      refine ax_idiv dX6_layKite_50 (by omega) (by omega) ?_
      refine ax_iasr (j := (6 + i)) dX6_layKite_51 ha hF (by omega) (by omega) (by decide) (fun e51 he51 => ?_)
      refine ax_iinc dX6_layKite_52 rfl rfl (by decide) ?_
      refine ax_goto (tgt := 37) dX6_layKite_55 (by decide) ?_
      exact ih (i + 1) _ (by omega) ((he51.mv vu_eq).cong (fun j hj => by simp only [upZ]; by_cases q : j = 6 + i; (rw [if_pos q, if_pos (by omega)]; omega); rw [if_neg q]; by_cases q2 : 6 ≤ j ∧ j < 6 + i; (rw [if_pos q2, if_pos (by omega)]); rw [if_neg q2, if_neg (by omega)])) (hX.up (by simp))
theorem y6_2 {a w u : Nat} (ha : a < NC) {F0 : Nat → Int} (kk : ∀ g, row 0 (g a) 746 (fun j => if 19 ≤ j ∧ j < 25 then 2 else F0 j) → EqX [a] h g → Q .null g) : ∀ (f : Nat) (i : Nat) (g : hp), i + f = 7 → 1 ≤ i → row 0 (g a) 746 (fun j => if 19 ≤ j ∧ j < 18 + i then 2 else F0 j) → EqX [a] h g → Ex NC none M_X6_layKite 60 [.ref a, .int (I (w : Int)), .int (I (u : Int)), .int (I (i : Int))] [] g Q := by
  intro f
  induction f with
  | zero =>
    intro i g hi hi1 hF hX
    refine ax_iload_n dX6_layKite_60 rfl ?_
    refine ax_bipush dX6_layKite_61 (by decide) ?_
    refine ax_icmp_gt (tgt := 79) dX6_layKite_63 (by decide) (by omega) (by omega) (fun c63 => ?_) (fun c63 => ?_)
    · have e : i = 7 := by omega
      subst e
      exact ax_vret dX6_layKite_79 rfl (kk g hF hX)
    · exfalso
      omega
  | succ f ih =>
    intro i g hi hi1 hF hX
    refine ax_iload_n dX6_layKite_60 rfl ?_
    refine ax_bipush dX6_layKite_61 (by decide) ?_
    refine ax_icmp_gt (tgt := 79) dX6_layKite_63 (by decide) (by omega) (by omega) (fun c63 => ?_) (fun c63 => ?_)
    · exfalso
      omega
    · refine ax_aload_n dX6_layKite_66 rfl ?_
      refine ax_bipush dX6_layKite_67 (by decide) ?_
      refine ax_iload_n dX6_layKite_69 rfl ?_
      refine ax_iadd dX6_layKite_70 ?_
      refine ax_iconst dX6_layKite_71 ?_
      refine ax_iasr (j := (18 + i)) dX6_layKite_72 ha hF (by omega) (by omega) (by decide) (fun e72 he72 => ?_)
      refine ax_iinc dX6_layKite_73 rfl rfl (by decide) ?_
      refine ax_goto (tgt := 60) dX6_layKite_76 (by decide) ?_
      exact ih (i + 1) _ (by omega) (by omega) ((he72.mv vu_eq).cong (fun j hj => by simp only [upZ]; by_cases q : j = 18 + i; (rw [if_pos q, if_pos (by omega)]); rw [if_neg q]; by_cases q2 : 19 ≤ j ∧ j < 18 + i; (rw [if_pos q2, if_pos (by omega)]); rw [if_neg q2, if_neg (by omega)])) (hX.up (by simp))
theorem s6_layKite {a w u : Nat} (ha : a < NC) (hw : w < 1000) (sA : sh 0 (h a) 746) : Cl NC M_X6_layKite [.ref a, .int (I (w : Int)), .int (I (u : Int))] h (fun _ h1 => row 0 (h1 a) 746 (fun i => (freshK w u i : Int)) ∧ EqX [a] h h1) := by
  obtain ⟨F0, hA⟩ := sA
  refine ax_iconst dX6_layKite_0 ?_
  refine ax_istore_n dX6_layKite_1 rfl (by decide) ?_
  refine y6_0 (h := h) ha (fun g0 F hF0 iF hX0 => ?_) 746 0 h F0 (by omega) hA (fun j hj => absurd hj (Nat.not_lt_zero _)) EqX.rf
  refine ax_aload_n dX6_layKite_19 rfl ?_
  refine ax_iconst dX6_layKite_20 ?_
  refine ax_iload_n dX6_layKite_21 rfl ?_
  refine ax_iasr (j := 0) dX6_layKite_22 ha hF0 (by omega) (by omega) (by decide) (fun e22 he22 => ?_)
  have hF1 : row 0 (va_up g0 a e22 a) 746 _ := he22.mv vu_eq
  have hX1 : EqX [a] h (va_up g0 a e22) := hX0.up (by simp)
  generalize va_up g0 a e22 = g1 at *
  refine ax_aload_n dX6_layKite_23 rfl ?_
  refine ax_iconst dX6_layKite_24 ?_
  refine ax_iload_n dX6_layKite_25 rfl ?_
  refine ax_iasr (j := 1) dX6_layKite_26 ha hF1 (by omega) (by omega) (by decide) (fun e26 he26 => ?_)
  have hF2 : row 0 (va_up g1 a e26 a) 746 _ := he26.mv vu_eq
  have hX2 : EqX [a] h (va_up g1 a e26) := hX1.up (by simp)
  generalize va_up g1 a e26 = g2 at *
  refine ax_aload_n dX6_layKite_27 rfl ?_
  refine ax_iconst dX6_layKite_28 ?_
  refine ax_iconst dX6_layKite_29 ?_
  refine ax_iasr (j := 3) dX6_layKite_30 ha hF2 (by omega) (by omega) (by decide) (fun e30 he30 => ?_)
  have hF3 : row 0 (va_up g2 a e30 a) 746 _ := he30.mv vu_eq
  have hX3 : EqX [a] h (va_up g2 a e30) := hX2.up (by simp)
  generalize va_up g2 a e30 = g3 at *
  refine ax_aload_n dX6_layKite_31 rfl ?_
  refine ax_iconst dX6_layKite_32 ?_
  refine ax_iconst dX6_layKite_33 ?_
  refine ax_iasr (j := 4) dX6_layKite_34 ha hF3 (by omega) (by omega) (by decide) (fun e34 he34 => ?_)
  refine ax_iconst dX6_layKite_35 ?_
  refine ax_istore_n dX6_layKite_36 rfl (by decide) ?_
  have hF4 : row 0 (va_up g3 a e34 a) 746 _ := he34.mv vu_eq
  have hX4 : EqX [a] h (va_up g3 a e34) := hX3.up (by simp)
  generalize va_up g3 a e34 = g4 at *
  refine y6_1 (h := h) (F0 := upZ (upZ (upZ (upZ F 0 (w : Int)) 1 (u : Int)) 3 1) 4 5) ha hw (fun g5 hF5 hX5 => ?_) 12 0 g4 (by omega) (hF4.cong (fun j hj => (if_neg (by omega)).symm)) hX4
  refine ax_iconst dX6_layKite_58 ?_
  refine ax_istore_n dX6_layKite_59 rfl (by decide) ?_
  refine y6_2 (h := h) ha (fun g6 hF6 hX6 => ⟨hF6.cong (fun j hj => ?_), hX6⟩) 6 1 g5 (by omega) (by omega) (hF5.cong (fun j hj => (if_neg (by omega)).symm)) hX5
  have z := iF j hj
  simp only [upZ]
  by_cases q0 : j = 0
  · subst q0; rfl
  by_cases q1 : j = 1
  · subst q1; rfl
  by_cases q3 : j = 3
  · subst q3; rfl
  by_cases q4 : j = 4
  · subst q4; rfl
  have fr : freshK w u j = if 6 ≤ j ∧ j < 18 then w / 2 else if 19 ≤ j ∧ j < 25 then 2 else 0 := by unfold freshK; rw [if_neg q0, if_neg q1, if_neg q3, if_neg q4]
  rw [fr]
  by_cases r1 : 19 ≤ j ∧ j < 25
  · rw [if_pos r1, if_neg (by omega : ¬ (6 ≤ j ∧ j < 18)), if_pos r1]; rfl
  rw [if_neg r1]
  by_cases r2 : 6 ≤ j ∧ j < 18
  · rw [if_pos r2, if_pos r2]
  rw [if_neg r2, if_neg r2, if_neg r1, if_neg q4, if_neg q3, if_neg q1, if_neg q0, z]
  rfl
theorem y6_lp (hN : 132 ≤ NC) (hT : TX T) {h0 : hp} (hB0 : BT h0 T) {w1 w2 w3 : Value} : ∀ (f : Nat) (g : hp) (s : Nat → Int) (p t x : Nat) (K : Nat → Nat), XO g s → PX T s n p t → (-1000 ≤ s 5 ∧ s 5 ≤ 1000) → DR g K → Y3 h0 g → (s 5 = 0 → n ≤ t + f ∧ KD K (s 15) ∧ s 14 = (x : Int) ∧ x < 8 ∧ (s 15 = 0 ∨ s 15 = 1)) → (∀ g1 s1 K1, XO g1 s1 → DR g1 K1 → Y3 h0 g1 → agS s s1 → ST (lpP T n f t K ((x / 2 ^ 0 % 2 : Nat) : Int) ((x / 2 ^ 1 % 2 : Nat) : Int) ((x / 2 ^ 2 % 2 : Nat) : Int) (s 15)) (s 5) (s 6) (s1 5) (s1 6) (fun v => K1 = v) → Ex NC none M_X6_load 162 [.ref 112, w1, w2, w3] [] g1 Q) → Ex NC none M_X6_load 140 [.ref 112, w1, w2, w3] [] g Q := by
  intro f
  induction f with
  | zero =>
    intro g s p t x K hO hP h5 hD hY hg kk
    have hB : BT g T := hB0.mv (hY 113 (by decide) (by decide))
    refine ax_aload_n dX6_load_140 rfl ?_
    refine ax_cviP0 dX6_load_141 ln_X6_load_82 (Nat.le_of_ble_eq_true rfl) (Or.inr rfl) (by omega) hO rfl (s6_isGood hN hO h5) ?_
    refine ax_if_eq (tgt := 162) dX6_load_144 (by decide) (by split <;> omega) (fun c144 => ?_) (fun c144 => ?_)
    · have c : s 5 ≠ 0 := fun q => by (rw [if_pos q] at c144; omega)
      exact kk g s K hO hD hY ⟨rfl, rfl, rfl, rfl⟩ (Or.inl ⟨c, rfl, rfl⟩)
    · have c : s 5 = 0 := by (by_cases q : s 5 = 0; exact q; rw [if_neg q] at c144; exact absurd rfl c144)
      obtain ⟨hf, hKD, h14, hx, h15⟩ := hg c
      refine ax_aload_n dX6_load_147 rfl ?_
      refine ax_cvi0 dX6_load_148 ln_X6_load_86 (Nat.le_of_ble_eq_true rfl) (Or.inl rfl) (by omega) hO rfl (s6_ahead hN hO hT hB hP) (fun ret g1 hq => ?_)
      obtain ⟨hv, s1, hO1, hA1, hP1, y1⟩ := hq
      cases hv
      have cr := chr_rg (k := t) hT hP1.1
      have e5 : s1 5 = s 5 := hA1 5 (by decide)
      have e6 : s1 6 = s 6 := hA1 6 (by decide)
      refine ax_iconst dX6_load_151 ?_
      refine ax_icmp_eq (tgt := 162) dX6_load_152 (by decide) (by omega) (by omega) (fun c152 => ?_) (fun c152 => ?_)
      · have hte : n ≤ t := by (by_cases q : t < n; (have := hT t (by have := hP.1; omega); unfold chr at c152; rw [if_pos q] at c152; omega); omega)
        refine kk g1 s1 K hO1 (hD.mv (y1 115 (by decide))) (hY.tr y1.w) hA1.N.S ?_
        rw [e5, e6]
        exact ST.ok rfl
      · exfalso
        unfold chr at c152
        rw [if_neg (by omega)] at c152
        exact c152 rfl
  | succ f ih =>
    intro g s p t x K hO hP h5 hD hY hg kk
    have hB : BT g T := hB0.mv (hY 113 (by decide) (by decide))
    refine ax_aload_n dX6_load_140 rfl ?_
    refine ax_cviP0 dX6_load_141 ln_X6_load_82 (Nat.le_of_ble_eq_true rfl) (Or.inr rfl) (by omega) hO rfl (s6_isGood hN hO h5) ?_
    refine ax_if_eq (tgt := 162) dX6_load_144 (by decide) (by split <;> omega) (fun c144 => ?_) (fun c144 => ?_)
    · have c : s 5 ≠ 0 := fun q => by (rw [if_pos q] at c144; omega)
      exact kk g s K hO hD hY ⟨rfl, rfl, rfl, rfl⟩ (Or.inl ⟨c, rfl, rfl⟩)
    · have c : s 5 = 0 := by (by_cases q : s 5 = 0; exact q; rw [if_neg q] at c144; exact absurd rfl c144)
      obtain ⟨hf, hKD, h14, hx, h15⟩ := hg c
      refine ax_aload_n dX6_load_147 rfl ?_
      refine ax_cvi0 dX6_load_148 ln_X6_load_86 (Nat.le_of_ble_eq_true rfl) (Or.inl rfl) (by omega) hO rfl (s6_ahead hN hO hT hB hP) (fun ret g1 hq => ?_)
      obtain ⟨hv, s1, hO1, hA1, hP1, y1⟩ := hq
      cases hv
      have cr := chr_rg (k := t) hT hP1.1
      have e5 : s1 5 = s 5 := hA1 5 (by decide)
      have e6 : s1 6 = s 6 := hA1 6 (by decide)
      refine ax_iconst dX6_load_151 ?_
      refine ax_icmp_eq (tgt := 162) dX6_load_152 (by decide) (by omega) (by omega) (fun c152 => ?_) (fun c152 => ?_)
      · have hte : n ≤ t := by (by_cases q : t < n; (have := hT t (by have := hP.1; omega); unfold chr at c152; rw [if_pos q] at c152; omega); omega)
        refine kk g1 s1 K hO1 (hD.mv (y1 115 (by decide))) (hY.tr y1.w) hA1.N.S ?_
        rw [e5, e6]
        show ST (if n ≤ t then _ else _) _ _ _ _ _
        rw [if_pos hte]
        exact ST.ok rfl
      · have htl : t < n := by (by_cases q : t < n; exact q; (unfold chr at c152; rw [if_neg q] at c152; exact absurd rfl c152))
        refine ax_aload_n dX6_load_155 rfl ?_
        refine ax_cvv0 dX6_load_156 ln_X6_load_179 (Nat.le_of_ble_eq_true rfl) rfl (by omega) hO1 rfl (s6_statement hN hT hO1 (hB.mv (y1 113 (by decide))) hP1 (e5.trans c) (hD.mv (y1 115 (by decide))) hKD.1 hKD.2.2.2 (x := x) ((hA1 14 (by decide)).trans h14) hx (by rw [hA1 15 (by decide)]; exact h15)) (fun g2 hq => ?_)
        refine ax_goto (tgt := 140) dX6_load_159 (by decide) ?_
        obtain ⟨s2, p2, t2, K2, hO2, hP2, hD2, hY2, hS2, st2⟩ := hq
        rw [hA1 15 (by decide), e5, e6] at st2
        have hin : s2 5 = 0 → ∃ v, stsP T n t K x (s 15) = .inr v ∧ t2 = v.1 ∧ K2 = v.2.1 ∧ flM s2 v ∧ n ≤ v.1 + f ∧ KD v.2.1 v.2.2.2.2.2 ∧ F01 v.2.2.1 v.2.2.2.1 v.2.2.2.2.1 v.2.2.2.2.2 := fun e => by
          obtain ⟨v, x1, -, w1, w2, w3⟩ := st2.inr c e
          refine ⟨v, x1, w1, w2, w3, ?_⟩
          unfold stsP at x1
          obtain ⟨u, x2, x3⟩ := bnd_in x1
          obtain ⟨t9, x4, x5⟩ := bnd_in x3
          cases x5
          have i1 := stm_in hKD (x_F01 h15) x2
          have i2 := sem_in x4
          exact ⟨by show n ≤ t9 + f; omega, i1.2.1, i1.2.2⟩
        by_cases e : s2 5 = 0
        · obtain ⟨v, x1, w1, w2, w3, l1, l2, l3⟩ := hin e
          obtain ⟨x2, hx2, fx, g1e, g2e, g3e⟩ := fl_x l3
          unfold flM at w3
          refine ih g2 s2 p2 t2 x2 K2 hO2 hP2 (by omega) hD2 ((hY.tr y1.w).tr hY2) (fun _ => ⟨by rw [w1]; exact l1, by rw [w2, w3.2]; exact l2, by rw [w3.1]; exact fx, hx2, by rw [w3.2]; exact l3.2.2.2⟩) (fun g3 s3 K3 hO3 hD3 hY3 hS3 st3 => kk g3 s3 K3 hO3 hD3 hY3 ((hA1.N.S.tr hS2).tr hS3) ?_)
          rw [lp_sts htl]
          rw [g1e, g2e, g3e, w3.2, w1, w2] at st3
          rw [x1]
          show ST (lpP T n f v.1 v.2.1 v.2.2.1 v.2.2.2.1 v.2.2.2.2.1 v.2.2.2.2.2) _ _ _ _ _
          rw [x1] at st2
          rcases st2 with q | ⟨_, ⟨cc, b, x9, _⟩ | ⟨y9, x9, f1, f2, _⟩⟩
          · exact absurd c q.1
          · cases x9
          · rw [c, ← f1, ← f2]; exact st3
        · refine ih g2 s2 p2 t2 x K2 hO2 hP2 (st2.rg (by omega)) hD2 ((hY.tr y1.w).tr hY2) (fun q => absurd q e) (fun g3 s3 K3 hO3 hD3 hY3 hS3 st3 => kk g3 s3 K3 hO3 hD3 hY3 ((hA1.N.S.tr hS2).tr hS3) ?_)
          rw [lp_sts htl]
          exact ST.bnd st2 (fun q => st3.keep q) (fun _ q _ => absurd q e)
end RM
