/-! the class: load -/
theorem KO.up {h : hp} {e z : Int} : KO (va_up h 0 (.inr (5, ([.ref 1, .ref 11, .ref 21, .ref 103, .ref 106, .ref 110, .int (I e)] : List Value).set 6 (.int (I z))))) z := by unfold KO; exact vu_eq
section CP
variable {NC : Nat} {h : hp} {r T : Nat → Int} {K KS : Nat → Nat} {H : Nat → Nat → Nat} {d n : Nat} {Q : qt}
theorem sp_load (hN : 112 ≤ NC) {e : Int} (hT : TX T) (hW : KO h e) (hS : SA NC h 1 K) (hSp : SA NC h 11 KS) (hC : CH NC h H d) (hR : RO h r) (hTr : TR h T) (hn : (n : Int) ≤ r 1 ∧ r 1 ≤ 600) : Cl NC M_X5_load [.ref 0, .int (I (n : Int))] h (fun v h1 => ∃ e1 r1 KS1 z, v = .int (I z) ∧ KO h1 e1 ∧ RO h1 r1 ∧ r1 1 = 0 ∧ SA NC h1 11 KS1 ∧ (∀ a, a ≠ 110 → 103 ≤ a → h1 a = h a) ∧ ((∃ c b, setP T n = .inl (c, b) ∧ z = c ∧ e1 = b ∧ SA NC h1 1 K ∧ CH NC h1 H d) ∨ (∃ K1, setP T n = .inr K1 ∧ z = allC K1 ∧ e1 = -1 ∧ SA NC h1 1 K1 ∧ CH NC h1 (psh K H) (min (d + 1) 8)))) := by
  refine ax_iload_n dX5_load_0 rfl ?_
  refine ax_iconst dX5_load_1 ?_
  refine ax_aload_n dX5_load_2 rfl ?_
  refine ax_getf dX5_load_3 ck5 fl_X5_43 (by decide) (by omega) hW rfl ?_
  refine ax_getf dX5_load_6 ck4 fl_X5_51 (by decide) (by omega) hR rfl ?_
  refine ax_csvP3 dX5_load_9 ln_X5_load_58 (Nat.le_of_ble_eq_true rfl) rfl (sp_range (by omega) (by omega) (by omega) (by omega)) ?_
  refine ax_aload_n dX5_load_12 rfl ?_
  refine ax_getf dX5_load_13 ck5 fl_X5_43 (by decide) (by omega) hW rfl ?_
  refine ax_iload_n dX5_load_16 rfl ?_
  refine ax_aload_n dX5_load_17 rfl ?_
  refine ax_getf dX5_load_18 ck5 fl_X5_16 (by decide) (by omega) hW rfl ?_
  refine ax_cvi2 dX5_load_21 ln_X5_load_62 (Nat.le_of_ble_eq_true rfl) (Or.inl rfl) (by omega) hR rfl (sp_readSetup (b := 11) hN (by omega) hT hR hTr hSp (by omega) (by omega)) (fun ret g1 hq => ?_)
  obtain ⟨r1, KS1, hv, hR1, hS1, hY1, q1, st⟩ := hq
  cases hv
  have hW1 : KO g1 e := (hY1 0 (by decide) (by omega)).trans hW
  have hK1 : SA NC g1 1 K := hS.eq (fun a a1 a2 => hY1 a (by omega) (by omega))
  have hC1 : CH NC g1 H d := hC.eq (fun a a1 a2 => hY1 a (by omega) (by omega))
  have h6 := st.rg (by decide)
  refine ax_istore_n dX5_load_24 rfl (by decide) ?_
  refine ax_aload_n dX5_load_25 rfl ?_
  refine ax_getf dX5_load_26 ck5 fl_X5_43 (by decide) (by omega) hW1 rfl ?_
  refine ax_iconst dX5_load_29 ?_
  refine ax_putf dX5_load_30 ck4 fl_X5_51 (by decide) (by omega) hR1 rfl (Or.inl rfl) (Nat.le_of_ble_eq_true rfl) rfl ?_
  generalize hgg : va_up g1 110 _ = g2
  obtain ⟨r2, hR2, er2⟩ : ∃ rr, RO g2 rr ∧ rr = upZ r1 1 0 := ⟨_, by rw [← hgg]; exact hR1.s1, rfl⟩
  have y2 : ∀ a, a ≠ 110 → g2 a = g1 a := fun a ha => by rw [← hgg]; exact vu_ne ha
  have hW2 : KO g2 e := (y2 0 (by decide)).trans hW1
  have hK2 : SA NC g2 1 K := hK1.eq (fun a a1 a2 => y2 a (by omega))
  have hS2 : SA NC g2 11 KS1 := hS1.eq (fun a a1 a2 => y2 a (by omega))
  have hC2 : CH NC g2 H d := hC1.eq (fun a a1 a2 => y2 a (by omega))
  have z1 : r2 1 = 0 := by rw [er2]; rfl
  have z7 : r2 7 = r1 7 := by rw [er2]; rfl
  have hF2 : ∀ a, a ≠ 110 → 103 ≤ a → g2 a = h a := fun a a1 a2 => (y2 a a1).trans (hY1 a a1 (by omega))
  refine ax_iload_n dX5_load_33 rfl ?_
  refine ax_if_eq (tgt := 50) dX5_load_34 (by decide) (by omega) (fun c34 => ?_) (fun c34 => ?_)
  · obtain ⟨KN, x1, -, x2⟩ := st.inr rfl c34
    subst x2
    have hKI := set_in x1
    refine ax_aload_n dX5_load_50 rfl ?_
    refine ax_iconst dX5_load_51 ?_
    refine ax_putf dX5_load_52 ck5 fl_X5_47 (by decide) (by omega) hW2 rfl (Or.inl rfl) (Nat.le_of_ble_eq_true rfl) rfl ?_
    generalize hg3 : va_up g2 0 _ = g3
    have hW3 : KO g3 (-1) := by rw [← hg3]; exact KO.up
    have y3 : ∀ a, a ≠ 0 → g3 a = g2 a := fun a ha => by rw [← hg3]; exact vu_ne ha
    have hR3 : RO g3 r2 := (y3 110 (by decide)).trans hR2
    have hK3 : SA NC g3 1 K := hK2.eq (fun a a1 a2 => y3 a (by omega))
    have hS3 : SA NC g3 11 KS1 := hS2.eq (fun a a1 a2 => y3 a (by omega))
    have hC3 : CH NC g3 H d := hC2.eq (fun a a1 a2 => y3 a (by omega))
    refine ax_aload_n dX5_load_55 rfl ?_
    refine ax_getf dX5_load_56 ck5 fl_X5_22 (by decide) (by omega) hW3 rfl ?_
    refine ax_aload_n dX5_load_59 rfl ?_
    refine ax_getf dX5_load_60 ck5 fl_X5_12 (by decide) (by omega) hW3 rfl ?_
    obtain ⟨m3, hm1, hm2, hO3, hrest⟩ := hC3
    have hC3 : CH NC g3 H d := ⟨m3, hm1, hm2, hO3, hrest⟩
    refine ax_cvv1 dX5_load_63 ln_X5_load_69 (Nat.le_of_ble_eq_true rfl) rfl (by omega) hO3 rfl (sp_keep (b := 1) hN (by omega) hK3 hC3) (fun g4 hq => ?_)
    obtain ⟨hC4, hF4⟩ := hq
    have hW4 : KO g4 (-1) := (hF4 0 (by omega)).trans hW3
    have hK4 : SA NC g4 1 K := hK3.eq (fun a a1 a2 => hF4 a (by omega))
    have hS4 : SA NC g4 11 KS1 := hS3.eq (fun a a1 a2 => hF4 a (by omega))
    refine ax_aload_n dX5_load_66 rfl ?_
    refine ax_getf dX5_load_67 ck5 fl_X5_12 (by decide) (by omega) hW4 rfl ?_
    refine ax_aload_n dX5_load_70 rfl ?_
    refine ax_getf dX5_load_71 ck5 fl_X5_16 (by decide) (by omega) hW4 rfl ?_
    refine ax_cvv1 dX5_load_74 ln_X5_load_73 (Nat.le_of_ble_eq_true rfl) rfl hK4.n0 hK4.o rfl (sp_copyFrom hK4 hS4 (by omega)) (fun g5 hq => ?_)
    obtain ⟨hK5, hF5⟩ := hq
    have hW5 : KO g5 (-1) := (hF5 0 (by omega)).trans hW4
    refine ax_aload_n dX5_load_77 rfl ?_
    refine ax_getf dX5_load_78 ck5 fl_X5_12 (by decide) (by omega) hW5 rfl ?_
    refine ax_cviP0 dX5_load_81 ln_X5_load_76 (Nat.le_of_ble_eq_true rfl) (Or.inl rfl) hK5.n0 hK5.o rfl (sp_allCells hK5 hKI) ?_
    exact ax_iret dX5_load_84 rfl ⟨-1, r2, KS1, allC KS1, rfl, hW5, (hF5 110 (by omega)).trans ((hF4 110 (by omega)).trans hR3), z1, hS4.eq (fun a a1 a2 => hF5 a (by omega)), fun a a1 a2 => (hF5 a (by omega)).trans ((hF4 a (by omega)).trans ((y3 a (by omega)).trans (hF2 a a1 a2))), Or.inr ⟨KS1, x1, rfl, rfl, hK5, hC4.eq (fun a a1 a2 => hF5 a (by omega))⟩⟩
  · obtain ⟨c, b, x1, x2, x3, x4⟩ : ∃ c b, setP T n = .inl (c, b) ∧ (c < 0 ∧ -1000 ≤ c) ∧ r1 6 = c ∧ r1 7 = b := by
      rcases st with q | ⟨_, q | ⟨y, _, q, _⟩⟩
      · exact absurd rfl q.1
      · exact q
      · exact absurd q c34
    refine ax_aload_n dX5_load_37 rfl ?_
    refine ax_aload_n dX5_load_38 rfl ?_
    refine ax_getf dX5_load_39 ck5 fl_X5_43 (by decide) (by omega) hW2 rfl ?_
    refine ax_getf dX5_load_42 ck4 fl_X5_66 (by decide) (by omega) hR2 rfl ?_
    rw [z7]
    refine ax_putf dX5_load_45 ck5 fl_X5_47 (by decide) (by omega) hW2 rfl (Or.inl rfl) (Nat.le_of_ble_eq_true rfl) rfl ?_
    refine ax_iload_n dX5_load_48 rfl ?_
    exact ax_iret dX5_load_49 rfl ⟨r1 7, r2, KS1, r1 6, rfl, KO.up, (vu_ne (by decide)).trans hR2, z1, hS2.eq (fun a a1 a2 => vu_ne (by omega)), fun a a1 a2 => (vu_ne (by omega)).trans (hF2 a a1 a2), Or.inl ⟨c, b, x1, x3, x4, hK2.eq (fun a a1 a2 => vu_ne (by omega)), hC2.eq (fun a a1 a2 => vu_ne (by omega))⟩⟩
theorem sx_load (hN : 112 ≤ NC) {e z : Int} (gn : -2147483648 ≤ z ∧ z < 2147483648) (hW : KO h e) (hR : RO h r) (h1 : 0 ≤ r 1 ∧ r 1 ≤ 600) (hn : ¬ (0 ≤ z ∧ z ≤ r 1)) : Ct NC "java/lang/IllegalArgumentException" M_X5_load [.ref 0, .int (I z)] h (fun _ h1 => h1 = h) := by
  refine ax_iload_n dX5_load_0 rfl ?_
  refine ax_iconst dX5_load_1 ?_
  refine ax_aload_n dX5_load_2 rfl ?_
  refine ax_getf dX5_load_3 ck5 fl_X5_43 (by decide) (by omega) hW rfl ?_
  refine ax_getf dX5_load_6 ck4 fl_X5_51 (by decide) (by omega) hR rfl ?_
  exact ax_csx3 dX5_load_9 ln_X5_load_58 (Nat.le_of_ble_eq_true rfl) rfl (sx_range gn (by omega) (by omega) hn) (fun h1 q => q)
end CP
