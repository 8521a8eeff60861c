/-! the reference: what fails, and load -/
section RM
variable {NC : Nat} {h : hp} {s T : Nat → Int} {n p t : Nat} {K : Nat → Nat} {H : Nat → Nat → Nat} {d : Nat} {Q : qt}
theorem s6_failsF (hN : 132 ≤ NC) (hO : XO h s) (g0 : s 0 = 0) {e : Int} : Cl NC M_X6_fails [.ref 112, .int (I 0), .int (I e)] h (fun v h1 => v = .int (I 0) ∧ h1 = h) := by
  refine ax_iload_n dX6_fails_0 rfl ?_
  refine ax_if_eq (tgt := 16) dX6_fails_1 (by decide) (by omega) (fun c1 => ?_) (fun c1 => ?_)
  · refine ax_aload_n dX6_fails_16 rfl ?_
    refine ax_getf dX6_fails_17 ck6 fl_X6_51 (by decide) (by omega) hO rfl ?_
    refine ax_if_eq (tgt := 27) dX6_fails_20 (by decide) (by omega) (fun c20 => ?_) (fun c20 => ?_)
    · refine ax_iconst dX6_fails_27 ?_
      exact ax_zret dX6_fails_28 rfl (by first | exact Or.inl rfl | exact Or.inr rfl) ⟨rfl, rfl⟩
    · exfalso
      omega
  · exfalso
    omega
theorem s6_failsT (hN : 132 ≤ NC) (hO : XO h s) (g0 : s 0 = 0) {e : Int} (he : e ≠ 0 ∧ -1000 ≤ e ∧ e ≤ 1000) : Cl NC M_X6_fails [.ref 112, .int (I 1), .int (I e)] h (fun v h1 => v = .int (I 1) ∧ XO h1 (upZ s 0 e) ∧ Y2 h h1) := by
  refine ax_iload_n dX6_fails_0 rfl ?_
  refine ax_if_eq (tgt := 16) dX6_fails_1 (by decide) (by omega) (fun c1 => ?_) (fun c1 => ?_)
  · exfalso
    omega
  · refine ax_aload_n dX6_fails_4 rfl ?_
    refine ax_getf dX6_fails_5 ck6 fl_X6_51 (by decide) (by omega) hO rfl ?_
    refine ax_if_ne (tgt := 16) dX6_fails_8 (by decide) (by omega) (fun c8 => ?_) (fun c8 => ?_)
    · exfalso
      omega
    · refine ax_aload_n dX6_fails_11 rfl ?_
      refine ax_iload_n dX6_fails_12 rfl ?_
      refine ax_putf dX6_fails_13 ck6 fl_X6_51 (by decide) (by omega) hO rfl (Or.inl rfl) (Nat.le_of_ble_eq_true rfl) rfl ?_
      generalize hgg1 : va_up h 112 _ = g1
      obtain ⟨s1, hO1, es1⟩ : ∃ rr, XO g1 rr ∧ rr = upZ s 0 e := ⟨_, by rw [← hgg1]; exact hO.s0, rfl⟩
      have y1 : Y2 h g1 := fun a ha => by rw [← hgg1]; exact (vu_ne ha)
      have e0 : s1 0 = e := by rw [es1]; rfl
      refine ax_aload_n dX6_fails_16 rfl ?_
      refine ax_getf dX6_fails_17 ck6 fl_X6_51 (by decide) (by omega) hO1 rfl ?_
      refine ax_if_eq (tgt := 27) dX6_fails_20 (by decide) (by omega) (fun c20 => ?_) (fun c20 => ?_)
      · exfalso
        omega
      · refine ax_iconst dX6_fails_23 ?_
        refine ax_goto (tgt := 28) dX6_fails_24 (by decide) ?_
        exact ax_zret dX6_fails_28 rfl (by first | exact Or.inl rfl | exact Or.inr rfl) ⟨rfl, by rw [← es1]; exact hO1, y1⟩
theorem ld_end (hN : 132 ≤ NC) (hO : XO h s) (h5 : -1000 ≤ s 5 ∧ s 5 ≤ 1000) {K1 : Nat → Nat} (hD : DR h K1) (hK : row 0 (h 114) 746 (fun i => (K i : Int))) (hH : MH h H d) (h12 : s 12 = (d : Int)) (st : ST (setP T n) 0 (-1) (s 5) (s 6) (fun v => K1 = v)) {w1 w2 w3 : Value} (kk : ∀ ret h1, (∃ s1 v, ret = .int (I v) ∧ XO h1 s1 ∧ s1 0 = s 0 ∧ s1 2 = s 2 ∧ sh 0 (h1 115) 746 ∧ (∀ a, a ≠ 112 → a ≠ 114 → a ≠ 115 → ¬ (118 ≤ a ∧ a ≤ 125) → h1 a = h a) ∧ ((∃ c b, setP T n = .inl (c, b) ∧ v = c ∧ s1 7 = b ∧ s1 12 = s 12 ∧ h1 114 = h 114 ∧ (∀ a, 118 ≤ a → a ≤ 125 → h1 a = h a)) ∨ (∃ K1, setP T n = .inr K1 ∧ v = allC K1 ∧ s1 7 = -1 ∧ s1 12 = ((min (d + 1) 8 : Nat) : Int) ∧ row 0 (h1 114) 746 (fun i => (K1 i : Int)) ∧ MH h1 (psh K H) (min (d + 1) 8)))) → Q ret h1) : Ex NC none M_X6_load 162 [.ref 112, w1, w2, w3] [] h Q := by
  refine ax_aload_n dX6_load_162 rfl ?_
  refine ax_aload_n dX6_load_163 rfl ?_
  refine ax_getf dX6_load_164 ck6 fl_X6_79 (by decide) (by omega) hO rfl ?_
  refine ax_putf dX6_load_167 ck6 fl_X6_13 (by decide) (by omega) hO rfl (Or.inl rfl) (Nat.le_of_ble_eq_true rfl) rfl ?_
  generalize hgg1 : va_up h 112 _ = g1
  obtain ⟨s1, hO1, es1⟩ : ∃ rr, XO g1 rr ∧ rr = upZ s 7 (s 6) := ⟨_, by rw [← hgg1]; exact hO.s7, rfl⟩
  have y1 : Y2 h g1 := fun a ha => by rw [← hgg1]; exact (vu_ne ha)
  have f5 : s1 5 = s 5 := by rw [es1]; rfl
  have f0 : s1 0 = s 0 := by rw [es1]; rfl
  have f2 : s1 2 = s 2 := by rw [es1]; rfl
  have f12 : s1 12 = s 12 := by rw [es1]; rfl
  have f7 : s1 7 = s 6 := by rw [es1]; rfl
  refine ax_aload_n dX6_load_170 rfl ?_
  refine ax_cviP0 dX6_load_171 ln_X6_load_82 (Nat.le_of_ble_eq_true rfl) (Or.inr rfl) (by omega) hO1 rfl (s6_isGood hN hO1 (by omega)) ?_
  refine ax_if_ne (tgt := 182) dX6_load_174 (by decide) (by split <;> omega) (fun c174 => ?_) (fun c174 => ?_)
  · have c : s 5 = 0 := by (by_cases q : s1 5 = 0; omega; rw [if_neg q] at c174; exact absurd rfl c174)
    obtain ⟨v, x1, a1, w1⟩ := st.inr rfl c
    subst w1
    have hM1 : MD g1 s1 K := ⟨hO1, hK.mv (y1 114 (by decide))⟩
    have hH1 : MH g1 H d := by
      obtain ⟨d8, ⟨f, u1, u2⟩, u3, u4⟩ := hH
      exact ⟨d8, ⟨f, (y1 117 (by decide)).trans u1, u2⟩, fun k hk => (u3 k hk).mv (y1 _ (by omega)), fun t ht => (u4 t ht).mv (y1 _ (by omega))⟩
    have hKI := set_in x1
    refine ax_aload_n dX6_load_182 rfl ?_
    refine ax_cvv0 dX6_load_183 ln_X6_load_182 (Nat.le_of_ble_eq_true rfl) rfl (by omega) hO1 rfl (s6_remember hN hM1 (f12.trans h12) hH1) (fun g2 hq => ?_)
    obtain ⟨hM2, hH2, x2⟩ := hq
    have hO2 : XO g2 (upZ s1 12 ((min (d + 1) 8 : Nat) : Int)) := hM2.1
    refine ax_aload_n dX6_load_186 rfl ?_
    refine ax_getf dX6_load_187 ck6 fl_X6_20 (by decide) (by omega) hO2 rfl ?_
    refine ax_aload_n dX6_load_190 rfl ?_
    refine ax_getf dX6_load_191 ck6 fl_X6_17 (by decide) (by omega) hO2 rfl ?_
    refine ax_csv2 dX6_load_194 ln_X6_load_185 (Nat.le_of_ble_eq_true rfl) rfl (s6_copy (F := fun i => (K1 i : Int)) (by omega) (by omega) (by decide) (hD.mv ((x2 115 (by decide)).trans (y1 115 (by decide)))) hM2.2.sh) (fun g3 hq => ?_)
    obtain ⟨hC, x3⟩ := hq
    have hM3 : MD g3 (upZ s1 12 ((min (d + 1) 8 : Nat) : Int)) K1 := ⟨(x3 112 (by decide)).trans hO2, hC⟩
    refine ax_aload_n dX6_load_197 rfl ?_
    refine ax_cviP0 dX6_load_198 ln_X6_load_189 (Nat.le_of_ble_eq_true rfl) (Or.inl rfl) (by omega) hM3.1 rfl (s6_sailCells hN hM3 hKI) ?_
    exact ax_iret dX6_load_201 rfl (kk _ _ ⟨_, _, rfl, hM3.1, f0, f2, (hD.mv ((x3 115 (by decide)).trans ((x2 115 (by decide)).trans (y1 115 (by decide))))).sh, fun a a1 a2 a3 a4 => (x3 a (by simp; omega)).trans ((x2 a (by simp; omega)).trans (y1 a a1)), Or.inr ⟨K1, x1, rfl, f7.trans a1, rfl, hC, by obtain ⟨d8, ⟨f, u1, u2⟩, u3, u4⟩ := hH2; exact ⟨d8, ⟨f, (x3 117 (by decide)).trans u1, u2⟩, fun k hk => (u3 k hk).mv (x3 _ (by simp; omega)), fun t ht => (u4 t ht).mv (x3 _ (by simp; omega))⟩⟩⟩)
  · have c : s 5 ≠ 0 := fun q => by (rw [if_pos (by omega)] at c174; omega)
    obtain ⟨cc, b, x1, x2, x3, x4⟩ : ∃ cc b, setP T n = .inl (cc, b) ∧ (cc < 0 ∧ -1000 ≤ cc) ∧ s 5 = cc ∧ s 6 = b := by
      rcases st with q | ⟨_, q | ⟨y, _, q, _⟩⟩
      · exact absurd rfl q.1
      · exact q
      · exact absurd q c
    refine ax_aload_n dX6_load_177 rfl ?_
    refine ax_getf dX6_load_178 ck6 fl_X6_76 (by decide) (by omega) hO1 rfl ?_
    exact ax_iret dX6_load_181 rfl (kk _ _ ⟨s1, s1 5, rfl, hO1, f0, f2, (hD.mv (y1 115 (by decide))).sh, fun a a1 _ _ _ => y1 a a1, Or.inl ⟨cc, b, x1, by omega, by omega, f12, y1 114 (by decide), fun a a1 a2 => y1 a (by omega)⟩⟩)
end RM
