/-! the reference: load -/
section RM
variable {NC : Nat} {h : hp} {s T : Nat → Int} {n p t : Nat} {K : Nat → Nat} {H : Nat → Nat → Nat} {d : Nat} {Q : qt}
theorem ld_86 (hN : 132 ≤ NC) (hT : TX T) (hO : XO h s) (hB : BT h T) (hP : PX T s n p t) (h5 : -1000 ≤ s 5 ∧ s 5 ≤ 1000) (sD : sh 0 (h 115) 746) {l1 l2 l3 : Value} (kk : ∀ g sc pc tc u1 u2, XO g sc → PX T sc n pc tc → agN s sc → row 0 (g 115) 746 (fun i => (freshK u1 u2 i : Int)) → Y3 h g → (∀ s0, ST (wrdP T n 0 s0) 0 (-1) (s 5) (s 6) (fun y => t = y) → ST (kitP T n s0) 0 (-1) (sc 5) (sc 6) (fun v => tc = v.1 ∧ freshK u1 u2 = v.2)) → Ex NC none M_X6_load 140 [.ref 112, l1, .int (I (u1 : Int)), .int (I (u2 : Int))] [] g Q) : Ex NC none M_X6_load 86 [.ref 112, l1, l2, l3] [] h Q := by
  refine ax_aload_n dX6_load_86 rfl ?_
  refine ax_iconst dX6_load_87 ?_
  refine ax_bipush dX6_load_88 (by decide) ?_
  refine ax_cvi2 dX6_load_90 ln_X6_load_125 (Nat.le_of_ble_eq_true rfl) (Or.inl rfl) (by omega) hO rfl (s6_number hN hO hT hB hP h5 (by omega)) (fun ret gb hq => ?_)
  obtain ⟨zb, sb, pb, tb, hv, hzb, hOb, hAb, hPb, yb, bzb, stb⟩ := hq
  cases hv
  obtain ⟨vb, rfl⟩ : ∃ m : Nat, zb = (m : Int) := ⟨zb.toNat, by omega⟩
  have hBb : BT gb T := hB.mv (yb 113 (by decide))
  have h5b := stb.rg h5
  have sDb : sh 0 (gb 115) 746 := sD.mv (yb 115 (by decide))
  refine ax_istore_n dX6_load_93 rfl (by decide) ?_
  refine ax_aload_n dX6_load_94 rfl ?_
  refine ax_cviP0 dX6_load_95 ln_X6_load_82 (Nat.le_of_ble_eq_true rfl) (Or.inr rfl) (by omega) hOb rfl (s6_isGood hN hOb h5b) ?_
  refine ax_if_eq (tgt := 117) dX6_load_98 (by decide) (by split <;> omega) (fun c98 => ?_) (fun c98 => ?_)
  · have c : sb 5 ≠ 0 := fun q => by (rw [if_pos q] at c98; omega)
    have st3 : ST (chk (decide ((vb : Int) % 2 = 0)) (-3) (sb 13)) (sb 5) (sb 6) (sb 5) (sb 6) (fun _ => decide ((vb : Int) % 2 = 0) = false) := st_rp (by decide) (by rw [if_neg (fun w => c w.2)]) (by rw [if_neg (fun w => c w.2)])
    refine ax_aload_n dX6_load_117 rfl ?_
    refine ax_iconst dX6_load_118 ?_
    refine ax_bipush dX6_load_119 (by decide) ?_
    refine ax_cvi2 dX6_load_121 ln_X6_load_125 (Nat.le_of_ble_eq_true rfl) (Or.inl rfl) (by omega) hOb rfl (s6_number hN hOb hT hBb hPb h5b (by omega)) (fun ret gc hq => ?_)
    obtain ⟨zc, sc, pc, tc, hv, hzc, hOc, hAc, hPc, yc, bzc, stc⟩ := hq
    cases hv
    obtain ⟨vc, rfl⟩ : ∃ m : Nat, zc = (m : Int) := ⟨zc.toNat, by omega⟩
    have hBc : BT gc T := hBb.mv (yc 113 (by decide))
    have h5c := stc.rg h5b
    refine ax_istore_n dX6_load_124 rfl (by decide) ?_
    refine ax_aload_n dX6_load_125 rfl ?_
    refine ax_getf dX6_load_126 ck6 fl_X6_20 (by decide) (by omega) hOc rfl ?_
    refine ax_iload_n dX6_load_129 rfl ?_
    refine ax_iload_n dX6_load_130 rfl ?_
    refine ax_csv3 dX6_load_131 ln_X6_load_47 (Nat.le_of_ble_eq_true rfl) rfl (s6_layKite (w := vb) (u := vc) (by omega) (by omega) (sDb.mv (yc 115 (by decide)))) (fun gd hq => ?_)
    obtain ⟨hDd, xd⟩ := hq
    have hOd : XO gd sc := (xd 112 (by decide)).trans hOc
    have hBd : BT gd T := hBc.mv (xd 113 (by decide))
    refine ax_aload_n dX6_load_134 rfl ?_
    refine ax_bipush dX6_load_135 (by decide) ?_
    refine ax_cvv1 dX6_load_137 ln_X6_load_170 (Nat.le_of_ble_eq_true rfl) rfl (by omega) hOd rfl (s6_expect hN hOd hT hBd hPc h5c) (fun ge hq => ?_)
    obtain ⟨se, pe, te, hOe, hAe, hPe, ye, ste⟩ := hq
    refine kk ge se pe te vb vc hOe hPe ((hAb.tr (hAc.tr hAe))) (hDd.mv (ye 115 (by decide))) ?_ (fun s0 st1 => kit_fin st1 stb st3 stc ste)
    exact fun a a1 a2 => (ye a a1).trans ((xd a (by simp; exact a2)).trans ((yc a a1).trans (yb a a1)))
  · have c : sb 5 = 0 := by (by_cases q : sb 5 = 0; exact q; rw [if_neg q] at c98; exact absurd rfl c98)
    refine ax_iload_n dX6_load_101 rfl ?_
    refine ax_iconst dX6_load_102 ?_
    refine ax_irem dX6_load_103 (by omega) (by omega) ?_
    refine ax_if_ne (tgt := 117) dX6_load_104 (by decide) (by omega) (fun c104 => ?_) (fun c104 => ?_)
    · have st3 : ST (chk (decide ((vb : Int) % 2 = 0)) (-3) (sb 13)) (sb 5) (sb 6) (sb 5) (sb 6) (fun _ => decide ((vb : Int) % 2 = 0) = false) := st_rp (by decide) (by rw [if_neg (fun w => by have := of_decide_eq_true w.1; omega)]) (by rw [if_neg (fun w => by have := of_decide_eq_true w.1; omega)])
      refine ax_aload_n dX6_load_117 rfl ?_
      refine ax_iconst dX6_load_118 ?_
      refine ax_bipush dX6_load_119 (by decide) ?_
      refine ax_cvi2 dX6_load_121 ln_X6_load_125 (Nat.le_of_ble_eq_true rfl) (Or.inl rfl) (by omega) hOb rfl (s6_number hN hOb hT hBb hPb h5b (by omega)) (fun ret gc hq => ?_)
      obtain ⟨zc, sc, pc, tc, hv, hzc, hOc, hAc, hPc, yc, bzc, stc⟩ := hq
      cases hv
      obtain ⟨vc, rfl⟩ : ∃ m : Nat, zc = (m : Int) := ⟨zc.toNat, by omega⟩
      have hBc : BT gc T := hBb.mv (yc 113 (by decide))
      have h5c := stc.rg h5b
      refine ax_istore_n dX6_load_124 rfl (by decide) ?_
      refine ax_aload_n dX6_load_125 rfl ?_
      refine ax_getf dX6_load_126 ck6 fl_X6_20 (by decide) (by omega) hOc rfl ?_
      refine ax_iload_n dX6_load_129 rfl ?_
      refine ax_iload_n dX6_load_130 rfl ?_
      refine ax_csv3 dX6_load_131 ln_X6_load_47 (Nat.le_of_ble_eq_true rfl) rfl (s6_layKite (w := vb) (u := vc) (by omega) (by omega) (sDb.mv (yc 115 (by decide)))) (fun gd hq => ?_)
      obtain ⟨hDd, xd⟩ := hq
      have hOd : XO gd sc := (xd 112 (by decide)).trans hOc
      have hBd : BT gd T := hBc.mv (xd 113 (by decide))
      refine ax_aload_n dX6_load_134 rfl ?_
      refine ax_bipush dX6_load_135 (by decide) ?_
      refine ax_cvv1 dX6_load_137 ln_X6_load_170 (Nat.le_of_ble_eq_true rfl) rfl (by omega) hOd rfl (s6_expect hN hOd hT hBd hPc h5c) (fun ge hq => ?_)
      obtain ⟨se, pe, te, hOe, hAe, hPe, ye, ste⟩ := hq
      refine kk ge se pe te vb vc hOe hPe ((hAb.tr (hAc.tr hAe))) (hDd.mv (ye 115 (by decide))) ?_ (fun s0 st1 => kit_fin st1 stb st3 stc ste)
      exact fun a a1 a2 => (ye a a1).trans ((xd a (by simp; exact a2)).trans ((yc a a1).trans (yb a a1)))
    · refine ax_aload_n dX6_load_107 rfl ?_
      refine ax_bipush dX6_load_108 (by decide) ?_
      refine ax_aload_n dX6_load_110 rfl ?_
      refine ax_getf dX6_load_111 ck6 fl_X6_107 (by decide) (by omega) hOb rfl ?_
      refine ax_cvv2 dX6_load_114 ln_X6_load_99 (Nat.le_of_ble_eq_true rfl) rfl (by omega) hOb rfl (s6_report hN hOb h5b) (fun gr hq => ?_)
      obtain ⟨hOr, yr⟩ := hq
      have st3 : ST (chk (decide ((vb : Int) % 2 = 0)) (-3) (sb 13)) (sb 5) (sb 6) (rep sb (-3) (sb 13) 5) (rep sb (-3) (sb 13) 6) (fun _ => decide ((vb : Int) % 2 = 0) = false) := st_rp (by decide) (by rw [rep5, if_pos c, if_pos ⟨decide_eq_true (by omega), c⟩]) (by rw [rep6, if_pos c, if_pos ⟨decide_eq_true (by omega), c⟩])
      refine ax_aload_n dX6_load_117 rfl ?_
      refine ax_iconst dX6_load_118 ?_
      refine ax_bipush dX6_load_119 (by decide) ?_
      refine ax_cvi2 dX6_load_121 ln_X6_load_125 (Nat.le_of_ble_eq_true rfl) (Or.inl rfl) (by omega) hOr rfl (s6_number hN hOr hT (hBb.mv (yr 113 (by decide))) hPb.rep (st3.rg h5b) (by omega)) (fun ret gc hq => ?_)
      obtain ⟨zc, sc, pc, tc, hv, hzc, hOc, hAc, hPc, yc, bzc, stc⟩ := hq
      cases hv
      obtain ⟨vc, rfl⟩ : ∃ m : Nat, zc = (m : Int) := ⟨zc.toNat, by omega⟩
      have hBc : BT gc T := (hBb.mv (yr 113 (by decide))).mv (yc 113 (by decide))
      have h5c := stc.rg (st3.rg h5b)
      refine ax_istore_n dX6_load_124 rfl (by decide) ?_
      refine ax_aload_n dX6_load_125 rfl ?_
      refine ax_getf dX6_load_126 ck6 fl_X6_20 (by decide) (by omega) hOc rfl ?_
      refine ax_iload_n dX6_load_129 rfl ?_
      refine ax_iload_n dX6_load_130 rfl ?_
      refine ax_csv3 dX6_load_131 ln_X6_load_47 (Nat.le_of_ble_eq_true rfl) rfl (s6_layKite (w := vb) (u := vc) (by omega) (by omega) ((sDb.mv (yr 115 (by decide))).mv (yc 115 (by decide)))) (fun gd hq => ?_)
      obtain ⟨hDd, xd⟩ := hq
      have hOd : XO gd sc := (xd 112 (by decide)).trans hOc
      have hBd : BT gd T := hBc.mv (xd 113 (by decide))
      refine ax_aload_n dX6_load_134 rfl ?_
      refine ax_bipush dX6_load_135 (by decide) ?_
      refine ax_cvv1 dX6_load_137 ln_X6_load_170 (Nat.le_of_ble_eq_true rfl) rfl (by omega) hOd rfl (s6_expect hN hOd hT hBd hPc h5c) (fun ge hq => ?_)
      obtain ⟨se, pe, te, hOe, hAe, hPe, ye, ste⟩ := hq
      refine kk ge se pe te vb vc hOe hPe ((hAb.tr (repN.tr (hAc.tr hAe)))) (hDd.mv (ye 115 (by decide))) ?_ (fun s0 st1 => kit_fin st1 stb st3 stc ste)
      exact fun a a1 a2 => (ye a a1).trans ((xd a (by simp; exact a2)).trans ((yc a a1).trans ((yr a a1).trans (yb a a1))))
theorem MH.eq {h g : hp} {H : Nat → Nat → Nat} {d : Nat} (hH : MH h H d) (e : ∀ a, 117 ≤ a → a ≤ 125 → g a = h a) : MH g H d := by
  obtain ⟨d8, ⟨f, u1, u2⟩, u3, u4⟩ := hH
  exact ⟨d8, ⟨f, (e 117 (by omega) (by omega)).trans u1, u2⟩, fun k hk => (u3 k hk).mv (e _ (by omega) (by omega)), fun t ht => (u4 t ht).mv (e _ (by omega) (by omega))⟩
theorem s6_load (hN : 132 ≤ NC) (hT : TX T) (hO : XO h s) (hB : BT h T) (sD : sh 0 (h 115) 746) (hK : row 0 (h 114) 746 (fun i => (K i : Int))) (hH : MH h H d) (h12 : s 12 = (d : Int)) (hn : (n : Int) ≤ s 2 ∧ s 2 ≤ 600) : Cl NC M_X6_load [.ref 112, .int (I (n : Int))] h (fun ret h1 => ∃ s1 v, ret = .int (I v) ∧ XO h1 s1 ∧ s1 0 = 0 ∧ s1 2 = 0 ∧ sh 0 (h1 115) 746 ∧ (∀ a, a ≠ 112 → a ≠ 114 → a ≠ 115 → ¬ (118 ≤ a ∧ a ≤ 125) → h1 a = h a) ∧ ((∃ c b, setP T n = .inl (c, b) ∧ v = c ∧ s1 7 = b ∧ s1 12 = s 12 ∧ h1 114 = h 114 ∧ (∀ a, 118 ≤ a → a ≤ 125 → h1 a = h a)) ∨ (∃ K1, setP T n = .inr K1 ∧ v = allC K1 ∧ s1 7 = -1 ∧ s1 12 = ((min (d + 1) 8 : Nat) : Int) ∧ row 0 (h1 114) 746 (fun i => (K1 i : Int)) ∧ MH h1 (psh K H) (min (d + 1) 8)))) := by
  refine ax_aload_n dX6_load_0 rfl ?_
  refine ax_iconst dX6_load_1 ?_
  refine ax_putf dX6_load_2 ck6 fl_X6_51 (by decide) (by omega) hO rfl (Or.inl rfl) (Nat.le_of_ble_eq_true rfl) rfl ?_
  generalize hgg0 : va_up h 112 _ = g0
  obtain ⟨s0, hO0, es0⟩ : ∃ rr, XO g0 rr ∧ rr = upZ s 0 0 := ⟨_, by rw [← hgg0]; exact hO.s0, rfl⟩
  have y0 : Y2 h g0 := fun a ha => by rw [← hgg0]; exact (vu_ne ha)
  have e2 : s0 2 = s 2 := by rw [es0]; rfl
  have e0 : s0 0 = 0 := by rw [es0]; rfl
  refine ax_aload_n dX6_load_5 rfl ?_
  refine ax_iload_n dX6_load_6 rfl ?_
  refine ax_iconst dX6_load_7 ?_
  refine ax_aload_n dX6_load_8 rfl ?_
  refine ax_getf dX6_load_9 ck6 fl_X6_64 (by decide) (by omega) hO0 rfl ?_
  rw [e2]
  refine ax_csiP3 dX6_load_12 ln_X6_load_54 (Nat.le_of_ble_eq_true rfl) (Or.inr rfl) (s6_in (by omega) (by omega) (by omega)) ?_
  refine ax_if_ne (tgt := 22) dX6_load_15 (by decide) (by split <;> omega) (fun c15 => ?_) (fun c15 => ?_)
  · refine ax_iconst dX6_load_22 ?_
    refine ax_iconst dX6_load_23 ?_
    refine ax_cviP2 dX6_load_24 ln_X6_load_173 (Nat.le_of_ble_eq_true rfl) (Or.inr rfl) (by omega) hO0 rfl (s6_failsF hN hO0 e0) ?_
    refine ax_if_eq (tgt := 32) dX6_load_27 (by decide) (by omega) (fun c27 => ?_) (fun c27 => ?_)
    · refine ax_aload_n dX6_load_32 rfl ?_
      refine ax_iconst dX6_load_33 ?_
      refine ax_putf dX6_load_34 ck6 fl_X6_64 (by decide) (by omega) hO0 rfl (Or.inl rfl) (Nat.le_of_ble_eq_true rfl) rfl ?_
      generalize hgg1 : va_up g0 112 _ = g1
      obtain ⟨s1, hO1, es1⟩ : ∃ rr, XO g1 rr ∧ rr = upZ s0 2 0 := ⟨_, by rw [← hgg1]; exact hO0.s2, rfl⟩
      have y1 : Y2 h g1 := fun a ha => by rw [← hgg1]; exact (vu_ne ha).trans (y0 a ha)
      refine ax_aload_n dX6_load_37 rfl ?_
      refine ax_iload_n dX6_load_38 rfl ?_
      refine ax_putf dX6_load_39 ck6 fl_X6_67 (by decide) (by omega) hO1 rfl (Or.inl rfl) (Nat.le_of_ble_eq_true rfl) rfl ?_
      generalize hgg2 : va_up g1 112 _ = g2
      obtain ⟨s2, hO2, es2⟩ : ∃ rr, XO g2 rr ∧ rr = upZ s1 3 (n : Int) := ⟨_, by rw [← hgg2]; exact hO1.s3, rfl⟩
      have y2 : Y2 h g2 := fun a ha => by rw [← hgg2]; exact (vu_ne ha).trans (y1 a ha)
      refine ax_aload_n dX6_load_42 rfl ?_
      refine ax_iconst dX6_load_43 ?_
      refine ax_putf dX6_load_44 ck6 fl_X6_70 (by decide) (by omega) hO2 rfl (Or.inl rfl) (Nat.le_of_ble_eq_true rfl) rfl ?_
      generalize hgg3 : va_up g2 112 _ = g3
      obtain ⟨s3, hO3, es3⟩ : ∃ rr, XO g3 rr ∧ rr = upZ s2 4 0 := ⟨_, by rw [← hgg3]; exact hO2.s4, rfl⟩
      have y3 : Y2 h g3 := fun a ha => by rw [← hgg3]; exact (vu_ne ha).trans (y2 a ha)
      refine ax_aload_n dX6_load_47 rfl ?_
      refine ax_iconst dX6_load_48 ?_
      refine ax_putf dX6_load_49 ck6 fl_X6_76 (by decide) (by omega) hO3 rfl (Or.inl rfl) (Nat.le_of_ble_eq_true rfl) rfl ?_
      generalize hgg4 : va_up g3 112 _ = g4
      obtain ⟨s4, hO4, es4⟩ : ∃ rr, XO g4 rr ∧ rr = upZ s3 5 0 := ⟨_, by rw [← hgg4]; exact hO3.s5, rfl⟩
      have y4 : Y2 h g4 := fun a ha => by rw [← hgg4]; exact (vu_ne ha).trans (y3 a ha)
      refine ax_aload_n dX6_load_52 rfl ?_
      refine ax_iconst dX6_load_53 ?_
      refine ax_putf dX6_load_54 ck6 fl_X6_79 (by decide) (by omega) hO4 rfl (Or.inl rfl) (Nat.le_of_ble_eq_true rfl) rfl ?_
      generalize hgg5 : va_up g4 112 _ = g5
      obtain ⟨s5, hO5, es5⟩ : ∃ rr, XO g5 rr ∧ rr = upZ s4 6 (-1) := ⟨_, by rw [← hgg5]; exact hO4.s6, rfl⟩
      have y5 : Y2 h g5 := fun a ha => by rw [← hgg5]; exact (vu_ne ha).trans (y4 a ha)
      refine ax_aload_n dX6_load_57 rfl ?_
      refine ax_iconst dX6_load_58 ?_
      refine ax_putf dX6_load_59 ck6 fl_X6_115 (by decide) (by omega) hO5 rfl (Or.inl rfl) (Nat.le_of_ble_eq_true rfl) rfl ?_
      generalize hgg6 : va_up g5 112 _ = g6
      obtain ⟨s6, hO6, es6⟩ : ∃ rr, XO g6 rr ∧ rr = upZ s5 14 0 := ⟨_, by rw [← hgg6]; exact hO5.s14, rfl⟩
      have y6 : Y2 h g6 := fun a ha => by rw [← hgg6]; exact (vu_ne ha).trans (y5 a ha)
      refine ax_aload_n dX6_load_62 rfl ?_
      refine ax_iconst dX6_load_63 ?_
      refine ax_putf dX6_load_64 ck6 fl_X6_118 (by decide) (by omega) hO6 rfl (Or.inr ⟨rfl, Or.inl rfl⟩) (Nat.le_of_ble_eq_true rfl) rfl ?_
      generalize hgg7 : va_up g6 112 _ = g7
      obtain ⟨s7, hO7, es7⟩ : ∃ rr, XO g7 rr ∧ rr = upZ s6 15 0 := ⟨_, by rw [← hgg7]; exact hO6.s15, rfl⟩
      have y7 : Y2 h g7 := fun a ha => by rw [← hgg7]; exact (vu_ne ha).trans (y6 a ha)
      have v0 : s7 0 = 0 := by rw [es7, es6, es5, es4, es3, es2, es1, es0]; rfl
      have v2 : s7 2 = 0 := by rw [es7, es6, es5, es4, es3, es2, es1]; rfl
      have v3 : s7 3 = (n : Int) := by rw [es7, es6, es5, es4, es3, es2, es1]; rfl
      have v4 : s7 4 = ((0 : Nat) : Int) := by rw [es7, es6, es5, es4, es3, es2, es1]; rfl
      have v5 : s7 5 = 0 := by rw [es7, es6, es5, es4, es3, es2, es1]; rfl
      have v6 : s7 6 = -1 := by rw [es7, es6, es5, es4, es3, es2, es1]; rfl
      have v14 : s7 14 = ((0 : Nat) : Int) := by rw [es7, es6, es5, es4, es3, es2, es1]; rfl
      have v15 : s7 15 = 0 := by rw [es7, es6, es5, es4, es3, es2, es1]; rfl
      have v7 : s7 7 = s 7 := by rw [es7, es6, es5, es4, es3, es2, es1, es0]; rfl
      have v12 : s7 12 = s 12 := by rw [es7, es6, es5, es4, es3, es2, es1, es0]; rfl
      have hB7 : BT g7 T := hB.mv (y7 113 (by decide))
      have hP7 : PX T s7 n 0 (sk T n 0) := ⟨by omega, v3, v4, Nat.zero_le _, rfl⟩
      have hD7 : sh 0 (g7 115) 746 := sD.mv (y7 115 (by decide))
      refine ax_aload_n dX6_load_67 rfl ?_
      refine ex_ldcS (j := 0) (tx := "kite") (by decide) dX6_load_68 ?_
      refine ax_cvi1 dX6_load_70 ln_X6_load_130 (Nat.le_of_ble_eq_true rfl) (Or.inr rfl) (by omega) hO7 rfl (s6_takeWord hN hO7 hT hB7 hP7 (by omega) (j := 0) (by decide)) (fun ret ga hq => ?_)
      obtain ⟨z, sa, pa, ta, hv, hz, hOa, hAa, hPa, ya, -, w1, w0⟩ := hq
      cases hv
      have qa5 : sa 5 = 0 := (hAa 5 (by decide)).trans v5
      have qa6 : sa 6 = -1 := (hAa 6 (by decide)).trans v6
      rcases hz with hz | hz
      · subst hz
        obtain ⟨wf, e1, e2x⟩ := w0 v5 rfl
        rw [e1, e2x] at hPa
        refine ax_if_ne (tgt := 86) dX6_load_73 (by decide) (by omega) (fun c73 => ?_) (fun c73 => ?_)
        · exfalso
          omega
        · refine ax_aload_n dX6_load_76 rfl ?_
          refine ax_bipush dX6_load_77 (by decide) ?_
          refine ax_aload_n dX6_load_79 rfl ?_
          refine ax_getf dX6_load_80 ck6 fl_X6_70 (by decide) (by omega) hOa rfl ?_
          rw [hPa.2.2.1]
          refine ax_cvv2 dX6_load_83 ln_X6_load_99 (Nat.le_of_ble_eq_true rfl) rfl (by omega) hOa rfl (s6_report hN hOa (by omega)) (fun gb hq => ?_)
          obtain ⟨hOb, yb⟩ := hq
          have yab : Y2 g7 gb := ya.tr yb
          refine ld_86 (h := gb) (s := _) hN hT hOb (hB7.mv (yab 113 (by decide))) hPa.rep (by rw [rep5]; split <;> omega) (hD7.mv (yab 115 (by decide))) (fun gk sc pc tc u1 u2 hOc hPc hAc hDc hYc hkit => ?_)
          have st1 : ST (wrdP T n 0 (sk T n 0)) 0 (-1) (rep sa (-2) ((sk T n 0 : Nat) : Int) 5) (rep sa (-2) ((sk T n 0 : Nat) : Int) 6) (fun y => sk T n 0 = y) := by
            rw [rep5, rep6, qa5, qa6]; unfold wrdP; rw [if_neg (by rw [wf]; decide)]; exact ST.no (by decide)
          have stk := hkit (sk T n 0) st1
          have k15 : sc 15 = 0 := (hAc 15 (by decide) (by decide) (by decide) (by decide)).trans ((repk (by decide) (by decide)).trans ((hAa 15 (by decide)).trans v15))
          have k14 : sc 14 = ((0 : Nat) : Int) := (hAc 14 (by decide) (by decide) (by decide) (by decide)).trans ((repk (by decide) (by decide)).trans ((hAa 14 (by decide)).trans v14))
          have hY0 : ∀ a, a ≠ 112 → a ≠ 115 → gk a = h a := fun a a1 a2 => (hYc a a1 a2).trans ((yab a a1).trans (y7 a a1))
          refine y6_lp hN hT (h0 := gk) (hB.mv (hY0 113 (by decide) (by decide))) n gk sc pc tc 0 (freshK u1 u2) hOc hPc (stk.rg (by decide)) hDc Y3.rf (fun q => ?_) (fun gl sl Kl hOl hDl hYl hSl stl => ?_)
          · obtain ⟨v, x1, -, x2, x3⟩ := stk.inr rfl q
            have i := kit_in x1
            rw [← x3] at i
            exact ⟨by omega, by rw [k15]; exact i.2, k14, by decide, Or.inl k15⟩
          · rw [k15] at stl
            have fin : ST (setP T n) 0 (-1) (sl 5) (sl 6) (fun v => Kl = v) := ST.bnd stk (fun e => stl.keep e) (fun v _ hv => by rw [← hv.1, ← hv.2]; exact stl)
            have hYa : ∀ a, a ≠ 112 → a ≠ 115 → gl a = h a := fun a a1 a2 => (hYl a a1 a2).trans (hY0 a a1 a2)
            have m0 : sl 0 = 0 := hSl.1.trans ((hAc 0 (by decide) (by decide) (by decide) (by decide)).trans ((repk (by decide) (by decide)).trans ((hAa 0 (by decide)).trans v0)))
            have m2 : sl 2 = 0 := hSl.2.1.trans ((hAc 2 (by decide) (by decide) (by decide) (by decide)).trans ((repk (by decide) (by decide)).trans ((hAa 2 (by decide)).trans v2)))
            have m12 : sl 12 = s 12 := hSl.2.2.2.trans ((hAc 12 (by decide) (by decide) (by decide) (by decide)).trans ((repk (by decide) (by decide)).trans ((hAa 12 (by decide)).trans v12)))
            refine ld_end (K := K) (H := H) (d := d) hN hOl (fin.rg (by decide)) hDl (hK.mv (hYa 114 (by decide) (by decide))) (hH.eq (fun a a1 a2 => hYa a (by omega) (by omega))) (m12.trans h12) fin (fun ret h1 hq => ?_)
            obtain ⟨s1, v, r1, r2, r3, r4, r5, r6, r7⟩ := hq
            refine ⟨s1, v, r1, r2, r3.trans m0, r4.trans m2, r5, fun a a1 a2 a3 a4 => (r6 a a1 a2 a3 a4).trans (hYa a a1 a3), ?_⟩
            rcases r7 with ⟨cc, b, q1, q2, q3, q4, q5, q6⟩ | q
            · exact Or.inl ⟨cc, b, q1, q2, q3, q4.trans m12, q5.trans (hYa 114 (by decide) (by decide)), fun a a1 a2 => (q6 a a1 a2).trans (hYa a (by omega) (by omega))⟩
            · exact Or.inr q
      · subst hz
        obtain ⟨wt, e1⟩ := w1 v5 rfl
        refine ax_if_ne (tgt := 86) dX6_load_73 (by decide) (by omega) (fun c73 => ?_) (fun c73 => ?_)
        · refine ld_86 (h := ga) (s := sa) hN hT hOa (hB7.mv (ya 113 (by decide))) hPa (by omega) (hD7.mv (ya 115 (by decide))) (fun gk sc pc tc u1 u2 hOc hPc hAc hDc hYc hkit => ?_)
          have st1 : ST (wrdP T n 0 (sk T n 0)) 0 (-1) (sa 5) (sa 6) (fun y => ta = y) := by
            rw [qa5, qa6]; unfold wrdP; rw [if_pos wt]; exact ST.ok e1
          have stk := hkit (sk T n 0) st1
          have k15 : sc 15 = 0 := (hAc 15 (by decide) (by decide) (by decide) (by decide)).trans ((hAa 15 (by decide)).trans v15)
          have k14 : sc 14 = ((0 : Nat) : Int) := (hAc 14 (by decide) (by decide) (by decide) (by decide)).trans ((hAa 14 (by decide)).trans v14)
          have hY0 : ∀ a, a ≠ 112 → a ≠ 115 → gk a = h a := fun a a1 a2 => (hYc a a1 a2).trans ((ya a a1).trans (y7 a a1))
          refine y6_lp hN hT (h0 := gk) (hB.mv (hY0 113 (by decide) (by decide))) n gk sc pc tc 0 (freshK u1 u2) hOc hPc (stk.rg (by decide)) hDc Y3.rf (fun q => ?_) (fun gl sl Kl hOl hDl hYl hSl stl => ?_)
          · obtain ⟨v, x1, -, x2, x3⟩ := stk.inr rfl q
            have i := kit_in x1
            rw [← x3] at i
            exact ⟨by omega, by rw [k15]; exact i.2, k14, by decide, Or.inl k15⟩
          · rw [k15] at stl
            have fin : ST (setP T n) 0 (-1) (sl 5) (sl 6) (fun v => Kl = v) := ST.bnd stk (fun e => stl.keep e) (fun v _ hv => by rw [← hv.1, ← hv.2]; exact stl)
            have hYa : ∀ a, a ≠ 112 → a ≠ 115 → gl a = h a := fun a a1 a2 => (hYl a a1 a2).trans (hY0 a a1 a2)
            have m0 : sl 0 = 0 := hSl.1.trans ((hAc 0 (by decide) (by decide) (by decide) (by decide)).trans ((hAa 0 (by decide)).trans v0))
            have m2 : sl 2 = 0 := hSl.2.1.trans ((hAc 2 (by decide) (by decide) (by decide) (by decide)).trans ((hAa 2 (by decide)).trans v2))
            have m12 : sl 12 = s 12 := hSl.2.2.2.trans ((hAc 12 (by decide) (by decide) (by decide) (by decide)).trans ((hAa 12 (by decide)).trans v12))
            refine ld_end (K := K) (H := H) (d := d) hN hOl (fin.rg (by decide)) hDl (hK.mv (hYa 114 (by decide) (by decide))) (hH.eq (fun a a1 a2 => hYa a (by omega) (by omega))) (m12.trans h12) fin (fun ret h1 hq => ?_)
            obtain ⟨s1, v, r1, r2, r3, r4, r5, r6, r7⟩ := hq
            refine ⟨s1, v, r1, r2, r3.trans m0, r4.trans m2, r5, fun a a1 a2 a3 a4 => (r6 a a1 a2 a3 a4).trans (hYa a a1 a3), ?_⟩
            rcases r7 with ⟨cc, b, q1, q2, q3, q4, q5, q6⟩ | q
            · exact Or.inl ⟨cc, b, q1, q2, q3, q4.trans m12, q5.trans (hYa 114 (by decide) (by decide)), fun a a1 a2 => (q6 a a1 a2).trans (hYa a (by omega) (by omega))⟩
            · exact Or.inr q
        · exfalso
          omega
    · exfalso
      omega
  · exfalso
    rw [if_pos (by omega)] at c15
    exact absurd c15 (by decide)
end RM
