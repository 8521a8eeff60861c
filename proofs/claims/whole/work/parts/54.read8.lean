/-! the reference reads: a statement with its semicolon -/
theorem once_st {s s1 : Nat → Int} {x b : Nat} {st v : Int} (h5 : -1000 ≤ s 5 ∧ s 5 ≤ 1000) (e : s1 = upZ (if x / 2 ^ b % 2 = 1 then rep s (-2) st else s) 14 v) : ST (chk (decide (((x / 2 ^ b % 2 : Nat) : Int) = 1)) (-2) st) (s 5) (s 6) (s1 5) (s1 6) (fun _ => decide (((x / 2 ^ b % 2 : Nat) : Int) = 1) = false) ∧ (∀ k, k ≠ 5 → k ≠ 6 → k ≠ 14 → s1 k = s k) ∧ s1 14 = v := by
  generalize x / 2 ^ b % 2 = y at *
  refine ⟨st_rp (by decide) ?_ ?_, fun k h1 h2 h3 => ?_, by rw [e]; rfl⟩
  · rw [e]; show (if y = 1 then rep s (-2) st else s) 5 = _
    by_cases q : y = 1
    · rw [if_pos q, rep5]; by_cases q2 : s 5 = 0
      · rw [if_pos q2, if_pos ⟨decide_eq_true (by omega), q2⟩]
      · rw [if_neg q2, if_neg (fun w => q2 w.2)]
    · rw [if_neg q, if_neg (fun w => by have := of_decide_eq_true w.1; omega)]
  · rw [e]; show (if y = 1 then rep s (-2) st else s) 6 = _
    by_cases q : y = 1
    · rw [if_pos q, rep6]; by_cases q2 : s 5 = 0
      · rw [if_pos q2, if_pos ⟨decide_eq_true (by omega), q2⟩]
      · rw [if_neg q2, if_neg (fun w => q2 w.2)]
    · rw [if_neg q, if_neg (fun w => by have := of_decide_eq_true w.1; omega)]
  · rw [e]; exact (if_neg h3).trans (rp_k h1 h2)
def stsP (T : Nat → Int) (n t : Nat) (K : Nat → Nat) (x : Nat) (f4 : Int) : (Int × Int) ⊕ (Nat × (Nat → Nat) × Int × Int × Int × Int) := bnd (stmP T n t K ((x / 2 ^ 0 % 2 : Nat) : Int) ((x / 2 ^ 1 % 2 : Nat) : Int) ((x / 2 ^ 2 % 2 : Nat) : Int) f4) (fun v => bnd (semP T n v.1) (fun t1 => .inr (t1, v.2)))
def flM (s : Nat → Int) (v : Nat × (Nat → Nat) × Int × Int × Int × Int) : Prop := s 14 = v.2.2.1 + 2 * v.2.2.2.1 + 4 * v.2.2.2.2.1 ∧ s 15 = v.2.2.2.2.2
section RM
variable {NC : Nat} {h : hp} {s T : Nat → Int} {n p t : Nat} {K : Nat → Nat} {Q : qt}
theorem t6_end (hN : 132 ≤ NC) (hT : TX T) (hO : XO h s) (hB : BT h T) (hP : PX T s n p t) (h5 : -1000 ≤ s 5 ∧ s 5 ≤ 1000) {x : (Int × Int) ⊕ (Nat × (Nat → Nat) × Int × Int × Int × Int)} {e a : Int} {K1 : Nat → Nat} (st : ST x e a (s 5) (s 6) (fun v => t = v.1 ∧ K1 = v.2.1 ∧ flM s v)) {w1 w2 w3 : Value} (kk : ∀ g s1 p1 t1, XO g s1 → PX T s1 n p1 t1 → agN s s1 → Y2 h g → ST (bnd x (fun v => bnd (semP T n v.1) (fun t1 => (.inr (t1, v.2) : (Int × Int) ⊕ (Nat × (Nat → Nat) × Int × Int × Int × Int))))) e a (s1 5) (s1 6) (fun v => t1 = v.1 ∧ K1 = v.2.1 ∧ flM s1 v) → Q .null g) : Ex NC none M_X6_statement 190 [.ref 112, w1, w2, w3] [] h Q := by
  refine ax_aload_n dX6_statement_190 rfl ?_
  refine ax_bipush dX6_statement_191 (by decide) ?_
  refine ax_cvv1 dX6_statement_193 ln_X6_statement_170 (Nat.le_of_ble_eq_true rfl) rfl (by omega) hO rfl (s6_expect hN hO hT hB hP h5) (fun g hq => ?_)
  obtain ⟨s1, p1, t1, hO1, hA1, hP1, y1, st1⟩ := hq
  exact ax_vret dX6_statement_196 rfl (kk g s1 p1 t1 hO1 hP1 hA1 y1 (ST.bnd st (fun e => st1.keep e) (fun v _ hv => by rw [← hv.1]; exact ST.bnd st1 (fun _ => ⟨rfl, rfl⟩) (fun y _ hy => by rw [← hy]; exact ST.ok ⟨rfl, hv.2.1, by unfold flM; rw [hA1 14 (by decide) (by decide) (by decide) (by decide), hA1 15 (by decide) (by decide) (by decide) (by decide)]; exact hv.2.2⟩))))
theorem s6_statement (hN : 132 ≤ NC) (hT : TX T) (hO : XO h s) (hB : BT h T) (hP : PX T s n p t) (g0 : s 5 = 0) (hD : DR h K) (hK : KI K) (hKz : ∀ p, p < 3 → K 5 ≤ p → K (615 + 44 * p) = 0 ∧ K (614 + 44 * p) = 0) {x : Nat} (h14 : s 14 = (x : Int)) (hx : x < 8) (h15 : s 15 = 0 ∨ s 15 = 1) : Cl NC M_X6_statement [.ref 112] h (fun _ h1 => ∃ s1 p1 t1 K1, XO h1 s1 ∧ PX T s1 n p1 t1 ∧ DR h1 K1 ∧ Y3 h h1 ∧ agS s s1 ∧ ST (stsP T n t K x (s 15)) (s 5) (s 6) (s1 5) (s1 6) (fun v => t1 = v.1 ∧ K1 = v.2.1 ∧ flM s1 v)) := by
  have k0 := hK.1
  unfold stsP
  refine ax_aload_n dX6_statement_0 rfl ?_
  refine ax_cvi0 dX6_statement_1 ln_X6_statement_86 (Nat.le_of_ble_eq_true rfl) (Or.inl rfl) (by omega) hO rfl (s6_ahead hN hO hT hB hP) (fun ret gs0 hq => ?_)
  obtain ⟨hv, s0, hOs0, hAs0, hPs0, ys0⟩ := hq
  cases hv
  have qs0 : s0 5 = 0 := (hAs0 5 (by decide)).trans g0
  have hAAs0 : agM s s0 := hAs0
  have yys0 : Y2 h gs0 := ys0
  have hBs0 : BT gs0 T := hB.mv (ys0 113 (by decide))
  have hDs0 : DR gs0 K := hD.mv (ys0 115 (by decide))
  refine ax_pop dX6_statement_4 rfl ?_
  refine ax_aload_n dX6_statement_5 rfl ?_
  refine ax_getf dX6_statement_6 ck6 fl_X6_70 (by decide) (by omega) hOs0 rfl ?_
  rw [hPs0.2.2.1]
  refine ax_istore_n dX6_statement_9 rfl (by decide) ?_
  refine ax_aload_n dX6_statement_10 rfl ?_
  refine ex_ldcS (j := 1) (tx := "reach") (by decide) dX6_statement_11 ?_
  refine ax_cvi1 dX6_statement_13 ln_X6_statement_130 (Nat.le_of_ble_eq_true rfl) (Or.inr rfl) (by omega) hOs0 rfl (s6_takeWord hN hOs0 hT hBs0 hPs0 (by omega) (j := 1) (by decide)) (fun ret gs1 hq => ?_)
  obtain ⟨zs1, s1, ps1, ts1, hv, hzs1, hOs1, hAs1, hPs1, ys1, -, w1s1, w0s1⟩ := hq
  cases hv
  have qs1 : s1 5 = 0 := (hAs1 5 (by decide)).trans qs0
  have hAAs1 : agM s s1 := fun k hk => (hAs1 k hk).trans (hAAs0 k hk)
  have yys1 : Y2 h gs1 := yys0.tr ys1
  have hBs1 : BT gs1 T := hBs0.mv (ys1 113 (by decide))
  have hDs1 : DR gs1 K := hDs0.mv (ys1 115 (by decide))
  refine ax_if_eq (tgt := 27) dX6_statement_16 (by decide) (by omega) (fun c16 => ?_) (fun c16 => ?_)
  · obtain ⟨wf1, e1, e2⟩ := w0s1 qs0 c16
    rw [e1, e2] at hPs1
    refine ax_aload_n dX6_statement_27 rfl ?_
    refine ex_ldcS (j := 2) (tx := "cloth") (by decide) dX6_statement_28 ?_
    refine ax_cvi1 dX6_statement_30 ln_X6_statement_130 (Nat.le_of_ble_eq_true rfl) (Or.inr rfl) (by omega) hOs1 rfl (s6_takeWord hN hOs1 hT hBs1 hPs1 (by omega) (j := 2) (by decide)) (fun ret gs2 hq => ?_)
    obtain ⟨zs2, s2, ps2, ts2, hv, hzs2, hOs2, hAs2, hPs2, ys2, -, w1s2, w0s2⟩ := hq
    cases hv
    have qs2 : s2 5 = 0 := (hAs2 5 (by decide)).trans qs1
    have hAAs2 : agM s s2 := fun k hk => (hAs2 k hk).trans (hAAs1 k hk)
    have yys2 : Y2 h gs2 := yys1.tr ys2
    have hBs2 : BT gs2 T := hBs1.mv (ys2 113 (by decide))
    have hDs2 : DR gs2 K := hDs1.mv (ys2 115 (by decide))
    refine ax_if_eq (tgt := 58) dX6_statement_33 (by decide) (by omega) (fun c33 => ?_) (fun c33 => ?_)
    · obtain ⟨wf2, e1, e2⟩ := w0s2 qs1 c33
      rw [e1, e2] at hPs2
      refine ax_aload_n dX6_statement_58 rfl ?_
      refine ex_ldcS (j := 3) (tx := "wood") (by decide) dX6_statement_59 ?_
      refine ax_cvi1 dX6_statement_61 ln_X6_statement_130 (Nat.le_of_ble_eq_true rfl) (Or.inr rfl) (by omega) hOs2 rfl (s6_takeWord hN hOs2 hT hBs2 hPs2 (by omega) (j := 3) (by decide)) (fun ret gs3 hq => ?_)
      obtain ⟨zs3, s3, ps3, ts3, hv, hzs3, hOs3, hAs3, hPs3, ys3, -, w1s3, w0s3⟩ := hq
      cases hv
      have qs3 : s3 5 = 0 := (hAs3 5 (by decide)).trans qs2
      have hAAs3 : agM s s3 := fun k hk => (hAs3 k hk).trans (hAAs2 k hk)
      have yys3 : Y2 h gs3 := yys2.tr ys3
      have hBs3 : BT gs3 T := hBs2.mv (ys3 113 (by decide))
      have hDs3 : DR gs3 K := hDs2.mv (ys3 115 (by decide))
      refine ax_if_eq (tgt := 89) dX6_statement_64 (by decide) (by omega) (fun c64 => ?_) (fun c64 => ?_)
      · obtain ⟨wf3, e1, e2⟩ := w0s3 qs2 c64
        rw [e1, e2] at hPs3
        refine ax_aload_n dX6_statement_89 rfl ?_
        refine ex_ldcS (j := 4) (tx := "colour") (by decide) dX6_statement_90 ?_
        refine ax_cvi1 dX6_statement_92 ln_X6_statement_130 (Nat.le_of_ble_eq_true rfl) (Or.inr rfl) (by omega) hOs3 rfl (s6_takeWord hN hOs3 hT hBs3 hPs3 (by omega) (j := 4) (by decide)) (fun ret gs4 hq => ?_)
        obtain ⟨zs4, s4, ps4, ts4, hv, hzs4, hOs4, hAs4, hPs4, ys4, -, w1s4, w0s4⟩ := hq
        cases hv
        have qs4 : s4 5 = 0 := (hAs4 5 (by decide)).trans qs3
        have hAAs4 : agM s s4 := fun k hk => (hAs4 k hk).trans (hAAs3 k hk)
        have yys4 : Y2 h gs4 := yys3.tr ys4
        have hBs4 : BT gs4 T := hBs3.mv (ys4 113 (by decide))
        have hDs4 : DR gs4 K := hDs3.mv (ys4 115 (by decide))
        refine ax_if_eq (tgt := 134) dX6_statement_95 (by decide) (by omega) (fun c95 => ?_) (fun c95 => ?_)
        · obtain ⟨wf4, e1, e2⟩ := w0s4 qs3 c95
          rw [e1, e2] at hPs4
          refine ax_aload_n dX6_statement_134 rfl ?_
          refine ex_ldcS (j := 5) (tx := "mix") (by decide) dX6_statement_135 ?_
          refine ax_cvi1 dX6_statement_137 ln_X6_statement_130 (Nat.le_of_ble_eq_true rfl) (Or.inr rfl) (by omega) hOs4 rfl (s6_takeWord hN hOs4 hT hBs4 hPs4 (by omega) (j := 5) (by decide)) (fun ret gs5 hq => ?_)
          obtain ⟨zs5, s5, ps5, ts5, hv, hzs5, hOs5, hAs5, hPs5, ys5, -, w1s5, w0s5⟩ := hq
          cases hv
          have qs5 : s5 5 = 0 := (hAs5 5 (by decide)).trans qs4
          have hAAs5 : agM s s5 := fun k hk => (hAs5 k hk).trans (hAAs4 k hk)
          have yys5 : Y2 h gs5 := yys4.tr ys5
          have hBs5 : BT gs5 T := hBs4.mv (ys5 113 (by decide))
          have hDs5 : DR gs5 K := hDs4.mv (ys5 115 (by decide))
          refine ax_if_eq (tgt := 150) dX6_statement_140 (by decide) (by omega) (fun c140 => ?_) (fun c140 => ?_)
          · obtain ⟨wf5, e1, e2⟩ := w0s5 qs4 c140
            rw [e1, e2] at hPs5
            refine ax_aload_n dX6_statement_150 rfl ?_
            refine ex_ldcS (j := 6) (tx := "spar") (by decide) dX6_statement_151 ?_
            refine ax_cvi1 dX6_statement_153 ln_X6_statement_130 (Nat.le_of_ble_eq_true rfl) (Or.inr rfl) (by omega) hOs5 rfl (s6_takeWord hN hOs5 hT hBs5 hPs5 (by omega) (j := 6) (by decide)) (fun ret gs6 hq => ?_)
            obtain ⟨zs6, s6, ps6, ts6, hv, hzs6, hOs6, hAs6, hPs6, ys6, -, w1s6, w0s6⟩ := hq
            cases hv
            have qs6 : s6 5 = 0 := (hAs6 5 (by decide)).trans qs5
            have hAAs6 : agM s s6 := fun k hk => (hAs6 k hk).trans (hAAs5 k hk)
            have yys6 : Y2 h gs6 := yys5.tr ys6
            have hBs6 : BT gs6 T := hBs5.mv (ys6 113 (by decide))
            have hDs6 : DR gs6 K := hDs5.mv (ys6 115 (by decide))
            refine ax_if_eq (tgt := 166) dX6_statement_156 (by decide) (by omega) (fun c156 => ?_) (fun c156 => ?_)
            · obtain ⟨wf6, e1, e2⟩ := w0s6 qs5 c156
              rw [e1, e2] at hPs6
              refine ax_aload_n dX6_statement_166 rfl ?_
              refine ex_ldcS (j := 9) (tx := "pattern") (by decide) dX6_statement_167 ?_
              refine ax_cvi1 dX6_statement_169 ln_X6_statement_130 (Nat.le_of_ble_eq_true rfl) (Or.inr rfl) (by omega) hOs6 rfl (s6_takeWord hN hOs6 hT hBs6 hPs6 (by omega) (j := 9) (by decide)) (fun ret gs7 hq => ?_)
              obtain ⟨zs7, s7, ps7, ts7, hv, hzs7, hOs7, hAs7, hPs7, ys7, -, w1s7, w0s7⟩ := hq
              cases hv
              have qs7 : s7 5 = 0 := (hAs7 5 (by decide)).trans qs6
              have hAAs7 : agM s s7 := fun k hk => (hAs7 k hk).trans (hAAs6 k hk)
              have yys7 : Y2 h gs7 := yys6.tr ys7
              have hBs7 : BT gs7 T := hBs6.mv (ys7 113 (by decide))
              have hDs7 : DR gs7 K := hDs6.mv (ys7 115 (by decide))
              refine ax_if_eq (tgt := 183) dX6_statement_172 (by decide) (by omega) (fun c172 => ?_) (fun c172 => ?_)
              · obtain ⟨wf9, e1, e2⟩ := w0s7 qs6 c172
                rw [e1, e2] at hPs7
                refine ax_aload_n dX6_statement_183 rfl ?_
                have x14 : s7 14 = (x : Int) := (hAAs7 14 (by decide)).trans h14
                have x15 : s7 15 = s 15 := hAAs7 15 (by decide)
                have x5 : s7 5 = s 5 := hAAs7 5 (by decide)
                have x6 : s7 6 = s 6 := hAAs7 6 (by decide)
                have xS : agS s s7 := ⟨hAAs7 0 (by decide), hAAs7 2 (by decide), hAAs7 7 (by decide), hAAs7 12 (by decide)⟩
                refine ax_bipush dX6_statement_184 (by decide) ?_
                refine ax_iload_n dX6_statement_186 rfl ?_
                refine ax_cvv2 dX6_statement_187 ln_X6_statement_99 (Nat.le_of_ble_eq_true rfl) rfl (by omega) hOs7 rfl (s6_report hN hOs7 (by omega)) (fun ga hq => ?_)
                obtain ⟨hOa, ya⟩ := hq
                have r5 : rep s7 (-2) (t : Int) 5 = -2 := by rw [rep5, if_pos qs7]
                have r6 : rep s7 (-2) (t : Int) 6 = (t : Int) := by rw [rep6, if_pos qs7]
                refine t6_end hN hT hOa (hBs7.mv (ya 113 (by decide))) hPs7.rep (by omega) (x := stmP T n t K ((x / 2 ^ 0 % 2 : Nat) : Int) ((x / 2 ^ 1 % 2 : Nat) : Int) ((x / 2 ^ 2 % 2 : Nat) : Int) (s 15)) (e := s 5) (a := s 6) (K1 := K) ?_ (fun g9 s9 p9 t9 hO9 hP9 hA9 y9 st9 => ⟨s9, p9, t9, _, hO9, hP9, (hDs7.mv (ya 115 (by decide))).mv (y9 115 (by decide)), (yys7.tr ya).w.tr y9.w, (xS.tr repN.S).tr hA9.S, st9⟩)
                unfold stmP
                rw [if_neg (by rw [wf1]; decide), if_neg (by rw [wf2]; decide), if_neg (by rw [wf3]; decide), if_neg (by rw [wf4]; decide), if_neg (by rw [wf5]; decide), if_neg (by rw [wf6]; decide), if_neg (by rw [wf9]; decide)]
                exact Or.inr ⟨g0, Or.inl ⟨-2, t, rfl, by decide, r5, r6⟩⟩
              · obtain ⟨wt9, e1⟩ := w1s7 qs6 (by omega)
                rw [e1] at hPs7
                have x14 : s7 14 = (x : Int) := (hAAs7 14 (by decide)).trans h14
                have x15 : s7 15 = s 15 := hAAs7 15 (by decide)
                have x5 : s7 5 = s 5 := hAAs7 5 (by decide)
                have x6 : s7 6 = s 6 := hAAs7 6 (by decide)
                have xS : agS s s7 := ⟨hAAs7 0 (by decide), hAAs7 2 (by decide), hAAs7 7 (by decide), hAAs7 12 (by decide)⟩
                refine ax_aload_n dX6_statement_175 rfl ?_
                refine ax_iload_n dX6_statement_176 rfl ?_
                refine ax_cvv1 dX6_statement_177 ln_X6_statement_167 (Nat.le_of_ble_eq_true rfl) rfl (by omega) hOs7 rfl (s6_readPattern hN hT hOs7 hBs7 hPs7 qs7 hDs7 hK hKz (st := (t : Int)) rfl) (fun ga hq => ?_)
                obtain ⟨sa, pa, ta, Ka, hOa, hPa, hDa, hYa, hSa, sta⟩ := hq
                refine ax_goto (tgt := 190) dX6_statement_180 (by decide) ?_
                rw [x5, x6] at sta
                refine t6_end hN hT hOa (hBs7.mv (hYa 113 (by decide) (by decide))) hPa (sta.rg (by omega)) (x := stmP T n t K ((x / 2 ^ 0 % 2 : Nat) : Int) ((x / 2 ^ 1 % 2 : Nat) : Int) ((x / 2 ^ 2 % 2 : Nat) : Int) (s 15)) (e := s 5) (a := s 6) (K1 := Ka) ?_ (fun g9 s9 p9 t9 hO9 hP9 hA9 y9 st9 => ⟨s9, p9, t9, _, hO9, hP9, hDa.mv (y9 115 (by decide)), (yys7.w.tr hYa).tr y9.w, (xS.tr hSa.S).tr hA9.S, st9⟩)
                unfold stmP; rw [if_neg (by rw [wf1]; decide)]; rw [if_neg (by rw [wf2]; decide)]; rw [if_neg (by rw [wf3]; decide)]; rw [if_neg (by rw [wf4]; decide)]; rw [if_neg (by rw [wf5]; decide)]; rw [if_neg (by rw [wf6]; decide)]; rw [if_pos wt9]
                refine ST.bnd sta (fun _ => ⟨rfl, rfl⟩) (fun v _ hv => ?_)
                rw [← hv.1, ← hv.2]
                refine ST.ok ⟨rfl, rfl, ?_⟩
                unfold flM
                rw [hSa 14 (by decide) (by decide) (by decide) (by decide), hSa 15 (by decide) (by decide) (by decide) (by decide), x14, x15]
                refine ⟨?_, rfl⟩
                show (x : Int) = ((x / 2 ^ 0 % 2 : Nat) : Int) + 2 * ((x / 2 ^ 1 % 2 : Nat) : Int) + 4 * ((x / 2 ^ 2 % 2 : Nat) : Int)
                omega
            · obtain ⟨wt6, e1⟩ := w1s6 qs5 (by omega)
              rw [e1] at hPs6
              have x14 : s6 14 = (x : Int) := (hAAs6 14 (by decide)).trans h14
              have x15 : s6 15 = s 15 := hAAs6 15 (by decide)
              have x5 : s6 5 = s 5 := hAAs6 5 (by decide)
              have x6 : s6 6 = s 6 := hAAs6 6 (by decide)
              have xS : agS s s6 := ⟨hAAs6 0 (by decide), hAAs6 2 (by decide), hAAs6 7 (by decide), hAAs6 12 (by decide)⟩
              refine ax_aload_n dX6_statement_159 rfl ?_
              refine ax_cvv0 dX6_statement_160 ln_X6_statement_162 (Nat.le_of_ble_eq_true rfl) rfl (by omega) hOs6 rfl (s6_readSpar hN hT hOs6 hBs6 hPs6 (by omega) hDs6 qs6 hK) (fun ga hq => ?_)
              obtain ⟨sa, pa, ta, Ka, hOa, hPa, hDa, hYa, hSa, ⟨f14, f15⟩, sta⟩ := hq
              refine ax_goto (tgt := 190) dX6_statement_163 (by decide) ?_
              rw [x5, x6] at sta
              refine t6_end hN hT hOa (hBs6.mv (hYa 113 (by decide) (by decide))) hPa (sta.rg (by omega)) (x := stmP T n t K ((x / 2 ^ 0 % 2 : Nat) : Int) ((x / 2 ^ 1 % 2 : Nat) : Int) ((x / 2 ^ 2 % 2 : Nat) : Int) (s 15)) (e := s 5) (a := s 6) (K1 := Ka) ?_ (fun g9 s9 p9 t9 hO9 hP9 hA9 y9 st9 => ⟨s9, p9, t9, _, hO9, hP9, hDa.mv (y9 115 (by decide)), (yys6.w.tr hYa).tr y9.w, (xS.tr hSa).tr hA9.S, st9⟩)
              unfold stmP; rw [if_neg (by rw [wf1]; decide)]; rw [if_neg (by rw [wf2]; decide)]; rw [if_neg (by rw [wf3]; decide)]; rw [if_neg (by rw [wf4]; decide)]; rw [if_neg (by rw [wf5]; decide)]; rw [if_pos wt6]
              refine ST.bnd sta (fun _ => ⟨rfl, rfl⟩) (fun v _ hv => ?_)
              rw [← hv.1, ← hv.2]
              refine ST.ok ⟨rfl, rfl, ?_⟩
              unfold flM
              rw [f14, f15, x14]
              refine ⟨?_, rfl⟩
              show (x : Int) = ((x / 2 ^ 0 % 2 : Nat) : Int) + 2 * ((x / 2 ^ 1 % 2 : Nat) : Int) + 4 * ((x / 2 ^ 2 % 2 : Nat) : Int)
              omega
          · obtain ⟨wt5, e1⟩ := w1s5 qs4 (by omega)
            rw [e1] at hPs5
            have x14 : s5 14 = (x : Int) := (hAAs5 14 (by decide)).trans h14
            have x15 : s5 15 = s 15 := hAAs5 15 (by decide)
            have x5 : s5 5 = s 5 := hAAs5 5 (by decide)
            have x6 : s5 6 = s 6 := hAAs5 6 (by decide)
            have xS : agS s s5 := ⟨hAAs5 0 (by decide), hAAs5 2 (by decide), hAAs5 7 (by decide), hAAs5 12 (by decide)⟩
            refine ax_aload_n dX6_statement_143 rfl ?_
            refine ax_cvv0 dX6_statement_144 ln_X6_statement_157 (Nat.le_of_ble_eq_true rfl) rfl (by omega) hOs5 rfl (s6_readMix hN hT hOs5 hBs5 hPs5 (by omega) hDs5 hK) (fun ga hq => ?_)
            obtain ⟨sa, pa, ta, Ka, hOa, hPa, hDa, hYa, hSa, sta⟩ := hq
            refine ax_goto (tgt := 190) dX6_statement_147 (by decide) ?_
            rw [x5, x6] at sta
            refine t6_end hN hT hOa (hBs5.mv (hYa 113 (by decide) (by decide))) hPa (sta.rg (by omega)) (x := stmP T n t K ((x / 2 ^ 0 % 2 : Nat) : Int) ((x / 2 ^ 1 % 2 : Nat) : Int) ((x / 2 ^ 2 % 2 : Nat) : Int) (s 15)) (e := s 5) (a := s 6) (K1 := Ka) ?_ (fun g9 s9 p9 t9 hO9 hP9 hA9 y9 st9 => ⟨s9, p9, t9, _, hO9, hP9, hDa.mv (y9 115 (by decide)), (yys5.w.tr hYa).tr y9.w, (xS.tr hSa.S).tr hA9.S, st9⟩)
            unfold stmP; rw [if_neg (by rw [wf1]; decide)]; rw [if_neg (by rw [wf2]; decide)]; rw [if_neg (by rw [wf3]; decide)]; rw [if_neg (by rw [wf4]; decide)]; rw [if_pos wt5]
            refine ST.bnd sta (fun _ => ⟨rfl, rfl⟩) (fun v _ hv => ?_)
            rw [← hv.1, ← hv.2]
            refine ST.ok ⟨rfl, rfl, ?_⟩
            unfold flM
            rw [hSa 14 (by decide) (by decide) (by decide) (by decide), hSa 15 (by decide) (by decide) (by decide) (by decide), x14, x15]
            refine ⟨?_, rfl⟩
            show (x : Int) = ((x / 2 ^ 0 % 2 : Nat) : Int) + 2 * ((x / 2 ^ 1 % 2 : Nat) : Int) + 4 * ((x / 2 ^ 2 % 2 : Nat) : Int)
            omega
        · obtain ⟨wt4, e1⟩ := w1s4 qs3 (by omega)
          rw [e1] at hPs4
          have x14 : s4 14 = (x : Int) := (hAAs4 14 (by decide)).trans h14
          have x15 : s4 15 = s 15 := hAAs4 15 (by decide)
          have x5 : s4 5 = s 5 := hAAs4 5 (by decide)
          have x6 : s4 6 = s 6 := hAAs4 6 (by decide)
          have xS : agS s s4 := ⟨hAAs4 0 (by decide), hAAs4 2 (by decide), hAAs4 7 (by decide), hAAs4 12 (by decide)⟩
          refine ax_aload_n dX6_statement_98 rfl ?_
          refine ax_iconst dX6_statement_99 ?_
          refine ax_bipush dX6_statement_100 (by decide) ?_
          refine ax_cvi2 dX6_statement_102 ln_X6_statement_125 (Nat.le_of_ble_eq_true rfl) (Or.inl rfl) (by omega) hOs4 rfl (s6_number hN hOs4 hT hBs4 hPs4 (by omega) (by omega)) (fun ret ga hq => ?_)
          obtain ⟨za, sa, pa, ta, hv, hza, hOa, hAa, hPa, ya, bza, sta⟩ := hq
          cases hv
          obtain ⟨va, rfl⟩ : ∃ m : Nat, za = (m : Int) := ⟨za.toNat, by omega⟩
          have hBa : BT ga T := hBs4.mv (ya 113 (by decide))
          have h5a := sta.rg (by omega)
          have hDa : DR ga K := hDs4.mv (ya 115 (by decide))
          refine ax_istore_n dX6_statement_105 rfl (by decide) ?_
          refine ax_aload_n dX6_statement_106 rfl ?_
          refine ax_iconst dX6_statement_107 ?_
          refine ax_bipush dX6_statement_108 (by decide) ?_
          refine ax_cvi2 dX6_statement_110 ln_X6_statement_125 (Nat.le_of_ble_eq_true rfl) (Or.inl rfl) (by omega) hOa rfl (s6_number hN hOa hT hBa hPa h5a (by omega)) (fun ret gb hq => ?_)
          obtain ⟨zb, sb, pb, tb, hv, hzb, hOb, hAb, hPb, yb, bzb, stb⟩ := hq
          cases hv
          obtain ⟨vb, rfl⟩ : ∃ m : Nat, zb = (m : Int) := ⟨zb.toNat, by omega⟩
          have hBb : BT gb T := hBa.mv (yb 113 (by decide))
          have h5b := stb.rg h5a
          have hDb : DR gb K := hDa.mv (yb 115 (by decide))
          rw [x5, x6] at sta
          refine ax_istore_n dX6_statement_113 rfl (by decide) ?_
          refine ax_aload_n dX6_statement_114 rfl ?_
          refine ax_cviP0 dX6_statement_115 ln_X6_statement_82 (Nat.le_of_ble_eq_true rfl) (Or.inr rfl) (by omega) hOb rfl (s6_isGood hN hOb h5b) ?_
          refine ax_if_eq (tgt := 131) dX6_statement_118 (by decide) (by split <;> omega) (fun c118 => ?_) (fun c118 => ?_)
          · have c : sb 5 ≠ 0 := fun q => by (rw [if_pos q] at c118; omega)
            refine ax_goto (tgt := 190) dX6_statement_131 (by decide) ?_
            refine t6_end hN hT hOb hBb hPb h5b (x := stmP T n t K ((x / 2 ^ 0 % 2 : Nat) : Int) ((x / 2 ^ 1 % 2 : Nat) : Int) ((x / 2 ^ 2 % 2 : Nat) : Int) (s 15)) (e := s 5) (a := s 6) (K1 := K) ?_ (fun g9 s9 p9 t9 hO9 hP9 hA9 y9 st9 => ⟨s9, p9, t9, _, hO9, hP9, hDb.mv (y9 115 (by decide)), ((yys4.tr ya).tr yb).w.tr y9.w, ((xS.tr hAa.S).tr hAb.S).tr hA9.S, st9⟩)
            unfold stmP; rw [if_neg (by rw [wf1]; decide)]; rw [if_neg (by rw [wf2]; decide)]; rw [if_neg (by rw [wf3]; decide)]; rw [if_pos wt4]
            refine ST.bnd sta (fun e => by have k := stb.keep e; exact ⟨k.1, k.2⟩) (fun v _ hv => ?_)
            rw [← hv.1, ← hv.2.1]
            refine ST.bnd stb (fun _ => ⟨rfl, rfl⟩) (fun v e0 hv => ?_)
            rw [← hv.1, ← hv.2.1, Int.toNat_natCast, Int.toNat_natCast]
            exact absurd e0 c
          · have c : sb 5 = 0 := by (by_cases q : sb 5 = 0; exact q; rw [if_neg q] at c118; exact absurd rfl c118)
            refine ax_aload_n dX6_statement_121 rfl ?_
            refine ax_getf dX6_statement_122 ck6 fl_X6_20 (by decide) (by omega) hOb rfl ?_
            refine ax_bipush dX6_statement_125 (by decide) ?_
            refine ax_iload_n dX6_statement_127 rfl ?_
            refine ax_iadd dX6_statement_128 ?_
            refine ax_iload_n dX6_statement_129 rfl ?_
            refine ax_iasr (j := (18 + va)) dX6_statement_130 (by omega) hDb (by omega) (by omega) (by decide) (fun e130 he130 => ?_)
            have hDc : DR (va_up gb 115 e130) (upN K (18 + va) vb) := (he130.mv vu_eq).cong (fun i hi => by unfold upZ upN; split <;> rfl)
            refine ax_goto (tgt := 190) dX6_statement_131 (by decide) ?_
            refine t6_end hN hT (show XO (va_up gb 115 e130) sb from (vu_ne (by decide)).trans hOb) (show BT (va_up gb 115 e130) T from hBb.mv (vu_ne (by decide))) hPb h5b (x := stmP T n t K ((x / 2 ^ 0 % 2 : Nat) : Int) ((x / 2 ^ 1 % 2 : Nat) : Int) ((x / 2 ^ 2 % 2 : Nat) : Int) (s 15)) (e := s 5) (a := s 6) (K1 := (upN K (18 + va) vb)) ?_ (fun g9 s9 p9 t9 hO9 hP9 hA9 y9 st9 => ⟨s9, p9, t9, _, hO9, hP9, hDc.mv (y9 115 (by decide)), (((yys4.tr ya).tr yb).w.up).tr y9.w, ((xS.tr hAa.S).tr hAb.S).tr hA9.S, st9⟩)
            unfold stmP; rw [if_neg (by rw [wf1]; decide)]; rw [if_neg (by rw [wf2]; decide)]; rw [if_neg (by rw [wf3]; decide)]; rw [if_pos wt4]
            refine ST.bnd sta (fun e => by have k := stb.keep e; exact ⟨k.1, k.2⟩) (fun v _ hv => ?_)
            rw [← hv.1, ← hv.2.1]
            refine ST.bnd stb (fun _ => ⟨rfl, rfl⟩) (fun v e0 hv => ?_)
            rw [← hv.1, ← hv.2.1, Int.toNat_natCast, Int.toNat_natCast]
            refine ST.ok ⟨rfl, rfl, ?_⟩
            unfold flM
            rw [hAb 14 (by decide) (by decide) (by decide) (by decide), hAb 15 (by decide) (by decide) (by decide) (by decide), hAa 14 (by decide) (by decide) (by decide) (by decide), hAa 15 (by decide) (by decide) (by decide) (by decide), x14, x15]
            refine ⟨?_, rfl⟩
            show (x : Int) = ((x / 2 ^ 0 % 2 : Nat) : Int) + 2 * ((x / 2 ^ 1 % 2 : Nat) : Int) + 4 * ((x / 2 ^ 2 % 2 : Nat) : Int)
            omega
      · obtain ⟨wt3, e1⟩ := w1s3 qs2 (by omega)
        rw [e1] at hPs3
        have x14 : s3 14 = (x : Int) := (hAAs3 14 (by decide)).trans h14
        have x15 : s3 15 = s 15 := hAAs3 15 (by decide)
        have x5 : s3 5 = s 5 := hAAs3 5 (by decide)
        have x6 : s3 6 = s 6 := hAAs3 6 (by decide)
        have xS : agS s s3 := ⟨hAAs3 0 (by decide), hAAs3 2 (by decide), hAAs3 7 (by decide), hAAs3 12 (by decide)⟩
        refine ax_aload_n dX6_statement_67 rfl ?_
        refine ax_iconst dX6_statement_68 ?_
        refine ax_iload_n dX6_statement_69 rfl ?_
        refine ax_cvv2 dX6_statement_70 ln_X6_statement_122 (Nat.le_of_ble_eq_true rfl) rfl (by omega) hOs3 rfl (s6_once hN hOs3 (by omega) (x := x) (b := 2) x14 hx (by decide)) (fun ga hq => ?_)
        obtain ⟨sa, hOa, ya, ea⟩ := hq
        obtain ⟨sta, kxa, f14⟩ := once_st (by omega) ea
        have hPa : PX T sa n ps3 (sN T n t) := ⟨hPs3.1, (kxa 3 (by decide) (by decide) (by decide)).trans hPs3.2.1, (kxa 4 (by decide) (by decide) (by decide)).trans hPs3.2.2.1, hPs3.2.2.2.1, hPs3.2.2.2.2⟩
        have hBa : BT ga T := hBs3.mv (ya 113 (by decide))
        have hDa : DR ga K := hDs3.mv (ya 115 (by decide))
        rw [x5, x6] at sta
        refine ax_aload_n dX6_statement_73 rfl ?_
        refine ax_getf dX6_statement_74 ck6 fl_X6_20 (by decide) (by omega) hOa rfl ?_
        refine ax_iconst dX6_statement_77 ?_
        refine ax_aload_n dX6_statement_78 rfl ?_
        refine ax_iconst dX6_statement_79 ?_
        refine ax_bipush dX6_statement_80 (by decide) ?_
        refine ax_cvi2 dX6_statement_82 ln_X6_statement_125 (Nat.le_of_ble_eq_true rfl) (Or.inl rfl) (by omega) hOa rfl (s6_number hN hOa hT hBa hPa (sta.rg (by omega)) (by omega)) (fun ret gb hq => ?_)
        obtain ⟨zb, sb, pb, tb, hv, hzb, hOb, hAb, hPb, yb, bzb, stb⟩ := hq
        cases hv
        obtain ⟨vb, rfl⟩ : ∃ m : Nat, zb = (m : Int) := ⟨zb.toNat, by omega⟩
        have hBb : BT gb T := hBa.mv (yb 113 (by decide))
        have h5b := stb.rg (sta.rg (by omega))
        have hDb : DR gb K := hDa.mv (yb 115 (by decide))
        refine ax_iasr (j := 4) dX6_statement_85 (by omega) hDb (by omega) (by omega) (by decide) (fun e85 he85 => ?_)
        have hDc : DR (va_up gb 115 e85) (upN K 4 vb) := (he85.mv vu_eq).cong (fun i hi => by unfold upZ upN; split <;> rfl)
        refine ax_goto (tgt := 190) dX6_statement_86 (by decide) ?_
        refine t6_end hN hT (show XO (va_up gb 115 e85) sb from (vu_ne (by decide)).trans hOb) (show BT (va_up gb 115 e85) T from hBb.mv (vu_ne (by decide))) hPb h5b (x := stmP T n t K ((x / 2 ^ 0 % 2 : Nat) : Int) ((x / 2 ^ 1 % 2 : Nat) : Int) ((x / 2 ^ 2 % 2 : Nat) : Int) (s 15)) (e := s 5) (a := s 6) (K1 := (upN K 4 vb)) ?_ (fun g9 s9 p9 t9 hO9 hP9 hA9 y9 st9 => ⟨s9, p9, t9, _, hO9, hP9, hDc.mv (y9 115 (by decide)), (((yys3.tr ya).tr yb).w.up).tr y9.w, ((xS.tr ⟨kxa 0 (by decide) (by decide) (by decide), kxa 2 (by decide) (by decide) (by decide), kxa 7 (by decide) (by decide) (by decide), kxa 12 (by decide) (by decide) (by decide)⟩).tr hAb.S).tr hA9.S, st9⟩)
        unfold stmP; rw [if_neg (by rw [wf1]; decide)]; rw [if_neg (by rw [wf2]; decide)]; rw [if_pos wt3]
        refine ST.bnd sta (fun e => stb.keep e) (fun _ _ _ => ?_)
        refine ST.bnd stb (fun _ => ⟨rfl, rfl⟩) (fun v _ hv => ?_)
        rw [← hv.1, ← hv.2.1, Int.toNat_natCast]
        refine ST.ok ⟨rfl, rfl, ?_⟩
        unfold flM
        rw [hAb 14 (by decide) (by decide) (by decide) (by decide), hAb 15 (by decide) (by decide) (by decide) (by decide), f14, kxa 15 (by decide) (by decide) (by decide), x15]
        refine ⟨?_, rfl⟩
        show _ = ((x / 2 ^ 0 % 2 : Nat) : Int) + 2 * ((x / 2 ^ 1 % 2 : Nat) : Int) + 4 * 1
        split <;> omega
    · obtain ⟨wt2, e1⟩ := w1s2 qs1 (by omega)
      rw [e1] at hPs2
      have x14 : s2 14 = (x : Int) := (hAAs2 14 (by decide)).trans h14
      have x15 : s2 15 = s 15 := hAAs2 15 (by decide)
      have x5 : s2 5 = s 5 := hAAs2 5 (by decide)
      have x6 : s2 6 = s 6 := hAAs2 6 (by decide)
      have xS : agS s s2 := ⟨hAAs2 0 (by decide), hAAs2 2 (by decide), hAAs2 7 (by decide), hAAs2 12 (by decide)⟩
      refine ax_aload_n dX6_statement_36 rfl ?_
      refine ax_iconst dX6_statement_37 ?_
      refine ax_iload_n dX6_statement_38 rfl ?_
      refine ax_cvv2 dX6_statement_39 ln_X6_statement_122 (Nat.le_of_ble_eq_true rfl) rfl (by omega) hOs2 rfl (s6_once hN hOs2 (by omega) (x := x) (b := 1) x14 hx (by decide)) (fun ga hq => ?_)
      obtain ⟨sa, hOa, ya, ea⟩ := hq
      obtain ⟨sta, kxa, f14⟩ := once_st (by omega) ea
      have hPa : PX T sa n ps2 (sN T n t) := ⟨hPs2.1, (kxa 3 (by decide) (by decide) (by decide)).trans hPs2.2.1, (kxa 4 (by decide) (by decide) (by decide)).trans hPs2.2.2.1, hPs2.2.2.2.1, hPs2.2.2.2.2⟩
      have hBa : BT ga T := hBs2.mv (ya 113 (by decide))
      have hDa : DR ga K := hDs2.mv (ya 115 (by decide))
      rw [x5, x6] at sta
      refine ax_aload_n dX6_statement_42 rfl ?_
      refine ax_getf dX6_statement_43 ck6 fl_X6_20 (by decide) (by omega) hOa rfl ?_
      refine ax_iconst dX6_statement_46 ?_
      refine ax_aload_n dX6_statement_47 rfl ?_
      refine ax_iconst dX6_statement_48 ?_
      refine ax_bipush dX6_statement_49 (by decide) ?_
      refine ax_cvi2 dX6_statement_51 ln_X6_statement_125 (Nat.le_of_ble_eq_true rfl) (Or.inl rfl) (by omega) hOa rfl (s6_number hN hOa hT hBa hPa (sta.rg (by omega)) (by omega)) (fun ret gb hq => ?_)
      obtain ⟨zb, sb, pb, tb, hv, hzb, hOb, hAb, hPb, yb, bzb, stb⟩ := hq
      cases hv
      obtain ⟨vb, rfl⟩ : ∃ m : Nat, zb = (m : Int) := ⟨zb.toNat, by omega⟩
      have hBb : BT gb T := hBa.mv (yb 113 (by decide))
      have h5b := stb.rg (sta.rg (by omega))
      have hDb : DR gb K := hDa.mv (yb 115 (by decide))
      refine ax_iasr (j := 3) dX6_statement_54 (by omega) hDb (by omega) (by omega) (by decide) (fun e54 he54 => ?_)
      have hDc : DR (va_up gb 115 e54) (upN K 3 vb) := (he54.mv vu_eq).cong (fun i hi => by unfold upZ upN; split <;> rfl)
      refine ax_goto (tgt := 190) dX6_statement_55 (by decide) ?_
      refine t6_end hN hT (show XO (va_up gb 115 e54) sb from (vu_ne (by decide)).trans hOb) (show BT (va_up gb 115 e54) T from hBb.mv (vu_ne (by decide))) hPb h5b (x := stmP T n t K ((x / 2 ^ 0 % 2 : Nat) : Int) ((x / 2 ^ 1 % 2 : Nat) : Int) ((x / 2 ^ 2 % 2 : Nat) : Int) (s 15)) (e := s 5) (a := s 6) (K1 := (upN K 3 vb)) ?_ (fun g9 s9 p9 t9 hO9 hP9 hA9 y9 st9 => ⟨s9, p9, t9, _, hO9, hP9, hDc.mv (y9 115 (by decide)), (((yys2.tr ya).tr yb).w.up).tr y9.w, ((xS.tr ⟨kxa 0 (by decide) (by decide) (by decide), kxa 2 (by decide) (by decide) (by decide), kxa 7 (by decide) (by decide) (by decide), kxa 12 (by decide) (by decide) (by decide)⟩).tr hAb.S).tr hA9.S, st9⟩)
      unfold stmP; rw [if_neg (by rw [wf1]; decide)]; rw [if_pos wt2]
      refine ST.bnd sta (fun e => stb.keep e) (fun _ _ _ => ?_)
      refine ST.bnd stb (fun _ => ⟨rfl, rfl⟩) (fun v _ hv => ?_)
      rw [← hv.1, ← hv.2.1, Int.toNat_natCast]
      refine ST.ok ⟨rfl, rfl, ?_⟩
      unfold flM
      rw [hAb 14 (by decide) (by decide) (by decide) (by decide), hAb 15 (by decide) (by decide) (by decide) (by decide), f14, kxa 15 (by decide) (by decide) (by decide), x15]
      refine ⟨?_, rfl⟩
      show _ = ((x / 2 ^ 0 % 2 : Nat) : Int) + 2 * 1 + 4 * ((x / 2 ^ 2 % 2 : Nat) : Int)
      split <;> omega
  · obtain ⟨wt1, e1⟩ := w1s1 qs0 (by omega)
    rw [e1] at hPs1
    have x14 : s1 14 = (x : Int) := (hAAs1 14 (by decide)).trans h14
    have x15 : s1 15 = s 15 := hAAs1 15 (by decide)
    have x5 : s1 5 = s 5 := hAAs1 5 (by decide)
    have x6 : s1 6 = s 6 := hAAs1 6 (by decide)
    have xS : agS s s1 := ⟨hAAs1 0 (by decide), hAAs1 2 (by decide), hAAs1 7 (by decide), hAAs1 12 (by decide)⟩
    refine ax_aload_n dX6_statement_19 rfl ?_
    refine ax_iload_n dX6_statement_20 rfl ?_
    refine ax_cvv1 dX6_statement_21 ln_X6_statement_146 (Nat.le_of_ble_eq_true rfl) rfl (by omega) hOs1 rfl (s6_readReach hN hOs1 hT hBs1 hPs1 (by omega) hDs1 hK (x := x) x14 hx (by rw [x15]; exact h15) (st := (t : Int)) rfl) (fun ga hq => ?_)
    obtain ⟨sa, pa, ta, Ka, hOa, hPa, hDa, hYa, hSa, ⟨f14, f15⟩, sta⟩ := hq
    refine ax_goto (tgt := 190) dX6_statement_24 (by decide) ?_
    rw [x5, x6, x15] at sta
    refine t6_end hN hT hOa (hBs1.mv (hYa 113 (by decide) (by decide))) hPa (sta.rg (by omega)) (x := stmP T n t K ((x / 2 ^ 0 % 2 : Nat) : Int) ((x / 2 ^ 1 % 2 : Nat) : Int) ((x / 2 ^ 2 % 2 : Nat) : Int) (s 15)) (e := s 5) (a := s 6) (K1 := Ka) ?_ (fun g9 s9 p9 t9 hO9 hP9 hA9 y9 st9 => ⟨s9, p9, t9, _, hO9, hP9, hDa.mv (y9 115 (by decide)), (yys1.w.tr hYa).tr y9.w, (xS.tr hSa).tr hA9.S, st9⟩)
    unfold stmP; rw [if_pos wt1]
    refine ST.bnd (by rw [Nat.pow_zero, Nat.div_one]; exact sta) (fun _ => ⟨rfl, rfl⟩) (fun v _ hv => ?_)
    rw [← hv.1, ← hv.2]
    refine ST.ok ⟨rfl, rfl, ?_⟩
    unfold flM
    rw [f14, f15, x15]
    refine ⟨?_, rfl⟩
    show _ = 1 + 2 * ((x / 2 ^ 1 % 2 : Nat) : Int) + 4 * ((x / 2 ^ 2 % 2 : Nat) : Int)
    revert hx
    generalize x = y
    intro hx
    split <;> omega
end RM
