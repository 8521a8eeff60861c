/-! the class's reader: one statement -/
def stmP (T : Nat → Int) (n s : Nat) (K : Nat → Nat) (f1 f2 f3 f4 : Int) : (Int × Int) ⊕ (Nat × (Nat → Nat) × Int × Int × Int × Int) :=
  if wd T n 1 s = true then bnd (reaP T n s K f1 f4) (fun v => .inr (v.1, v.2, 1, f2, f3, f4))
  else if wd T n 2 s = true then bnd (chk (decide (f2 = 1)) (-2) (s : Int)) (fun _ => bnd (numP T n 0 99 (sN T n s)) (fun v => .inr (v.2, upN K 3 v.1.toNat, f1, 1, f3, f4)))
  else if wd T n 3 s = true then bnd (chk (decide (f3 = 1)) (-2) (s : Int)) (fun _ => bnd (numP T n 0 99 (sN T n s)) (fun v => .inr (v.2, upN K 4 v.1.toNat, f1, f2, 1, f4)))
  else if wd T n 4 s = true then bnd (numP T n 1 6 (sN T n s)) (fun c => bnd (numP T n 0 99 c.2) (fun v => .inr (v.2, upN K (18 + c.1.toNat) v.1.toNat, f1, f2, f3, f4)))
  else if wd T n 5 s = true then bnd (mixP T n (sN T n s) K) (fun v => .inr (v.1, v.2, f1, f2, f3, f4))
  else if wd T n 6 s = true then bnd (sprP T n (sN T n s) K) (fun v => .inr (v.1, v.2, f1, f2, f3, 1))
  else if wd T n 9 s = true then bnd (patP T n s K) (fun v => .inr (v.1, v.2, f1, f2, f3, f4))
  else .inl (-2, (s : Int))
section RD
variable {NC b : Nat} {h : hp} {r T : Nat → Int} {n s : Nat} {K : Nat → Nat} {Q : qt}
theorem sp_readStatement (hN : 112 ≤ NC) (hb : b + 10 ≤ 103) (hT : TX T) (hO : RO h r) (hTr : TR h T) (hk : TK T n r s) (h6 : -1000 ≤ r 6 ∧ r 6 ≤ 1000) (hS : SA NC h b K) (hK : KI K) (hf : FLG r) : Cl NC M_X4_readStatement [.ref 110, .ref b] h (fun _ h1 => ∃ r1 s1 K1, RO h1 r1 ∧ TK T n r1 s1 ∧ SA NC h1 b K1 ∧ YB b h h1 ∧ r1 1 = r 1 ∧ ST (stmP T n s K (r 9) (r 10) (r 11) (r 12)) (r 6) (r 7) (r1 6) (r1 7) (fun v => s1 = v.1 ∧ K1 = v.2.1 ∧ r1 9 = v.2.2.1 ∧ r1 10 = v.2.2.2.1 ∧ r1 11 = v.2.2.2.2.1 ∧ r1 12 = v.2.2.2.2.2)) := by
  have k0 := hK.1
  refine ax_aload_n dX4_readStatement_0 rfl ?_
  refine ex_ldcS (j := 1) (tx := "reach") (by decide) dX4_readStatement_1 ?_
  refine ax_cviP1 dX4_readStatement_3 ln_X4_readStatement_85 (Nat.le_of_ble_eq_true rfl) (Or.inr rfl) (by omega) hO rfl (sp_isWord hN hO hT hTr hk (j := 1) (by decide)) ?_
  refine ax_if_eq (tgt := 17) dX4_readStatement_6 (by decide) (by split <;> omega) (fun c6 => ?_) (fun c6 => ?_)
  · have z1 : ¬ wd T n 1 s = true := fun w => by (rw [if_pos w] at c6; omega)
    refine ax_aload_n dX4_readStatement_17 rfl ?_
    refine ex_ldcS (j := 2) (tx := "cloth") (by decide) dX4_readStatement_18 ?_
    refine ax_cviP1 dX4_readStatement_20 ln_X4_readStatement_85 (Nat.le_of_ble_eq_true rfl) (Or.inr rfl) (by omega) hO rfl (sp_isWord hN hO hT hTr hk (j := 2) (by decide)) ?_
    refine ax_if_eq (tgt := 57) dX4_readStatement_23 (by decide) (by split <;> omega) (fun c23 => ?_) (fun c23 => ?_)
    · have z2 : ¬ wd T n 2 s = true := fun w => by (rw [if_pos w] at c23; omega)
      refine ax_aload_n dX4_readStatement_57 rfl ?_
      refine ex_ldcS (j := 3) (tx := "wood") (by decide) dX4_readStatement_58 ?_
      refine ax_cviP1 dX4_readStatement_60 ln_X4_readStatement_85 (Nat.le_of_ble_eq_true rfl) (Or.inr rfl) (by omega) hO rfl (sp_isWord hN hO hT hTr hk (j := 3) (by decide)) ?_
      refine ax_if_eq (tgt := 97) dX4_readStatement_63 (by decide) (by split <;> omega) (fun c63 => ?_) (fun c63 => ?_)
      · have z3 : ¬ wd T n 3 s = true := fun w => by (rw [if_pos w] at c63; omega)
        refine ax_aload_n dX4_readStatement_97 rfl ?_
        refine ex_ldcS (j := 4) (tx := "colour") (by decide) dX4_readStatement_98 ?_
        refine ax_cviP1 dX4_readStatement_100 ln_X4_readStatement_85 (Nat.le_of_ble_eq_true rfl) (Or.inr rfl) (by omega) hO rfl (sp_isWord hN hO hT hTr hk (j := 4) (by decide)) ?_
        refine ax_if_eq (tgt := 134) dX4_readStatement_103 (by decide) (by split <;> omega) (fun c103 => ?_) (fun c103 => ?_)
        · have z4 : ¬ wd T n 4 s = true := fun w => by (rw [if_pos w] at c103; omega)
          refine ax_aload_n dX4_readStatement_134 rfl ?_
          refine ex_ldcS (j := 5) (tx := "mix") (by decide) dX4_readStatement_135 ?_
          refine ax_cviP1 dX4_readStatement_137 ln_X4_readStatement_85 (Nat.le_of_ble_eq_true rfl) (Or.inr rfl) (by omega) hO rfl (sp_isWord hN hO hT hTr hk (j := 5) (by decide)) ?_
          refine ax_if_eq (tgt := 151) dX4_readStatement_140 (by decide) (by split <;> omega) (fun c140 => ?_) (fun c140 => ?_)
          · have z5 : ¬ wd T n 5 s = true := fun w => by (rw [if_pos w] at c140; omega)
            refine ax_aload_n dX4_readStatement_151 rfl ?_
            refine ex_ldcS (j := 6) (tx := "spar") (by decide) dX4_readStatement_152 ?_
            refine ax_cviP1 dX4_readStatement_154 ln_X4_readStatement_85 (Nat.le_of_ble_eq_true rfl) (Or.inr rfl) (by omega) hO rfl (sp_isWord hN hO hT hTr hk (j := 6) (by decide)) ?_
            refine ax_if_eq (tgt := 168) dX4_readStatement_157 (by decide) (by split <;> omega) (fun c157 => ?_) (fun c157 => ?_)
            · have z6 : ¬ wd T n 6 s = true := fun w => by (rw [if_pos w] at c157; omega)
              refine ax_aload_n dX4_readStatement_168 rfl ?_
              refine ex_ldcS (j := 9) (tx := "pattern") (by decide) dX4_readStatement_169 ?_
              refine ax_cviP1 dX4_readStatement_171 ln_X4_readStatement_85 (Nat.le_of_ble_eq_true rfl) (Or.inr rfl) (by omega) hO rfl (sp_isWord hN hO hT hTr hk (j := 9) (by decide)) ?_
              refine ax_if_eq (tgt := 185) dX4_readStatement_174 (by decide) (by split <;> omega) (fun c174 => ?_) (fun c174 => ?_)
              · have z9 : ¬ wd T n 9 s = true := fun w => by (rw [if_pos w] at c174; omega)
                refine ax_aload_n dX4_readStatement_185 rfl ?_
                refine ax_bipush dX4_readStatement_186 (by decide) ?_
                refine ax_aload_n dX4_readStatement_188 rfl ?_
                refine ax_getf dX4_readStatement_189 ck4 fl_X4_66 (by decide) (by omega) hO rfl ?_
                rw [hk.2.2.2.1]
                refine ax_cvv2 dX4_readStatement_192 ln_X4_readStatement_89 (Nat.le_of_ble_eq_true rfl) rfl (by omega) hO rfl (sp_fail hN hO h6) (fun g1 hq => ?_)
                obtain ⟨hO1, y1⟩ := hq
                exact ax_vret dX4_readStatement_195 rfl ⟨_, s, K, hO1, hk.fl, hS.eq (fun a a1 a2 => y1 a (by omega)), YB.rf.y y1, flrF.1, by rw [flr6, flr7]; unfold stmP; rw [if_neg z1, if_neg z2, if_neg z3, if_neg z4, if_neg z5, if_neg z6, if_neg z9]; exact ST.no (by decide)⟩
              · have z9 : wd T n 9 s = true := by (by_cases w : wd T n 9 s = true; exact w; rw [if_neg w] at c174; exact absurd rfl c174)
                refine ax_aload_n dX4_readStatement_177 rfl ?_
                refine ax_aload_n dX4_readStatement_178 rfl ?_
                refine ax_cvv1 dX4_readStatement_179 ln_X4_readStatement_152 (Nat.le_of_ble_eq_true rfl) rfl (by omega) hO rfl (sp_readPattern hN hb hT hO hTr hk h6 hS hK) (fun g1 hq => ?_)
                obtain ⟨r1, s1, K1, hO1, hk1, hS1, hY1, hf1, st1⟩ := hq
                refine ax_goto (tgt := 195) dX4_readStatement_182 (by decide) ?_
                refine ax_vret dX4_readStatement_195 rfl ?_
                refine ⟨r1, s1, K1, hO1, hk1, hS1, hY1, hf1.1, ?_⟩
                unfold stmP; rw [if_neg z1]; rw [if_neg z2]; rw [if_neg z3]; rw [if_neg z4]; rw [if_neg z5]; rw [if_neg z6]; rw [if_pos z9]
                refine ST.bnd st1 (fun e => ⟨rfl, rfl⟩) (fun y _ hy => ?_)
                obtain ⟨w1, w2⟩ := hy
                rw [← w1, ← w2]
                exact ST.ok ⟨rfl, rfl, hf1.2.1, hf1.2.2.1, hf1.2.2.2.1, hf1.2.2.2.2⟩
            · have z6 : wd T n 6 s = true := by (by_cases w : wd T n 6 s = true; exact w; rw [if_neg w] at c157; exact absurd rfl c157)
              refine ax_aload_n dX4_readStatement_160 rfl ?_
              refine ax_aload_n dX4_readStatement_161 rfl ?_
              refine ax_cvv1 dX4_readStatement_162 ln_X4_readStatement_147 (Nat.le_of_ble_eq_true rfl) rfl (by omega) hO rfl (sp_readSpar hN hb hT hO hTr hk h6 hS hK) (fun g1 hq => ?_)
              obtain ⟨r1, s1, K1, hO1, hk1, hS1, hY1, hf1, st1⟩ := hq
              refine ax_goto (tgt := 195) dX4_readStatement_165 (by decide) ?_
              refine ax_vret dX4_readStatement_195 rfl ?_
              refine ⟨r1, s1, K1, hO1, hk1, hS1, hY1, hf1.1, ?_⟩
              unfold stmP; rw [if_neg z1]; rw [if_neg z2]; rw [if_neg z3]; rw [if_neg z4]; rw [if_neg z5]; rw [if_pos z6]
              refine ST.bnd st1 (fun e => ⟨rfl, rfl⟩) (fun y _ hy => ?_)
              obtain ⟨w1, w2⟩ := hy
              rw [← w1, ← w2]
              exact ST.ok ⟨rfl, rfl, hf1.2.1, hf1.2.2.1, hf1.2.2.2.1, hf1.2.2.2.2⟩
          · have z5 : wd T n 5 s = true := by (by_cases w : wd T n 5 s = true; exact w; rw [if_neg w] at c140; exact absurd rfl c140)
            refine ax_aload_n dX4_readStatement_143 rfl ?_
            refine ax_aload_n dX4_readStatement_144 rfl ?_
            refine ax_cvv1 dX4_readStatement_145 ln_X4_readStatement_142 (Nat.le_of_ble_eq_true rfl) rfl (by omega) hO rfl (sp_readMix hN hb hT hO hTr hk h6 hS hK) (fun g1 hq => ?_)
            obtain ⟨r1, s1, K1, hO1, hk1, hS1, hY1, hf1, st1⟩ := hq
            refine ax_goto (tgt := 195) dX4_readStatement_148 (by decide) ?_
            refine ax_vret dX4_readStatement_195 rfl ?_
            refine ⟨r1, s1, K1, hO1, hk1, hS1, hY1, hf1.1, ?_⟩
            unfold stmP; rw [if_neg z1]; rw [if_neg z2]; rw [if_neg z3]; rw [if_neg z4]; rw [if_pos z5]
            refine ST.bnd st1 (fun e => ⟨rfl, rfl⟩) (fun y _ hy => ?_)
            obtain ⟨w1, w2⟩ := hy
            rw [← w1, ← w2]
            exact ST.ok ⟨rfl, rfl, hf1.2.1, hf1.2.2.1, hf1.2.2.2.1, hf1.2.2.2.2⟩
        · have z4 : wd T n 4 s = true := by (by_cases w : wd T n 4 s = true; exact w; rw [if_neg w] at c103; exact absurd rfl c103)
          refine ax_aload_n dX4_readStatement_106 rfl ?_
          refine ax_cvv0 dX4_readStatement_107 ln_X4_readStatement_50 (Nat.le_of_ble_eq_true rfl) rfl (by omega) hO rfl (sp_next hN hO hT hTr hk) (fun g3 hq => ?_)
          obtain ⟨r3, hO3, ha3, hk3, y3⟩ := hq
          have e6 : r3 6 = r 6 := ha3 6 (by decide) (by decide) (by decide)
          have e7 : r3 7 = r 7 := ha3 7 (by decide) (by decide) (by decide)
          have hTr3 : TR g3 T := hTr.mv (y3 111 (by decide))
          have hS3 : SA NC g3 b K := hS.eq (fun a a1 a2 => y3 a (by omega))
          have hcF := ha3.F
          have h63 : -1000 ≤ r3 6 ∧ r3 6 ≤ 1000 := by rw [e6]; exact h6
          refine ax_aload_n dX4_readStatement_110 rfl ?_
          refine ax_iconst dX4_readStatement_111 ?_
          refine ax_bipush dX4_readStatement_112 (by decide) ?_
          refine ax_cvi2 dX4_readStatement_114 ln_X4_readStatement_109 (Nat.le_of_ble_eq_true rfl) (Or.inl rfl) (by omega) hO3 rfl (sp_readNumber hN hO3 hT hTr3 hk3 h63 (by omega)) (fun ret g4 hq => ?_)
          obtain ⟨z4, r4, s4, hv, hz4, hO4, hk4, ha4, y4, st4⟩ := hq
          cases hv
          obtain ⟨v4, rfl⟩ : ∃ m : Nat, z4 = (m : Int) := ⟨z4.toNat, by omega⟩
          have hS4 : SA NC g4 b K := hS3.eq (fun a a1 a2 => y4 a (by omega))
          have hTr4 : TR g4 T := hTr3.mv (y4 111 (by decide))
          have h64 := st4.rg h63
          refine ax_istore_n dX4_readStatement_117 rfl (by decide) ?_
          refine ax_aload_n dX4_readStatement_118 rfl ?_
          refine ax_getf dX4_readStatement_119 ck3 fl_X4_136 (by decide) hS4.n0 hS4.o rfl ?_
          refine ax_iload_n dX4_readStatement_122 rfl ?_
          refine ax_aload_n dX4_readStatement_123 rfl ?_
          refine ax_iconst dX4_readStatement_124 ?_
          refine ax_bipush dX4_readStatement_125 (by decide) ?_
          refine ax_cvi2 dX4_readStatement_127 ln_X4_readStatement_109 (Nat.le_of_ble_eq_true rfl) (Or.inl rfl) (by omega) hO4 rfl (sp_readNumber hN hO4 hT hTr4 hk4 h64 (by omega)) (fun ret g5 hq => ?_)
          obtain ⟨z5, r5, s5, hv, hz5, hO5, hk5, ha5, y5, st5⟩ := hq
          cases hv
          obtain ⟨v5, rfl⟩ : ∃ m : Nat, z5 = (m : Int) := ⟨z5.toNat, by omega⟩
          have hS5 : SA NC g5 b K := hS4.eq (fun a a1 a2 => y5 a (by omega))
          have hTr5 : TR g5 T := hTr4.mv (y5 111 (by decide))
          have h65 := st5.rg h64
          refine ax_iasr (j := v4) dX4_readStatement_130 (hS5.n 2 (by omega)) hS5.cw (by omega) (by omega) (by decide) (fun e130 he130 => ?_)
          have hS6 := hS5.w2 (j := v4) (by omega) he130
          have hF6 : Fr g5 (va_up g5 (b + 2) e130) b := Fr.rf.up (by omega)
          refine ax_goto (tgt := 195) dX4_readStatement_131 (by decide) ?_
          refine ax_vret dX4_readStatement_195 rfl ?_
          have hF := hcF.tr (ha4.tr ha5)
          refine ⟨r5, s5, _, (hF6 110 (by omega)).trans hO5, hk5, hS6, (((YB.rf.y y3).y y4).y y5).f hF6, hF.1, ?_⟩
          unfold stmP; rw [if_neg z1]; rw [if_neg z2]; rw [if_neg z3]; rw [if_pos z4]
          rw [e6, e7] at st4
          refine ST.bnd st4 (fun e => by have k := st5.keep e; exact ⟨k.1, k.2⟩) (fun y _ hy => ?_)
          obtain ⟨w1, w2, -⟩ := hy
          rw [← w1, ← w2]
          refine ST.bnd st5 (fun e => ⟨rfl, rfl⟩) (fun y _ hy => ?_)
          obtain ⟨w1, w2, -⟩ := hy
          rw [← w1, ← w2, Int.toNat_natCast, Int.toNat_natCast]
          exact ST.ok ⟨rfl, rfl, hF.2.1, hF.2.2.1, hF.2.2.2.1, hF.2.2.2.2⟩
      · have z3 : wd T n 3 s = true := by (by_cases w : wd T n 3 s = true; exact w; rw [if_neg w] at c63; exact absurd rfl c63)
        refine ax_aload_n dX4_readStatement_66 rfl ?_
        refine ax_aload_n dX4_readStatement_67 rfl ?_
        refine ax_getf dX4_readStatement_68 ck4 fl_X4_44 (by decide) (by omega) hO rfl ?_
        refine ax_cvv1 dX4_readStatement_71 ln_X4_readStatement_124 (Nat.le_of_ble_eq_true rfl) rfl (by omega) hO rfl (sp_refuseIf hN hO hT hTr hk h6 (z := r 11) hf.2.2.1) (fun g1 hq => ?_)
        obtain ⟨hO1, y1⟩ := hq
        obtain ⟨ra, era⟩ : ∃ ra, ra = (if decide (r 11 = 1) = true then flr r (-2) (s : Int) else r) := ⟨_, rfl⟩
        have hO1a : RO g1 ra := by rw [era]; by_cases q : r 11 = 1; (rw [if_pos (decide_eq_true q)]; rw [if_pos q] at hO1; exact hO1); (rw [if_neg (by rw [decide_eq_true_iff]; exact q)]; rw [if_neg q] at hO1; exact hO1)
        have sta := ST.chk (by decide) era
        have hka : TK T n ra s := by rw [era]; split; exact hk.fl; exact hk
        have hfa : agF r ra := by rw [era]; split; exact flrF; exact ⟨rfl, rfl, rfl, rfl, rfl⟩
        refine ax_aload_n dX4_readStatement_74 rfl ?_
        refine ax_iconst dX4_readStatement_75 ?_
        refine ax_putf dX4_readStatement_76 ck4 fl_X4_44 (by decide) (by omega) hO1a rfl (Or.inr ⟨rfl, Or.inr rfl⟩) (Nat.le_of_ble_eq_true rfl) rfl ?_
        generalize hgg2 : va_up g1 110 _ = g2
        obtain ⟨rb, hO2, erb⟩ : ∃ rr, RO g2 rr ∧ rr = upZ ra 11 1 := ⟨_, by rw [← hgg2]; exact hO1a.s11, rfl⟩
        have y2 : Y1 h g2 := fun a ha => by rw [← hgg2]; exact (vu_ne ha).trans (y1 a ha)
        have hkb : TK T n rb s := by rw [erb]; exact hka
        have hTr2 : TR g2 T := hTr.mv (y2 111 (by decide))
        refine ax_aload_n dX4_readStatement_79 rfl ?_
        refine ax_cvv0 dX4_readStatement_80 ln_X4_readStatement_50 (Nat.le_of_ble_eq_true rfl) rfl (by omega) hO2 rfl (sp_next hN hO2 hT hTr2 hkb) (fun g3 hq => ?_)
        obtain ⟨r3, hO3, ha3, hk3, y3⟩ := hq
        have e6 : r3 6 = ra 6 := (ha3 6 (by decide) (by decide) (by decide)).trans (by rw [erb]; rfl)
        have e7 : r3 7 = ra 7 := (ha3 7 (by decide) (by decide) (by decide)).trans (by rw [erb]; rfl)
        have hTr3 : TR g3 T := hTr2.mv (y3 111 (by decide))
        have hS3 : SA NC g3 b K := hS.eq (fun a a1 a2 => (y3 a (by omega)).trans (y2 a (by omega)))
        have hcF := ha3.F
        have h63 : -1000 ≤ r3 6 ∧ r3 6 ≤ 1000 := by rw [e6]; exact sta.rg h6
        refine ax_aload_n dX4_readStatement_83 rfl ?_
        refine ax_aload_n dX4_readStatement_84 rfl ?_
        refine ax_iconst dX4_readStatement_85 ?_
        refine ax_bipush dX4_readStatement_86 (by decide) ?_
        refine ax_cvi2 dX4_readStatement_88 ln_X4_readStatement_109 (Nat.le_of_ble_eq_true rfl) (Or.inl rfl) (by omega) hO3 rfl (sp_readNumber hN hO3 hT hTr3 hk3 h63 (by omega)) (fun ret g5 hq => ?_)
        obtain ⟨z5, r5, s5, hv, hz5, hO5, hk5, ha5, y5, st5⟩ := hq
        cases hv
        obtain ⟨v5, rfl⟩ : ∃ m : Nat, z5 = (m : Int) := ⟨z5.toNat, by omega⟩
        have hS5 : SA NC g5 b K := hS3.eq (fun a a1 a2 => y5 a (by omega))
        have hTr5 : TR g5 T := hTr3.mv (y5 111 (by decide))
        have h65 := st5.rg h63
        refine ax_putf dX4_readStatement_91 ck3 fl_X4_132 (by decide) hS5.n0 hS5.o rfl (Or.inl rfl) (Nat.le_of_ble_eq_true rfl) rfl ?_
        have hS6 := hS5.f4 (c := v5)
        have hF6 : Fr g5 (va_up g5 b (.inr (3, (sailF K b).set 4 (.int (I ((v5 : Nat) : Int)))))) b := fun a ha => vu_ne (by omega)
        refine ax_goto (tgt := 195) dX4_readStatement_94 (by decide) ?_
        refine ax_vret dX4_readStatement_195 rfl ?_
        refine ⟨r5, s5, _, (hF6 110 (by omega)).trans hO5, hk5, hS6, (((YB.rf.y y2).y y3).y y5).f hF6, by rw [ha5.1, hcF.1, erb]; exact hfa.1, ?_⟩
        unfold stmP; rw [if_neg z1]; rw [if_neg z2]; rw [if_pos z3]
        rw [e6, e7] at st5
        refine ST.bnd sta (fun e => st5.keep e) (fun _ _ _ => ?_)
        refine ST.bnd st5 (fun e => ⟨rfl, rfl⟩) (fun y _ hy => ?_)
        obtain ⟨w1, w2, -⟩ := hy
        rw [← w1, ← w2, Int.toNat_natCast]
        refine ST.ok ⟨rfl, rfl, ?_, ?_, ?_, ?_⟩
        · rw [ha5.2.1, hcF.2.1, erb]; exact hfa.2.1
        · rw [ha5.2.2.1, hcF.2.2.1, erb]; exact hfa.2.2.1
        · rw [ha5.2.2.2.1, hcF.2.2.2.1, erb]; rfl
        · rw [ha5.2.2.2.2, hcF.2.2.2.2, erb]; exact hfa.2.2.2.2
    · have z2 : wd T n 2 s = true := by (by_cases w : wd T n 2 s = true; exact w; rw [if_neg w] at c23; exact absurd rfl c23)
      refine ax_aload_n dX4_readStatement_26 rfl ?_
      refine ax_aload_n dX4_readStatement_27 rfl ?_
      refine ax_getf dX4_readStatement_28 ck4 fl_X4_41 (by decide) (by omega) hO rfl ?_
      refine ax_cvv1 dX4_readStatement_31 ln_X4_readStatement_124 (Nat.le_of_ble_eq_true rfl) rfl (by omega) hO rfl (sp_refuseIf hN hO hT hTr hk h6 (z := r 10) hf.2.1) (fun g1 hq => ?_)
      obtain ⟨hO1, y1⟩ := hq
      obtain ⟨ra, era⟩ : ∃ ra, ra = (if decide (r 10 = 1) = true then flr r (-2) (s : Int) else r) := ⟨_, rfl⟩
      have hO1a : RO g1 ra := by rw [era]; by_cases q : r 10 = 1; (rw [if_pos (decide_eq_true q)]; rw [if_pos q] at hO1; exact hO1); (rw [if_neg (by rw [decide_eq_true_iff]; exact q)]; rw [if_neg q] at hO1; exact hO1)
      have sta := ST.chk (by decide) era
      have hka : TK T n ra s := by rw [era]; split; exact hk.fl; exact hk
      have hfa : agF r ra := by rw [era]; split; exact flrF; exact ⟨rfl, rfl, rfl, rfl, rfl⟩
      refine ax_aload_n dX4_readStatement_34 rfl ?_
      refine ax_iconst dX4_readStatement_35 ?_
      refine ax_putf dX4_readStatement_36 ck4 fl_X4_41 (by decide) (by omega) hO1a rfl (Or.inr ⟨rfl, Or.inr rfl⟩) (Nat.le_of_ble_eq_true rfl) rfl ?_
      generalize hgg2 : va_up g1 110 _ = g2
      obtain ⟨rb, hO2, erb⟩ : ∃ rr, RO g2 rr ∧ rr = upZ ra 10 1 := ⟨_, by rw [← hgg2]; exact hO1a.s10, rfl⟩
      have y2 : Y1 h g2 := fun a ha => by rw [← hgg2]; exact (vu_ne ha).trans (y1 a ha)
      have hkb : TK T n rb s := by rw [erb]; exact hka
      have hTr2 : TR g2 T := hTr.mv (y2 111 (by decide))
      refine ax_aload_n dX4_readStatement_39 rfl ?_
      refine ax_cvv0 dX4_readStatement_40 ln_X4_readStatement_50 (Nat.le_of_ble_eq_true rfl) rfl (by omega) hO2 rfl (sp_next hN hO2 hT hTr2 hkb) (fun g3 hq => ?_)
      obtain ⟨r3, hO3, ha3, hk3, y3⟩ := hq
      have e6 : r3 6 = ra 6 := (ha3 6 (by decide) (by decide) (by decide)).trans (by rw [erb]; rfl)
      have e7 : r3 7 = ra 7 := (ha3 7 (by decide) (by decide) (by decide)).trans (by rw [erb]; rfl)
      have hTr3 : TR g3 T := hTr2.mv (y3 111 (by decide))
      have hS3 : SA NC g3 b K := hS.eq (fun a a1 a2 => (y3 a (by omega)).trans (y2 a (by omega)))
      have hcF := ha3.F
      have h63 : -1000 ≤ r3 6 ∧ r3 6 ≤ 1000 := by rw [e6]; exact sta.rg h6
      refine ax_aload_n dX4_readStatement_43 rfl ?_
      refine ax_aload_n dX4_readStatement_44 rfl ?_
      refine ax_iconst dX4_readStatement_45 ?_
      refine ax_bipush dX4_readStatement_46 (by decide) ?_
      refine ax_cvi2 dX4_readStatement_48 ln_X4_readStatement_109 (Nat.le_of_ble_eq_true rfl) (Or.inl rfl) (by omega) hO3 rfl (sp_readNumber hN hO3 hT hTr3 hk3 h63 (by omega)) (fun ret g5 hq => ?_)
      obtain ⟨z5, r5, s5, hv, hz5, hO5, hk5, ha5, y5, st5⟩ := hq
      cases hv
      obtain ⟨v5, rfl⟩ : ∃ m : Nat, z5 = (m : Int) := ⟨z5.toNat, by omega⟩
      have hS5 : SA NC g5 b K := hS3.eq (fun a a1 a2 => y5 a (by omega))
      have hTr5 : TR g5 T := hTr3.mv (y5 111 (by decide))
      have h65 := st5.rg h63
      refine ax_putf dX4_readStatement_51 ck3 fl_X4_128 (by decide) hS5.n0 hS5.o rfl (Or.inl rfl) (Nat.le_of_ble_eq_true rfl) rfl ?_
      have hS6 := hS5.f3 (c := v5)
      have hF6 : Fr g5 (va_up g5 b (.inr (3, (sailF K b).set 3 (.int (I ((v5 : Nat) : Int)))))) b := fun a ha => vu_ne (by omega)
      refine ax_goto (tgt := 195) dX4_readStatement_54 (by decide) ?_
      refine ax_vret dX4_readStatement_195 rfl ?_
      refine ⟨r5, s5, _, (hF6 110 (by omega)).trans hO5, hk5, hS6, (((YB.rf.y y2).y y3).y y5).f hF6, by rw [ha5.1, hcF.1, erb]; exact hfa.1, ?_⟩
      unfold stmP; rw [if_neg z1]; rw [if_pos z2]
      rw [e6, e7] at st5
      refine ST.bnd sta (fun e => st5.keep e) (fun _ _ _ => ?_)
      refine ST.bnd st5 (fun e => ⟨rfl, rfl⟩) (fun y _ hy => ?_)
      obtain ⟨w1, w2, -⟩ := hy
      rw [← w1, ← w2, Int.toNat_natCast]
      refine ST.ok ⟨rfl, rfl, ?_, ?_, ?_, ?_⟩
      · rw [ha5.2.1, hcF.2.1, erb]; exact hfa.2.1
      · rw [ha5.2.2.1, hcF.2.2.1, erb]; rfl
      · rw [ha5.2.2.2.1, hcF.2.2.2.1, erb]; exact hfa.2.2.2.1
      · rw [ha5.2.2.2.2, hcF.2.2.2.2, erb]; exact hfa.2.2.2.2
  · have z1 : wd T n 1 s = true := by (by_cases w : wd T n 1 s = true; exact w; rw [if_neg w] at c6; exact absurd rfl c6)
    refine ax_aload_n dX4_readStatement_9 rfl ?_
    refine ax_aload_n dX4_readStatement_10 rfl ?_
    refine ax_cvv1 dX4_readStatement_11 ln_X4_readStatement_119 (Nat.le_of_ble_eq_true rfl) rfl (by omega) hO rfl (sp_readReach hN hb hT hO hTr hk h6 hS hK hf) (fun g1 hq => ?_)
    obtain ⟨r1, s1, K1, hO1, hk1, hS1, hY1, hf1, st1⟩ := hq
    refine ax_goto (tgt := 195) dX4_readStatement_14 (by decide) ?_
    refine ax_vret dX4_readStatement_195 rfl ?_
    refine ⟨r1, s1, K1, hO1, hk1, hS1, hY1, hf1.1, ?_⟩
    unfold stmP; rw [if_pos z1]
    refine ST.bnd st1 (fun e => ⟨rfl, rfl⟩) (fun y _ hy => ?_)
    obtain ⟨w1, w2⟩ := hy
    rw [← w1, ← w2]
    exact ST.ok ⟨rfl, rfl, hf1.2.1, hf1.2.2.1, hf1.2.2.2.1, hf1.2.2.2.2⟩
end RD
