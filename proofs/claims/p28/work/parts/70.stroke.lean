/-! the class: stroke, spar -/
theorem tab2 {j : Nat} (h : j < 4) : tabF 2 j = I (dxW j) := by
  rcases (by omega : j = 0 ∨ j = 1 ∨ j = 2 ∨ j = 3) with rfl | rfl | rfl | rfl <;> rfl
theorem tab3 {j : Nat} (h : j < 4) : tabF 3 j = I (dyW j) := by
  rcases (by omega : j = 0 ∨ j = 1 ∨ j = 2 ∨ j = 3) with rfl | rfl | rfl | rfl <;> rfl
theorem dw_rg (j : Nat) : -1 ≤ dxW j ∧ dxW j ≤ 1 ∧ -1 ≤ dyW j ∧ dyW j ≤ 1 := by
  unfold dxW dyW; refine ⟨?_, ?_, ?_, ?_⟩ <;> split <;> first | omega | (split <;> omega)
def strP (c : Nat) (dx dy : Int) : Nat → (Nat → Nat) → Int → Int → Int × (Nat → Nat)
  | 0, K, _, _ => (0, K)
  | n + 1, K, x, y => if onZ K x y = true ∧ K (434 + (y.toNat * K 0 + x.toNat)) = 0 then ((strP c dx dy n (putC K x y c 6 true) (x + dx) (y + dy)).1 + 1, (strP c dx dy n (putC K x y c 6 true) (x + dx) (y + dy)).2) else (0, K)
theorem str_t {c n : Nat} {dx dy x y : Int} {K : Nat → Nat} (h : onZ K x y = true ∧ K (434 + (y.toNat * K 0 + x.toNat)) = 0) : strP c dx dy (n + 1) K x y = ((strP c dx dy n (putC K x y c 6 true) (x + dx) (y + dy)).1 + 1, (strP c dx dy n (putC K x y c 6 true) (x + dx) (y + dy)).2) := if_pos h
theorem str_f {c n : Nat} {dx dy x y : Int} {K : Nat → Nat} (h : ¬ (onZ K x y = true ∧ K (434 + (y.toNat * K 0 + x.toNat)) = 0)) : strP c dx dy (n + 1) K x y = (0, K) := if_neg h
def sdx (dn : Bool) : Int := if dn = true then 0 else 1
def sdy (dn : Bool) : Int := if dn = true then 1 else 0
def spaP (dx dy : Int) : Nat → (Nat → Nat) → Int → Int → Int × (Nat → Nat)
  | 0, K, _, _ => (0, K)
  | n + 1, K, x, y => if onZ K x y = true then ((spaP dx dy n (upN K (434 + (y.toNat * K 0 + x.toNat)) 1) (x + dx) (y + dy)).1 + (1 - (K (434 + (y.toNat * K 0 + x.toNat)) : Int)), (spaP dx dy n (upN K (434 + (y.toNat * K 0 + x.toNat)) 1) (x + dx) (y + dy)).2) else (0, K)
theorem spa_t {n : Nat} {dx dy x y : Int} {K : Nat → Nat} (h : onZ K x y = true) : spaP dx dy (n + 1) K x y = ((spaP dx dy n (upN K (434 + (y.toNat * K 0 + x.toNat)) 1) (x + dx) (y + dy)).1 + (1 - (K (434 + (y.toNat * K 0 + x.toNat)) : Int)), (spaP dx dy n (upN K (434 + (y.toNat * K 0 + x.toNat)) 1) (x + dx) (y + dy)).2) := if_pos h
theorem spa_f {n : Nat} {dx dy x y : Int} {K : Nat → Nat} (h : ¬ onZ K x y = true) : spaP dx dy (n + 1) K x y = (0, K) := if_neg h
theorem spr_up {K : Nat → Nat} {i v : Nat} (hi : i < nC K) : sprC (upN K (434 + i) v) = sprC K - (K (434 + i) : Int) + v := by
  unfold sprC
  rw [nC_up (by omega), si_cong (g := upZ (cfS K) i (v : Int)) (fun k _ => ?_), si_upZ hi]
  · rfl
  · unfold cfS upZ upN
    by_cases q : k = i
    · subst q; rw [if_pos rfl, if_pos rfl]
    · rw [if_neg (by omega), if_neg q]
theorem spa_sum {dx dy : Int} : ∀ (n : Nat) {K : Nat → Nat} (x y : Int), KI K → sprC (spaP dx dy n K x y).2 = sprC K + (spaP dx dy n K x y).1 ∧ KI (spaP dx dy n K x y).2
  | 0, K, _, _, hK => ⟨(Int.add_zero _).symm, hK⟩
  | n + 1, K, x, y, hK => by
    by_cases q : onZ K x y = true
    · obtain ⟨u, v, rfl, rfl, hu, hv, hl, n0, -⟩ := onZ_nat hK q
      have hon : on K (v * K 0 + u) = true := by rw [on_at hu]; exact q
      rw [spa_t q]
      have hK1 := hK.upS (i := v * K 0 + u) (v := 1) hl hon (by omega)
      have h := spa_sum (dx := dx) (dy := dy) n (K := upN K (434 + (v * K 0 + u)) 1) ((u : Int) + dx) ((v : Int) + dy) hK1
      refine ⟨?_, h.2⟩
      show sprC (spaP dx dy n (upN K (434 + (v * K 0 + u)) 1) ((u : Int) + dx) ((v : Int) + dy)).2 = sprC K + ((spaP dx dy n (upN K (434 + (v * K 0 + u)) 1) ((u : Int) + dx) ((v : Int) + dy)).1 + (1 - (K (434 + (v * K 0 + u)) : Int)))
      rw [h.1, spr_up hl]
      omega
    · rw [spa_f q]; exact ⟨(Int.add_zero _).symm, hK⟩
section CS
variable {NC : Nat} {h : hp} {K KS : Nat → Nat} {H : Nat → Nat → Nat} {d n : Nat} {e : Int} {Q : qt}
variable {h0 : hp} {x0 y0 : Value} {R1 : Int} {R2 : Nat → Nat}
theorem l_stroke (hN : 112 ≤ NC) {wy len c : Nat} (hwy : wy < 4) (hlen : len ≤ 15) (hc : c ≤ 6) (kk : ∀ (w7 w8 : Value) (g : hp), SA NC g 1 R2 → KO g e → Fr h0 g 1 → Ex NC none M_X5_stroke 138 [.ref 0, x0, y0, .int (I (wy : Int)), .int (I (len : Int)), .int (I (c : Int)), .int (I (R1)), w7, w8] [] g Q) : ∀ (n : Nat) (st x y : Int) (K : Nat → Nat) (h : hp), st + n = len → 0 ≤ st → -2 ≤ x ∧ x ≤ 20 ∧ -2 ≤ y ∧ y ≤ 20 → SA NC h 1 K → KI K → KO h e → Fr h0 h 1 → st + (strP c (dxW wy) (dyW wy) n K x y).1 = R1 → (strP c (dxW wy) (dyW wy) n K x y).2 = R2 → Ex NC none M_X5_stroke 53 [.ref 0, x0, y0, .int (I (wy : Int)), .int (I (len : Int)), .int (I (c : Int)), .int (I (st)), .int (I x), .int (I y)] [] h Q := by
  intro n
  induction n with
  | zero =>
    intro st x y K h hst h0t hxy hS hK hW hF hR1 hR2
    refine ax_iload dX5_stroke_53 rfl ?_
    refine ax_iload dX5_stroke_55 rfl ?_
    refine ax_icmp_ge (tgt := 138) dX5_stroke_57 (by decide) (by omega) (by omega) (fun c57 => ?_) (fun c57 => ?_)
    · have r1 : R1 = st := by rw [← hR1]; exact Int.add_zero st
      have r2 : R2 = K := hR2.symm
      have := kk (.int (I x)) (.int (I y)) h (by rw [r2]; exact hS) hW hF
      rw [r1] at this
      exact this
    · exfalso
      omega
  | succ n ih =>
    intro st x y K h hst h0t hxy hS hK hW hF hR1 hR2
    refine ax_iload dX5_stroke_53 rfl ?_
    refine ax_iload dX5_stroke_55 rfl ?_
    refine ax_icmp_ge (tgt := 138) dX5_stroke_57 (by decide) (by omega) (by omega) (fun c57 => ?_) (fun c57 => ?_)
    · exfalso
      omega
    · refine ax_aload_n dX5_stroke_60 rfl ?_
      refine ax_getf dX5_stroke_61 ck5 fl_X5_12 (by decide) (by omega) hW rfl ?_
      refine ax_iload dX5_stroke_64 rfl ?_
      refine ax_iload dX5_stroke_66 rfl ?_
      refine ax_cviP2 dX5_stroke_68 ln_X5_stroke_208 (Nat.le_of_ble_eq_true rfl) (Or.inr rfl) hS.n0 hS.o rfl (sp_holds hS hK (by omega) (by omega)) ?_
      refine ax_if_eq (tgt := 138) dX5_stroke_71 (by decide) (by split <;> omega) (fun c71 => ?_) (fun c71 => ?_)
      · have q : ¬ onZ K x y = true := fun z => by rw [if_pos z] at c71; exact absurd c71 (by decide)
        rw [str_f (fun z => q z.1)] at hR1 hR2
        have r1 : R1 = st := by rw [← hR1]; exact Int.add_zero st
        have r2 : R2 = K := hR2.symm
        have := kk (.int (I x)) (.int (I y)) h (by rw [r2]; exact hS) hW hF
        rw [r1] at this
        exact this
      · have ho : onZ K x y = true := by
          by_cases q : onZ K x y = true
          · exact q
          · rw [if_neg q] at c71; exact absurd rfl c71
        obtain ⟨u, v, rfl, rfl, hu, hv, hl, n0, -⟩ := onZ_nat hK ho
        have s9 := hK.2.2.2.2.2.2.1 (v * K 0 + u) (by omega)
        have hw9 := dw_rg wy
        refine ax_aload_n dX5_stroke_74 rfl ?_
        refine ax_getf dX5_stroke_75 ck5 fl_X5_12 (by decide) (by omega) hW rfl ?_
        refine ax_getf dX5_stroke_78 ck3 fl_X5_139 (by decide) hS.n0 hS.o rfl ?_
        refine ax_aload_n dX5_stroke_81 rfl ?_
        refine ax_getf dX5_stroke_82 ck5 fl_X5_12 (by decide) (by omega) hW rfl ?_
        refine ax_iload dX5_stroke_85 rfl ?_
        refine ax_iload dX5_stroke_87 rfl ?_
        refine ax_cviP2 dX5_stroke_89 ln_X5_stroke_128 (Nat.le_of_ble_eq_true rfl) (Or.inl rfl) hS.n0 hS.o rfl (sp_numberOf hS) ?_
        refine ax_ialr (j := (v * K 0 + u)) (w := (K (434 + (v * K 0 + u)) : Int)) dX5_stroke_92 (hS.n 9 (by omega)) hS.sp (by push_cast; omega) (by omega) (by decide) rfl ?_
        refine ax_if_ne (tgt := 138) dX5_stroke_93 (by decide) (by omega) (fun c93 => ?_) (fun c93 => ?_)
        · rw [str_f (fun z => c93 (by have z2 : K (434 + (v * K 0 + u)) = 0 := z.2; omega))] at hR1 hR2
          have r1 : R1 = st := by rw [← hR1]; exact Int.add_zero st
          have r2 : R2 = K := hR2.symm
          have := kk (.int (I (u : Int))) (.int (I (v : Int))) h (by rw [r2]; exact hS) hW hF
          rw [r1] at this
          exact this
        · refine ax_aload_n dX5_stroke_96 rfl ?_
          refine ax_getf dX5_stroke_97 ck5 fl_X5_12 (by decide) (by omega) hW rfl ?_
          refine ax_iload dX5_stroke_100 rfl ?_
          refine ax_iload dX5_stroke_102 rfl ?_
          refine ax_iload dX5_stroke_104 rfl ?_
          refine ax_bipush dX5_stroke_106 (by decide) ?_
          refine ax_iconst dX5_stroke_108 ?_
          refine ax_cvv5 dX5_stroke_109 ln_X5_stroke_201 (Nat.le_of_ble_eq_true rfl) rfl hS.n0 hS.o rfl (sp_putColour hS hK (x := (u : Int)) (y := (v : Int)) (by omega) (by omega) (c := c) (w := 6) (mi := true)) (fun g2 hq => ?_)
          obtain ⟨hS2, hF2⟩ := hq
          have hW2 : KO g2 e := (hF2 0 (by omega)).trans hW
          refine ax_iinc dX5_stroke_112 rfl rfl (by decide) ?_
          refine ax_iload dX5_stroke_115 rfl ?_
          refine ex_gets (j := 2) (by decide) dX5_stroke_117 ?_
          refine ax_iload_n dX5_stroke_120 rfl ?_
          refine ax_tld (i := wy) (v := I (dxW wy)) dX5_stroke_121 (by omega) (by omega) (by decide) (tab2 hwy) ?_
          refine ax_iadd dX5_stroke_122 ?_
          refine ax_istore dX5_stroke_123 rfl (by decide) ?_
          refine ax_iload dX5_stroke_125 rfl ?_
          refine ex_gets (j := 3) (by decide) dX5_stroke_127 ?_
          refine ax_iload_n dX5_stroke_130 rfl ?_
          refine ax_tld (i := wy) (v := I (dyW wy)) dX5_stroke_131 (by omega) (by omega) (by decide) (tab3 hwy) ?_
          refine ax_iadd dX5_stroke_132 ?_
          refine ax_istore dX5_stroke_133 rfl (by decide) ?_
          refine ax_goto (tgt := 53) dX5_stroke_135 (by decide) ?_
          rw [str_t ⟨ho, by show K (434 + (v * K 0 + u)) = 0; omega⟩] at hR1 hR2
          refine ih (st + 1) ((u : Int) + dxW wy) ((v : Int) + dyW wy) _ g2 (by omega) (by omega) (by have := hK.1; omega) hS2 (hK.pC hc (by omega)) hW2 (hF.tr hF2) ?_ hR2
          rw [← hR1]
          show st + 1 + (strP c (dxW wy) (dyW wy) n (putC K (u : Int) (v : Int) c 6 true) ((u : Int) + dxW wy) ((v : Int) + dyW wy)).1 = st + ((strP c (dxW wy) (dyW wy) n (putC K (u : Int) (v : Int) c 6 true) ((u : Int) + dxW wy) ((v : Int) + dyW wy)).1 + 1)
          omega
theorem sp_stroke (hN : 112 ≤ NC) (hW : KO h e) (hS : SA NC h 1 K) (hK : KI K) (hC : CH NC h H d) {x : Int} (gx : -2147483648 ≤ x ∧ x < 2147483648) {y : Int} (gy : -2147483648 ≤ y ∧ y < 2147483648) {wy len c : Nat} (ho : onZ K x y = true) (hwy : wy ≤ 3) (hlen : 1 ≤ len ∧ len ≤ 15) (hc : 1 ≤ c ∧ c ≤ 6) : Cl NC M_X5_stroke [.ref 0, .int (I x), .int (I y), .int (I (wy : Int)), .int (I (len : Int)), .int (I (c : Int))] h (fun v h1 => v = .int (I (strP c (dxW wy) (dyW wy) len K x y).1) ∧ SA NC h1 1 (strP c (dxW wy) (dyW wy) len K x y).2 ∧ CH NC h1 (psh K H) (min (d + 1) 8) ∧ ∀ b, (b < 1 ∨ 11 ≤ b) → (b < 21 ∨ 103 ≤ b) → h1 b = h b) := by
  obtain ⟨m0, m1, m2, hO, mr⟩ := hC
  have hC : CH NC h H d := ⟨m0, m1, m2, hO, mr⟩
  refine ax_aload_n dX5_stroke_0 rfl ?_
  refine ax_iload_n dX5_stroke_1 rfl ?_
  refine ax_iload_n dX5_stroke_2 rfl ?_
  refine ax_cvvP2 dX5_stroke_3 ln_X5_stroke_124 (Nat.le_of_ble_eq_true rfl) rfl (by omega) hW rfl (sp_cell hN hW hS hK gx gy ho) ?_
  refine ax_iload_n dX5_stroke_6 rfl ?_
  refine ax_iconst dX5_stroke_7 ?_
  refine ex_gets (j := 2) (by decide) dX5_stroke_8 ?_
  refine ax_tlen dX5_stroke_11 (by decide) ?_
  refine ax_iconst dX5_stroke_12 ?_
  refine ax_isub dX5_stroke_13 ?_
  refine ax_csvP3 dX5_stroke_14 ln_X5_stroke_58 (Nat.le_of_ble_eq_true rfl) rfl (sp_range (by omega) (by omega) (by omega) (by omega)) ?_
  refine ax_iload dX5_stroke_17 rfl ?_
  refine ax_iconst dX5_stroke_19 ?_
  refine ax_bipush dX5_stroke_20 (by decide) ?_
  refine ax_csvP3 dX5_stroke_22 ln_X5_stroke_58 (Nat.le_of_ble_eq_true rfl) rfl (sp_range (by omega) (by omega) (by omega) (by omega)) ?_
  refine ax_iload dX5_stroke_25 rfl ?_
  refine ax_iconst dX5_stroke_27 ?_
  refine ax_bipush dX5_stroke_28 (by decide) ?_
  refine ax_csvP3 dX5_stroke_30 ln_X5_stroke_58 (Nat.le_of_ble_eq_true rfl) rfl (sp_range (by omega) (by omega) (by omega) (by omega)) ?_
  refine ax_aload_n dX5_stroke_33 rfl ?_
  refine ax_getf dX5_stroke_34 ck5 fl_X5_22 (by decide) (by omega) hW rfl ?_
  refine ax_aload_n dX5_stroke_37 rfl ?_
  refine ax_getf dX5_stroke_38 ck5 fl_X5_12 (by decide) (by omega) hW rfl ?_
  refine ax_cvv1 dX5_stroke_41 ln_X5_stroke_69 (Nat.le_of_ble_eq_true rfl) rfl (by omega) hO rfl (sp_keep (b := 1) hN (by omega) hS hC) (fun g1 hq => ?_)
  obtain ⟨hC1, hF1⟩ := hq
  have hW1 : KO g1 e := (hF1 0 (by omega)).trans hW
  have hS1 : SA NC g1 1 K := hS.eq (fun a a1 a2 => hF1 a (by omega))
  refine ax_iconst dX5_stroke_44 ?_
  refine ax_istore dX5_stroke_45 rfl (by decide) ?_
  refine ax_iload_n dX5_stroke_47 rfl ?_
  refine ax_istore dX5_stroke_48 rfl (by decide) ?_
  refine ax_iload_n dX5_stroke_50 rfl ?_
  refine ax_istore dX5_stroke_51 rfl (by decide) ?_
  have hz := onZ_nat hK ho
  refine l_stroke (h0 := g1) (R1 := (strP c (dxW wy) (dyW wy) len K x y).1) (R2 := (strP c (dxW wy) (dyW wy) len K x y).2) hN (by omega) (by omega) (by omega) (fun w7 w8 g2 hS2 hW2 hF2 => ?_) len 0 x y K g1 (by omega) (by omega) (by obtain ⟨u, v, rfl, rfl, hu, hv, -⟩ := hz; have := hK.1; omega) hS1 hK hW1 Fr.rf (by omega) rfl
  refine ax_iload dX5_stroke_138 rfl ?_
  exact ax_iret dX5_stroke_140 rfl ⟨rfl, hS2, hC1.eq (fun b b1 b2 => hF2 b (by omega)), fun b b1 b2 => (hF2 b (by omega)).trans (hF1 b b2)⟩
theorem sx_stroke1 (hN : 112 ≤ NC) (hW : KO h e) (hS : SA NC h 1 K) (hK : KI K) {x : Int} (gx : -2147483648 ≤ x ∧ x < 2147483648) {y : Int} (gy : -2147483648 ≤ y ∧ y < 2147483648) {v3 v4 v5 : Value} (ho : ¬ onZ K x y = true) : Ct NC "java/lang/IndexOutOfBoundsException" M_X5_stroke [.ref 0, .int (I x), .int (I y), v3, v4, v5] h (fun _ h1 => h1 = h) := by
  refine ax_aload_n dX5_stroke_0 rfl ?_
  refine ax_iload_n dX5_stroke_1 rfl ?_
  refine ax_iload_n dX5_stroke_2 rfl ?_
  exact ax_cvx2 dX5_stroke_3 ln_X5_stroke_124 (Nat.le_of_ble_eq_true rfl) rfl (by omega) hW rfl (sx_cell hN hW hS hK gx gy ho) (fun h1 q => q)
theorem sx_stroke2 (hN : 112 ≤ NC) (hW : KO h e) (hS : SA NC h 1 K) (hK : KI K) {x : Int} (gx : -2147483648 ≤ x ∧ x < 2147483648) {y : Int} (gy : -2147483648 ≤ y ∧ y < 2147483648) {a : Int} (ga : -2147483648 ≤ a ∧ a < 2147483648) {z : Int} (gz : -2147483648 ≤ z ∧ z < 2147483648) {w : Int} (gw : -2147483648 ≤ w ∧ w < 2147483648) (ho : onZ K x y = true) (hx : ¬ ((0 ≤ a ∧ a ≤ 3) ∧ (1 ≤ z ∧ z ≤ 15) ∧ 1 ≤ w ∧ w ≤ 6)) : Ct NC "java/lang/IllegalArgumentException" M_X5_stroke [.ref 0, .int (I x), .int (I y), .int (I a), .int (I z), .int (I w)] h (fun _ h1 => h1 = h) := by
  refine ax_aload_n dX5_stroke_0 rfl ?_
  refine ax_iload_n dX5_stroke_1 rfl ?_
  refine ax_iload_n dX5_stroke_2 rfl ?_
  refine ax_cvvP2 dX5_stroke_3 ln_X5_stroke_124 (Nat.le_of_ble_eq_true rfl) rfl (by omega) hW rfl (sp_cell hN hW hS hK gx gy ho) ?_
  refine ax_iload_n dX5_stroke_6 rfl ?_
  refine ax_iconst dX5_stroke_7 ?_
  refine ex_gets (j := 2) (by decide) dX5_stroke_8 ?_
  refine ax_tlen dX5_stroke_11 (by decide) ?_
  refine ax_iconst dX5_stroke_12 ?_
  refine ax_isub dX5_stroke_13 ?_
  by_cases q1 : 0 ≤ a ∧ a ≤ 3
  · by_cases q2 : 1 ≤ z ∧ z ≤ 15
    · refine ax_csvP3 dX5_stroke_14 ln_X5_stroke_58 (Nat.le_of_ble_eq_true rfl) rfl (sp_range ga (by omega) (by omega) (by omega)) ?_
      refine ax_iload dX5_stroke_17 rfl ?_
      refine ax_iconst dX5_stroke_19 ?_
      refine ax_bipush dX5_stroke_20 (by decide) ?_
      refine ax_csvP3 dX5_stroke_22 ln_X5_stroke_58 (Nat.le_of_ble_eq_true rfl) rfl (sp_range gz (by omega) (by omega) (by omega)) ?_
      refine ax_iload dX5_stroke_25 rfl ?_
      refine ax_iconst dX5_stroke_27 ?_
      refine ax_bipush dX5_stroke_28 (by decide) ?_
      exact ax_csx3 dX5_stroke_30 ln_X5_stroke_58 (Nat.le_of_ble_eq_true rfl) rfl (sx_range gw (by omega) (by omega) (by omega)) (fun h1 q => q)
    · refine ax_csvP3 dX5_stroke_14 ln_X5_stroke_58 (Nat.le_of_ble_eq_true rfl) rfl (sp_range ga (by omega) (by omega) (by omega)) ?_
      refine ax_iload dX5_stroke_17 rfl ?_
      refine ax_iconst dX5_stroke_19 ?_
      refine ax_bipush dX5_stroke_20 (by decide) ?_
      exact ax_csx3 dX5_stroke_22 ln_X5_stroke_58 (Nat.le_of_ble_eq_true rfl) rfl (sx_range gz (by omega) (by omega) (by omega)) (fun h1 q => q)
  · exact ax_csx3 dX5_stroke_14 ln_X5_stroke_58 (Nat.le_of_ble_eq_true rfl) rfl (sx_range ga (by omega) (by omega) (by omega)) (fun h1 q => q)
theorem l_spar_true (hN : 112 ≤ NC) {len : Nat} {bf : Int} (hlen : len ≤ 15) (kk : ∀ (w6 w7 w8 : Value) (g : hp), SA NC g 1 R2 → KO g e → Fr h0 g 1 → Ex NC none M_X5_spar 118 [.ref 0, x0, y0, .int (I 1), .int (I (len : Int)), .int (I bf), w6, w7, w8] [] g Q) : ∀ (n : Nat) (st x y : Int) (K : Nat → Nat) (h : hp), st + n = len → 0 ≤ st → -2 ≤ x ∧ x ≤ 20 ∧ -2 ≤ y ∧ y ≤ 20 → SA NC h 1 K → KI K → KO h e → Fr h0 h 1 → (spaP (sdx true) (sdy true) n K x y).2 = R2 → Ex NC none M_X5_spar 43 [.ref 0, x0, y0, .int (I 1), .int (I (len : Int)), .int (I bf), .int (I x), .int (I y), .int (I (st))] [] h Q := by
  intro n
  induction n with
  | zero =>
    intro st x y K h hst h0t hxy hS hK hW hF hR2
    refine ax_iload dX5_spar_43 rfl ?_
    refine ax_iload dX5_spar_45 rfl ?_
    refine ax_icmp_ge (tgt := 118) dX5_spar_47 (by decide) (by omega) (by omega) (fun c47 => ?_) (fun c47 => ?_)
    · have r2 : R2 = K := hR2.symm
      exact kk (.int (I x)) (.int (I y)) (.int (I st)) h (by rw [r2]; exact hS) hW hF
    · exfalso
      omega
  | succ n ih =>
    intro st x y K h hst h0t hxy hS hK hW hF hR2
    refine ax_iload dX5_spar_43 rfl ?_
    refine ax_iload dX5_spar_45 rfl ?_
    refine ax_icmp_ge (tgt := 118) dX5_spar_47 (by decide) (by omega) (by omega) (fun c47 => ?_) (fun c47 => ?_)
    · exfalso
      omega
    · refine ax_aload_n dX5_spar_50 rfl ?_
      refine ax_getf dX5_spar_51 ck5 fl_X5_12 (by decide) (by omega) hW rfl ?_
      refine ax_iload dX5_spar_54 rfl ?_
      refine ax_iload dX5_spar_56 rfl ?_
      refine ax_cviP2 dX5_spar_58 ln_X5_spar_208 (Nat.le_of_ble_eq_true rfl) (Or.inr rfl) hS.n0 hS.o rfl (sp_holds hS hK (by omega) (by omega)) ?_
      refine ax_if_eq (tgt := 118) dX5_spar_61 (by decide) (by split <;> omega) (fun c61 => ?_) (fun c61 => ?_)
      · have q : ¬ onZ K x y = true := fun z => by rw [if_pos z] at c61; exact absurd c61 (by decide)
        rw [spa_f q] at hR2
        have r2 : R2 = K := hR2.symm
        exact kk (.int (I x)) (.int (I y)) (.int (I st)) h (by rw [r2]; exact hS) hW hF
      · have ho : onZ K x y = true := by
          by_cases q : onZ K x y = true
          · exact q
          · rw [if_neg q] at c61; exact absurd rfl c61
        obtain ⟨u, v, rfl, rfl, hu, hv, hl, n0, -⟩ := onZ_nat hK ho
        have hon : on K (v * K 0 + u) = true := by rw [on_at hu]; exact ho
        refine ax_aload_n dX5_spar_64 rfl ?_
        refine ax_getf dX5_spar_65 ck5 fl_X5_12 (by decide) (by omega) hW rfl ?_
        refine ax_getf dX5_spar_68 ck3 fl_X5_139 (by decide) hS.n0 hS.o rfl ?_
        refine ax_aload_n dX5_spar_71 rfl ?_
        refine ax_getf dX5_spar_72 ck5 fl_X5_12 (by decide) (by omega) hW rfl ?_
        refine ax_iload dX5_spar_75 rfl ?_
        refine ax_iload dX5_spar_77 rfl ?_
        refine ax_cviP2 dX5_spar_79 ln_X5_spar_128 (Nat.le_of_ble_eq_true rfl) (Or.inl rfl) hS.n0 hS.o rfl (sp_numberOf hS) ?_
        refine ax_iconst dX5_spar_82 ?_
        refine ax_iasr (j := (v * K 0 + u)) dX5_spar_83 (hS.n 9 (by omega)) hS.sp (by push_cast; omega) (by omega) (by decide) (fun e83 he83 => ?_)
        have hS2 := hS.w9 (j := v * K 0 + u) (c := 1) (by omega) he83
        have hF2 : Fr h (va_up h (1 + 9) e83) 1 := Fr.rf.up (by decide)
        generalize va_up h (1 + 9) e83 = g2 at *
        have hW2 : KO g2 e := (hF2 0 (by omega)).trans hW
        refine ax_iload dX5_spar_84 rfl ?_
        refine ax_iload_n dX5_spar_86 rfl ?_
        refine ax_if_eq (tgt := 94) dX5_spar_87 (by decide) (by omega) (fun c87 => ?_) (fun c87 => ?_)
        · exfalso
          omega
        · refine ax_iconst dX5_spar_90 ?_
          refine ax_goto (tgt := 95) dX5_spar_91 (by decide) ?_
          refine ax_iadd dX5_spar_95 ?_
          refine ax_istore dX5_spar_96 rfl (by decide) ?_
          refine ax_iload dX5_spar_98 rfl ?_
          refine ax_iload_n dX5_spar_100 rfl ?_
          refine ax_if_eq (tgt := 108) dX5_spar_101 (by decide) (by omega) (fun c101 => ?_) (fun c101 => ?_)
          · exfalso
            omega
          · refine ax_iconst dX5_spar_104 ?_
            refine ax_goto (tgt := 109) dX5_spar_105 (by decide) ?_
            refine ax_iadd dX5_spar_109 ?_
            refine ax_istore dX5_spar_110 rfl (by decide) ?_
            refine ax_iinc dX5_spar_112 rfl rfl (by decide) ?_
            refine ax_goto (tgt := 43) dX5_spar_115 (by decide) ?_
            rw [spa_t ho] at hR2
            exact ih (st + 1) ((u : Int) + sdx true) ((v : Int) + sdy true) _ g2 (by omega) (by omega) (by have := hK.1; simp only [sdx, sdy]; refine ⟨?_, ?_, ?_, ?_⟩ <;> simp <;> omega) hS2 (hK.upS hl hon (by omega)) hW2 (hF.tr hF2) hR2
theorem l_spar_false (hN : 112 ≤ NC) {len : Nat} {bf : Int} (hlen : len ≤ 15) (kk : ∀ (w6 w7 w8 : Value) (g : hp), SA NC g 1 R2 → KO g e → Fr h0 g 1 → Ex NC none M_X5_spar 118 [.ref 0, x0, y0, .int (I 0), .int (I (len : Int)), .int (I bf), w6, w7, w8] [] g Q) : ∀ (n : Nat) (st x y : Int) (K : Nat → Nat) (h : hp), st + n = len → 0 ≤ st → -2 ≤ x ∧ x ≤ 20 ∧ -2 ≤ y ∧ y ≤ 20 → SA NC h 1 K → KI K → KO h e → Fr h0 h 1 → (spaP (sdx false) (sdy false) n K x y).2 = R2 → Ex NC none M_X5_spar 43 [.ref 0, x0, y0, .int (I 0), .int (I (len : Int)), .int (I bf), .int (I x), .int (I y), .int (I (st))] [] h Q := by
  intro n
  induction n with
  | zero =>
    intro st x y K h hst h0t hxy hS hK hW hF hR2
    refine ax_iload dX5_spar_43 rfl ?_
    refine ax_iload dX5_spar_45 rfl ?_
    refine ax_icmp_ge (tgt := 118) dX5_spar_47 (by decide) (by omega) (by omega) (fun c47 => ?_) (fun c47 => ?_)
    · have r2 : R2 = K := hR2.symm
      exact kk (.int (I x)) (.int (I y)) (.int (I st)) h (by rw [r2]; exact hS) hW hF
    · exfalso
      omega
  | succ n ih =>
    intro st x y K h hst h0t hxy hS hK hW hF hR2
    refine ax_iload dX5_spar_43 rfl ?_
    refine ax_iload dX5_spar_45 rfl ?_
    refine ax_icmp_ge (tgt := 118) dX5_spar_47 (by decide) (by omega) (by omega) (fun c47 => ?_) (fun c47 => ?_)
    · exfalso
      omega
    · refine ax_aload_n dX5_spar_50 rfl ?_
      refine ax_getf dX5_spar_51 ck5 fl_X5_12 (by decide) (by omega) hW rfl ?_
      refine ax_iload dX5_spar_54 rfl ?_
      refine ax_iload dX5_spar_56 rfl ?_
      refine ax_cviP2 dX5_spar_58 ln_X5_spar_208 (Nat.le_of_ble_eq_true rfl) (Or.inr rfl) hS.n0 hS.o rfl (sp_holds hS hK (by omega) (by omega)) ?_
      refine ax_if_eq (tgt := 118) dX5_spar_61 (by decide) (by split <;> omega) (fun c61 => ?_) (fun c61 => ?_)
      · have q : ¬ onZ K x y = true := fun z => by rw [if_pos z] at c61; exact absurd c61 (by decide)
        rw [spa_f q] at hR2
        have r2 : R2 = K := hR2.symm
        exact kk (.int (I x)) (.int (I y)) (.int (I st)) h (by rw [r2]; exact hS) hW hF
      · have ho : onZ K x y = true := by
          by_cases q : onZ K x y = true
          · exact q
          · rw [if_neg q] at c61; exact absurd rfl c61
        obtain ⟨u, v, rfl, rfl, hu, hv, hl, n0, -⟩ := onZ_nat hK ho
        have hon : on K (v * K 0 + u) = true := by rw [on_at hu]; exact ho
        refine ax_aload_n dX5_spar_64 rfl ?_
        refine ax_getf dX5_spar_65 ck5 fl_X5_12 (by decide) (by omega) hW rfl ?_
        refine ax_getf dX5_spar_68 ck3 fl_X5_139 (by decide) hS.n0 hS.o rfl ?_
        refine ax_aload_n dX5_spar_71 rfl ?_
        refine ax_getf dX5_spar_72 ck5 fl_X5_12 (by decide) (by omega) hW rfl ?_
        refine ax_iload dX5_spar_75 rfl ?_
        refine ax_iload dX5_spar_77 rfl ?_
        refine ax_cviP2 dX5_spar_79 ln_X5_spar_128 (Nat.le_of_ble_eq_true rfl) (Or.inl rfl) hS.n0 hS.o rfl (sp_numberOf hS) ?_
        refine ax_iconst dX5_spar_82 ?_
        refine ax_iasr (j := (v * K 0 + u)) dX5_spar_83 (hS.n 9 (by omega)) hS.sp (by push_cast; omega) (by omega) (by decide) (fun e83 he83 => ?_)
        have hS2 := hS.w9 (j := v * K 0 + u) (c := 1) (by omega) he83
        have hF2 : Fr h (va_up h (1 + 9) e83) 1 := Fr.rf.up (by decide)
        generalize va_up h (1 + 9) e83 = g2 at *
        have hW2 : KO g2 e := (hF2 0 (by omega)).trans hW
        refine ax_iload dX5_spar_84 rfl ?_
        refine ax_iload_n dX5_spar_86 rfl ?_
        refine ax_if_eq (tgt := 94) dX5_spar_87 (by decide) (by omega) (fun c87 => ?_) (fun c87 => ?_)
        · refine ax_iconst dX5_spar_94 ?_
          refine ax_iadd dX5_spar_95 ?_
          refine ax_istore dX5_spar_96 rfl (by decide) ?_
          refine ax_iload dX5_spar_98 rfl ?_
          refine ax_iload_n dX5_spar_100 rfl ?_
          refine ax_if_eq (tgt := 108) dX5_spar_101 (by decide) (by omega) (fun c101 => ?_) (fun c101 => ?_)
          · refine ax_iconst dX5_spar_108 ?_
            refine ax_iadd dX5_spar_109 ?_
            refine ax_istore dX5_spar_110 rfl (by decide) ?_
            refine ax_iinc dX5_spar_112 rfl rfl (by decide) ?_
            refine ax_goto (tgt := 43) dX5_spar_115 (by decide) ?_
            rw [spa_t ho] at hR2
            exact ih (st + 1) ((u : Int) + sdx false) ((v : Int) + sdy false) _ g2 (by omega) (by omega) (by have := hK.1; simp only [sdx, sdy]; refine ⟨?_, ?_, ?_, ?_⟩ <;> simp <;> omega) hS2 (hK.upS hl hon (by omega)) hW2 (hF.tr hF2) hR2
          · exfalso
            omega
        · exfalso
          omega
theorem sp_spar_true (hN : 112 ≤ NC) (hW : KO h e) (hS : SA NC h 1 K) (hK : KI K) (hC : CH NC h H d) {x : Int} (gx : -2147483648 ≤ x ∧ x < 2147483648) {y : Int} (gy : -2147483648 ≤ y ∧ y < 2147483648) {len : Nat} (ho : onZ K x y = true) (hlen : 1 ≤ len ∧ len ≤ 15) : Cl NC M_X5_spar [.ref 0, .int (I x), .int (I y), .int (I 1), .int (I (len : Int))] h (fun v h1 => v = .int (I (spaP (sdx true) (sdy true) len K x y).1) ∧ SA NC h1 1 (spaP (sdx true) (sdy true) len K x y).2 ∧ CH NC h1 (psh K H) (min (d + 1) 8) ∧ ∀ b, (b < 1 ∨ 11 ≤ b) → (b < 21 ∨ 103 ≤ b) → h1 b = h b) := by
  obtain ⟨m0, m1, m2, hO, mr⟩ := hC
  have hC : CH NC h H d := ⟨m0, m1, m2, hO, mr⟩
  refine ax_aload_n dX5_spar_0 rfl ?_
  refine ax_iload_n dX5_spar_1 rfl ?_
  refine ax_iload_n dX5_spar_2 rfl ?_
  refine ax_cvvP2 dX5_spar_3 ln_X5_spar_124 (Nat.le_of_ble_eq_true rfl) rfl (by omega) hW rfl (sp_cell hN hW hS hK gx gy ho) ?_
  refine ax_iload dX5_spar_6 rfl ?_
  refine ax_iconst dX5_spar_8 ?_
  refine ax_bipush dX5_spar_9 (by decide) ?_
  refine ax_csvP3 dX5_spar_11 ln_X5_spar_58 (Nat.le_of_ble_eq_true rfl) rfl (sp_range (by omega) (by omega) (by omega) (by omega)) ?_
  refine ax_aload_n dX5_spar_14 rfl ?_
  refine ax_getf dX5_spar_15 ck5 fl_X5_22 (by decide) (by omega) hW rfl ?_
  refine ax_aload_n dX5_spar_18 rfl ?_
  refine ax_getf dX5_spar_19 ck5 fl_X5_12 (by decide) (by omega) hW rfl ?_
  refine ax_cvv1 dX5_spar_22 ln_X5_spar_69 (Nat.le_of_ble_eq_true rfl) rfl (by omega) hO rfl (sp_keep (b := 1) hN (by omega) hS hC) (fun g1 hq => ?_)
  obtain ⟨hC1, hF1⟩ := hq
  have hW1 : KO g1 e := (hF1 0 (by omega)).trans hW
  have hS1 : SA NC g1 1 K := hS.eq (fun a a1 a2 => hF1 a (by omega))
  refine ax_aload_n dX5_spar_25 rfl ?_
  refine ax_getf dX5_spar_26 ck5 fl_X5_12 (by decide) (by omega) hW1 rfl ?_
  refine ax_cviP0 dX5_spar_29 ln_X5_spar_89 (Nat.le_of_ble_eq_true rfl) (Or.inl rfl) hS1.n0 hS1.o rfl (sp_cellsWithSpars hS1 hK) ?_
  refine ax_istore dX5_spar_32 rfl (by decide) ?_
  refine ax_iload_n dX5_spar_34 rfl ?_
  refine ax_istore dX5_spar_35 rfl (by decide) ?_
  refine ax_iload_n dX5_spar_37 rfl ?_
  refine ax_istore dX5_spar_38 rfl (by decide) ?_
  refine ax_iconst dX5_spar_40 ?_
  refine ax_istore dX5_spar_41 rfl (by decide) ?_
  have hz := onZ_nat hK ho
  refine l_spar_true (h0 := g1) (R2 := (spaP (sdx true) (sdy true) len K x y).2) hN (by omega) (fun w6 w7 w8 g2 hS2 hW2 hF2 => ?_) len 0 x y K g1 (by omega) (by omega) (by obtain ⟨u, v, rfl, rfl, hu, hv, -⟩ := hz; have := hK.1; omega) hS1 hK hW1 Fr.rf rfl
  have hs := spa_sum (dx := sdx true) (dy := sdy true) len x y hK
  refine ax_aload_n dX5_spar_118 rfl ?_
  refine ax_getf dX5_spar_119 ck5 fl_X5_12 (by decide) (by omega) hW2 rfl ?_
  refine ax_cviP0 dX5_spar_122 ln_X5_spar_89 (Nat.le_of_ble_eq_true rfl) (Or.inl rfl) hS2.n0 hS2.o rfl (sp_cellsWithSpars hS2 hs.2) ?_
  refine ax_iload dX5_spar_125 rfl ?_
  refine ax_isub dX5_spar_127 ?_
  exact ax_iret dX5_spar_128 rfl ⟨iq (by rw [hs.1]; omega), hS2, hC1.eq (fun b b1 b2 => hF2 b (by omega)), fun b b1 b2 => (hF2 b (by omega)).trans (hF1 b b2)⟩
theorem sp_spar_false (hN : 112 ≤ NC) (hW : KO h e) (hS : SA NC h 1 K) (hK : KI K) (hC : CH NC h H d) {x : Int} (gx : -2147483648 ≤ x ∧ x < 2147483648) {y : Int} (gy : -2147483648 ≤ y ∧ y < 2147483648) {len : Nat} (ho : onZ K x y = true) (hlen : 1 ≤ len ∧ len ≤ 15) : Cl NC M_X5_spar [.ref 0, .int (I x), .int (I y), .int (I 0), .int (I (len : Int))] h (fun v h1 => v = .int (I (spaP (sdx false) (sdy false) len K x y).1) ∧ SA NC h1 1 (spaP (sdx false) (sdy false) len K x y).2 ∧ CH NC h1 (psh K H) (min (d + 1) 8) ∧ ∀ b, (b < 1 ∨ 11 ≤ b) → (b < 21 ∨ 103 ≤ b) → h1 b = h b) := by
  obtain ⟨m0, m1, m2, hO, mr⟩ := hC
  have hC : CH NC h H d := ⟨m0, m1, m2, hO, mr⟩
  refine ax_aload_n dX5_spar_0 rfl ?_
  refine ax_iload_n dX5_spar_1 rfl ?_
  refine ax_iload_n dX5_spar_2 rfl ?_
  refine ax_cvvP2 dX5_spar_3 ln_X5_spar_124 (Nat.le_of_ble_eq_true rfl) rfl (by omega) hW rfl (sp_cell hN hW hS hK gx gy ho) ?_
  refine ax_iload dX5_spar_6 rfl ?_
  refine ax_iconst dX5_spar_8 ?_
  refine ax_bipush dX5_spar_9 (by decide) ?_
  refine ax_csvP3 dX5_spar_11 ln_X5_spar_58 (Nat.le_of_ble_eq_true rfl) rfl (sp_range (by omega) (by omega) (by omega) (by omega)) ?_
  refine ax_aload_n dX5_spar_14 rfl ?_
  refine ax_getf dX5_spar_15 ck5 fl_X5_22 (by decide) (by omega) hW rfl ?_
  refine ax_aload_n dX5_spar_18 rfl ?_
  refine ax_getf dX5_spar_19 ck5 fl_X5_12 (by decide) (by omega) hW rfl ?_
  refine ax_cvv1 dX5_spar_22 ln_X5_spar_69 (Nat.le_of_ble_eq_true rfl) rfl (by omega) hO rfl (sp_keep (b := 1) hN (by omega) hS hC) (fun g1 hq => ?_)
  obtain ⟨hC1, hF1⟩ := hq
  have hW1 : KO g1 e := (hF1 0 (by omega)).trans hW
  have hS1 : SA NC g1 1 K := hS.eq (fun a a1 a2 => hF1 a (by omega))
  refine ax_aload_n dX5_spar_25 rfl ?_
  refine ax_getf dX5_spar_26 ck5 fl_X5_12 (by decide) (by omega) hW1 rfl ?_
  refine ax_cviP0 dX5_spar_29 ln_X5_spar_89 (Nat.le_of_ble_eq_true rfl) (Or.inl rfl) hS1.n0 hS1.o rfl (sp_cellsWithSpars hS1 hK) ?_
  refine ax_istore dX5_spar_32 rfl (by decide) ?_
  refine ax_iload_n dX5_spar_34 rfl ?_
  refine ax_istore dX5_spar_35 rfl (by decide) ?_
  refine ax_iload_n dX5_spar_37 rfl ?_
  refine ax_istore dX5_spar_38 rfl (by decide) ?_
  refine ax_iconst dX5_spar_40 ?_
  refine ax_istore dX5_spar_41 rfl (by decide) ?_
  have hz := onZ_nat hK ho
  refine l_spar_false (h0 := g1) (R2 := (spaP (sdx false) (sdy false) len K x y).2) hN (by omega) (fun w6 w7 w8 g2 hS2 hW2 hF2 => ?_) len 0 x y K g1 (by omega) (by omega) (by obtain ⟨u, v, rfl, rfl, hu, hv, -⟩ := hz; have := hK.1; omega) hS1 hK hW1 Fr.rf rfl
  have hs := spa_sum (dx := sdx false) (dy := sdy false) len x y hK
  refine ax_aload_n dX5_spar_118 rfl ?_
  refine ax_getf dX5_spar_119 ck5 fl_X5_12 (by decide) (by omega) hW2 rfl ?_
  refine ax_cviP0 dX5_spar_122 ln_X5_spar_89 (Nat.le_of_ble_eq_true rfl) (Or.inl rfl) hS2.n0 hS2.o rfl (sp_cellsWithSpars hS2 hs.2) ?_
  refine ax_iload dX5_spar_125 rfl ?_
  refine ax_isub dX5_spar_127 ?_
  exact ax_iret dX5_spar_128 rfl ⟨iq (by rw [hs.1]; omega), hS2, hC1.eq (fun b b1 b2 => hF2 b (by omega)), fun b b1 b2 => (hF2 b (by omega)).trans (hF1 b b2)⟩
theorem sp_spar (hN : 112 ≤ NC) (hW : KO h e) (hS : SA NC h 1 K) (hK : KI K) (hC : CH NC h H d) {x : Int} (gx : -2147483648 ≤ x ∧ x < 2147483648) {y : Int} (gy : -2147483648 ≤ y ∧ y < 2147483648) {len : Nat} {dn : Bool} (ho : onZ K x y = true) (hlen : 1 ≤ len ∧ len ≤ 15) : Cl NC M_X5_spar [.ref 0, .int (I x), .int (I y), .int (I (if dn = true then 1 else 0)), .int (I (len : Int))] h (fun v h1 => v = .int (I (spaP (sdx dn) (sdy dn) len K x y).1) ∧ SA NC h1 1 (spaP (sdx dn) (sdy dn) len K x y).2 ∧ CH NC h1 (psh K H) (min (d + 1) 8) ∧ ∀ b, (b < 1 ∨ 11 ≤ b) → (b < 21 ∨ 103 ≤ b) → h1 b = h b) := by
  cases dn
  · exact sp_spar_false hN hW hS hK hC gx gy ho hlen
  · exact sp_spar_true hN hW hS hK hC gx gy ho hlen
theorem sx_spar1 (hN : 112 ≤ NC) (hW : KO h e) (hS : SA NC h 1 K) (hK : KI K) {x : Int} (gx : -2147483648 ≤ x ∧ x < 2147483648) {y : Int} (gy : -2147483648 ≤ y ∧ y < 2147483648) {v3 v4 : Value} (ho : ¬ onZ K x y = true) : Ct NC "java/lang/IndexOutOfBoundsException" M_X5_spar [.ref 0, .int (I x), .int (I y), v3, v4] h (fun _ h1 => h1 = h) := by
  refine ax_aload_n dX5_spar_0 rfl ?_
  refine ax_iload_n dX5_spar_1 rfl ?_
  refine ax_iload_n dX5_spar_2 rfl ?_
  exact ax_cvx2 dX5_spar_3 ln_X5_spar_124 (Nat.le_of_ble_eq_true rfl) rfl (by omega) hW rfl (sx_cell hN hW hS hK gx gy ho) (fun h1 q => q)
theorem sx_spar2 (hN : 112 ≤ NC) (hW : KO h e) (hS : SA NC h 1 K) (hK : KI K) {x : Int} (gx : -2147483648 ≤ x ∧ x < 2147483648) {y : Int} (gy : -2147483648 ≤ y ∧ y < 2147483648) {a : Int} (ga : -2147483648 ≤ a ∧ a < 2147483648) {v3 : Value} (ho : onZ K x y = true) (hx : ¬ (1 ≤ a ∧ a ≤ 15)) : Ct NC "java/lang/IllegalArgumentException" M_X5_spar [.ref 0, .int (I x), .int (I y), v3, .int (I a)] h (fun _ h1 => h1 = h) := by
  refine ax_aload_n dX5_spar_0 rfl ?_
  refine ax_iload_n dX5_spar_1 rfl ?_
  refine ax_iload_n dX5_spar_2 rfl ?_
  refine ax_cvvP2 dX5_spar_3 ln_X5_spar_124 (Nat.le_of_ble_eq_true rfl) rfl (by omega) hW rfl (sp_cell hN hW hS hK gx gy ho) ?_
  refine ax_iload dX5_spar_6 rfl ?_
  refine ax_iconst dX5_spar_8 ?_
  refine ax_bipush dX5_spar_9 (by decide) ?_
  exact ax_csx3 dX5_spar_11 ln_X5_spar_58 (Nat.le_of_ble_eq_true rfl) rfl (sx_range ga (by omega) (by omega) (by omega)) (fun h1 q => q)
end CS
