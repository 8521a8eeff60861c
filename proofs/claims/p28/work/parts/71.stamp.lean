/-! the class: stamp -/
def stQ (O : Nat → Nat) (p : Nat) (x y : Int) (mi : Bool) (l d : Nat) (K : Nat → Nat) : Nat → Nat := if O (616 + 44 * p + (7 * l + d)) = 0 then K else putC K (x + d) (y + l) (O (616 + 44 * p + (7 * l + d))) 4 mi
def stD (O : Nat → Nat) (p : Nat) (x y : Int) (mi : Bool) (l : Nat) (K : Nat → Nat) : Nat → (Nat → Nat)
  | 0 => K
  | d + 1 => stQ O p x y mi l d (stD O p x y mi l K d)
def stL (O : Nat → Nat) (p : Nat) (x y : Int) (mi : Bool) : Nat → (Nat → Nat)
  | 0 => O
  | l + 1 => stD O p x y mi l (stL O p x y mi l) (O (614 + 44 * p))
def stmK (O : Nat → Nat) (p : Nat) (x y : Int) (mi : Bool) : Nat → Nat := stL O p x y mi (O (615 + 44 * p))
theorem putC_hi {K : Nat → Nat} (hK : KI K) {x y : Int} {c w : Nat} {mi : Bool} {j : Nat} (hj : 434 ≤ j) : putC K x y c w mi j = K j := by
  unfold putC
  by_cases q : onZ K x y = true
  · obtain ⟨u, v, rfl, rfl, hu, hv, hl, n0, -⟩ := onZ_nat hK q
    rw [if_pos q]
    have e1 : ((v : Int).toNat * K 0 + (u : Int).toNat) = v * K 0 + u := rfl
    have e2 : ((v : Int).toNat * K 0 + (K 0 - 1 - (u : Int).toNat)) = v * K 0 + (K 0 - 1 - u) := rfl
    have e3 := ci_lt (K := K) (x := K 0 - 1 - u) (y := v) hv (by omega)
    rw [e1, e2]
    unfold setC
    split
    · rw [up_ne (by omega), up_ne (by omega), up_ne (by omega), up_ne (by omega)]
    · rw [up_ne (by omega), up_ne (by omega)]
  · rw [if_neg q]
def okO (O K : Nat → Nat) : Prop := KI K ∧ (∀ j, j < 74 ∨ 434 ≤ j → K j = O j)
theorem okO.st {O K : Nat → Nat} (h : okO O K) {p : Nat} {x y : Int} {mi : Bool} {l d : Nat} (hd : O (616 + 44 * p + (7 * l + d)) ≤ 6) : okO O (stQ O p x y mi l d K) := by
  unfold stQ
  split
  · exact h
  · refine ⟨h.1.pC hd (by omega), fun j hj => ?_⟩
    rcases hj with q | q
    · rw [putC_0 q]; exact h.2 j (Or.inl q)
    · rw [putC_hi h.1 q]; exact h.2 j (Or.inr q)
theorem okO.sd {O K : Nat → Nat} (hO : KI O) (h : okO O K) {p : Nat} (hp : p < 3) {x y : Int} {mi : Bool} {l : Nat} (hl : l < 6) : ∀ d, d ≤ 7 → okO O (stD O p x y mi l K d)
  | 0, _ => h
  | d + 1, hd => (okO.sd hO h hp hl d (by omega)).st ((hO.2.2.2.2.2.2.2.2 p hp).2.2 (7 * l + d) (by omega))
theorem okO.sl {O : Nat → Nat} (hO : KI O) {p : Nat} (hp : p < 3) {x y : Int} {mi : Bool} : ∀ l, l ≤ 6 → okO O (stL O p x y mi l)
  | 0, _ => ⟨hO, fun _ _ => rfl⟩
  | l + 1, hl => okO.sd hO (okO.sl hO hp l (by omega)) hp (by omega) _ (hO.2.2.2.2.2.2.2.2 p hp).1
section CM
variable {NC : Nat} {h : hp} {K KS : Nat → Nat} {H : Nat → Nat → Nat} {d n : Nat} {e : Int} {Q : qt}
variable {h0 : hp}
theorem l_stD (hN : 112 ≤ NC) {O : Nat → Nat} (hO : KI O) {p : Nat} (hp3 : p < 3) {mi : Bool} {x y : Int} (hxy : -1000 ≤ x ∧ x ≤ 1000 ∧ -1000 ≤ y ∧ y ≤ 1000) {l : Nat} (hl : l < 6) (okK : okO O K) (kk : ∀ (w6 w7 : Value) (g : hp), SA NC g 1 (stD O p x y mi l K (O (614 + 44 * p))) → KO g e → Fr h0 g 1 → Ex NC none M_X5_stamp 112 [.ref 0, .int (I (p : Int)), .int (I x), .int (I y), .int (I (if mi = true then 1 else 0)), .int (I (l : Int)), w6, w7] [] g Q) : ∀ (n : Nat) (dg : Nat) (w7 : Value) (h : hp), dg + n = O (614 + 44 * p) → SA NC h 1 (stD O p x y mi l K dg) → KO h e → Fr h0 h 1 → Ex NC none M_X5_stamp 53 [.ref 0, .int (I (p : Int)), .int (I x), .int (I y), .int (I (if mi = true then 1 else 0)), .int (I (l : Int)), .int (I (dg : Int)), w7] [] h Q := by
  have po := hO.2.2.2.2.2.2.2.2 p hp3
  intro n
  induction n with
  | zero =>
    intro dg w7 h hd hS hW hF
    have ok := okK.sd hO hp3 (x := x) (y := y) (mi := mi) hl dg (by omega)
    refine ax_iload dX5_stamp_53 rfl ?_
    refine ax_aload_n dX5_stamp_55 rfl ?_
    refine ax_getf dX5_stamp_56 ck5 fl_X5_12 (by decide) (by omega) hW rfl ?_
    refine ax_getf dX5_stamp_59 ck3 fl_X5_190 (by decide) hS.n0 hS.o rfl ?_
    refine ax_iload_n dX5_stamp_62 rfl ?_
    refine ax_ialr (j := p) (w := (O (614 + 44 * p) : Int)) dX5_stamp_63 (hS.n 5 (by omega)) hS.pd (by omega) (by omega) (by decide) (congrArg Nat.cast (ok.2 (614 + 44 * p) (by omega))) ?_
    refine ax_icmp_ge (tgt := 112) dX5_stamp_64 (by decide) (by omega) (by omega) (fun c64 => ?_) (fun c64 => ?_)
    · have e9 : dg = O (614 + 44 * p) := by omega
      subst e9
      exact kk _ w7 h hS hW hF
    · exfalso
      omega
  | succ n ih =>
    intro dg w7 h hd hS hW hF
    have ok := okK.sd hO hp3 (x := x) (y := y) (mi := mi) hl dg (by omega)
    refine ax_iload dX5_stamp_53 rfl ?_
    refine ax_aload_n dX5_stamp_55 rfl ?_
    refine ax_getf dX5_stamp_56 ck5 fl_X5_12 (by decide) (by omega) hW rfl ?_
    refine ax_getf dX5_stamp_59 ck3 fl_X5_190 (by decide) hS.n0 hS.o rfl ?_
    refine ax_iload_n dX5_stamp_62 rfl ?_
    refine ax_ialr (j := p) (w := (O (614 + 44 * p) : Int)) dX5_stamp_63 (hS.n 5 (by omega)) hS.pd (by omega) (by omega) (by decide) (congrArg Nat.cast (ok.2 (614 + 44 * p) (by omega))) ?_
    refine ax_icmp_ge (tgt := 112) dX5_stamp_64 (by decide) (by omega) (by omega) (fun c64 => ?_) (fun c64 => ?_)
    · exfalso
      omega
    · refine ax_aload_n dX5_stamp_67 rfl ?_
      refine ax_getf dX5_stamp_68 ck5 fl_X5_12 (by decide) (by omega) hW rfl ?_
      refine ax_iload_n dX5_stamp_71 rfl ?_
      refine ax_iload dX5_stamp_72 rfl ?_
      refine ax_iload dX5_stamp_74 rfl ?_
      refine ax_cviP3 dX5_stamp_76 ln_X5_stamp_215 (Nat.le_of_ble_eq_true rfl) (Or.inl rfl) hS.n0 hS.o rfl (sp_patternColour hS ok.1 (p := p) (l := l) (d := dg) hp3 hl (by omega)) ?_
      rw [ok.2 (616 + 44 * p + (7 * l + dg)) (by omega)]
      have o6 := po.2.2 (7 * l + dg) (by omega)
      refine ax_istore dX5_stamp_79 rfl (by decide) ?_
      refine ax_iload dX5_stamp_81 rfl ?_
      refine ax_if_eq (tgt := 106) dX5_stamp_83 (by decide) (by omega) (fun c83 => ?_) (fun c83 => ?_)
      · have e1 : stD O p x y mi l K (dg + 1) = stD O p x y mi l K dg := if_pos (by omega)
        refine ax_iinc dX5_stamp_106 rfl rfl (by decide) ?_
        refine ax_goto (tgt := 53) dX5_stamp_109 (by decide) ?_
        exact ih (dg + 1) _ _ (by omega) (by rw [e1]; exact hS) hW hF
      · refine ax_aload_n dX5_stamp_86 rfl ?_
        refine ax_getf dX5_stamp_87 ck5 fl_X5_12 (by decide) (by omega) hW rfl ?_
        refine ax_iload_n dX5_stamp_90 rfl ?_
        refine ax_iload dX5_stamp_91 rfl ?_
        refine ax_iadd dX5_stamp_93 ?_
        refine ax_iload_n dX5_stamp_94 rfl ?_
        refine ax_iload dX5_stamp_95 rfl ?_
        refine ax_iadd dX5_stamp_97 ?_
        refine ax_iload dX5_stamp_98 rfl ?_
        refine ax_iconst dX5_stamp_100 ?_
        refine ax_iload dX5_stamp_101 rfl ?_
        refine ax_cvv5 dX5_stamp_103 ln_X5_stamp_201 (Nat.le_of_ble_eq_true rfl) rfl hS.n0 hS.o rfl (sp_putColour hS ok.1 (x := x + (dg : Int)) (y := y + (l : Int)) (by omega) (by omega) (c := O (616 + 44 * p + (7 * l + dg))) (w := 4) (mi := mi)) (fun g2 hq => ?_)
        obtain ⟨hS2, hF2⟩ := hq
        have hW2 : KO g2 e := (hF2 0 (by omega)).trans hW
        have e1 : stD O p x y mi l K (dg + 1) = putC (stD O p x y mi l K dg) (x + (dg : Int)) (y + (l : Int)) (O (616 + 44 * p + (7 * l + dg))) 4 mi := if_neg (by omega)
        refine ax_iinc dX5_stamp_106 rfl rfl (by decide) ?_
        refine ax_goto (tgt := 53) dX5_stamp_109 (by decide) ?_
        exact ih (dg + 1) _ _ (by omega) (by rw [e1]; exact hS2) hW2 (hF.tr hF2)
theorem l_stL (hN : 112 ≤ NC) {O : Nat → Nat} (hO : KI O) {p : Nat} (hp3 : p < 3) {mi : Bool} {x y : Int} (hxy : -1000 ≤ x ∧ x ≤ 1000 ∧ -1000 ≤ y ∧ y ≤ 1000) (kk : ∀ (w5 w6 w7 : Value) (g : hp), SA NC g 1 (stmK O p x y mi) → KO g e → Fr h0 g 1 → Ex NC none M_X5_stamp 118 [.ref 0, .int (I (p : Int)), .int (I x), .int (I y), .int (I (if mi = true then 1 else 0)), w5, w6, w7] [] g Q) : ∀ (n : Nat) (l : Nat) (w6 w7 : Value) (h : hp), l + n = O (615 + 44 * p) → SA NC h 1 (stL O p x y mi l) → KO h e → Fr h0 h 1 → Ex NC none M_X5_stamp 36 [.ref 0, .int (I (p : Int)), .int (I x), .int (I y), .int (I (if mi = true then 1 else 0)), .int (I (l : Int)), w6, w7] [] h Q := by
  have po := hO.2.2.2.2.2.2.2.2 p hp3
  intro n
  induction n with
  | zero =>
    intro l w6 w7 h hd hS hW hF
    have ok := okO.sl hO hp3 (x := x) (y := y) (mi := mi) l (by omega)
    refine ax_iload dX5_stamp_36 rfl ?_
    refine ax_aload_n dX5_stamp_38 rfl ?_
    refine ax_getf dX5_stamp_39 ck5 fl_X5_12 (by decide) (by omega) hW rfl ?_
    refine ax_getf dX5_stamp_42 ck3 fl_X5_193 (by decide) hS.n0 hS.o rfl ?_
    refine ax_iload_n dX5_stamp_45 rfl ?_
    refine ax_ialr (j := p) (w := (O (615 + 44 * p) : Int)) dX5_stamp_46 (hS.n 4 (by omega)) hS.pl (by omega) (by omega) (by decide) (congrArg Nat.cast (ok.2 (615 + 44 * p) (by omega))) ?_
    refine ax_icmp_ge (tgt := 118) dX5_stamp_47 (by decide) (by omega) (by omega) (fun c47 => ?_) (fun c47 => ?_)
    · have e9 : l = O (615 + 44 * p) := by omega
      subst e9
      exact kk _ w6 w7 h hS hW hF
    · exfalso
      omega
  | succ n ih =>
    intro l w6 w7 h hd hS hW hF
    have ok := okO.sl hO hp3 (x := x) (y := y) (mi := mi) l (by omega)
    refine ax_iload dX5_stamp_36 rfl ?_
    refine ax_aload_n dX5_stamp_38 rfl ?_
    refine ax_getf dX5_stamp_39 ck5 fl_X5_12 (by decide) (by omega) hW rfl ?_
    refine ax_getf dX5_stamp_42 ck3 fl_X5_193 (by decide) hS.n0 hS.o rfl ?_
    refine ax_iload_n dX5_stamp_45 rfl ?_
    refine ax_ialr (j := p) (w := (O (615 + 44 * p) : Int)) dX5_stamp_46 (hS.n 4 (by omega)) hS.pl (by omega) (by omega) (by decide) (congrArg Nat.cast (ok.2 (615 + 44 * p) (by omega))) ?_
    refine ax_icmp_ge (tgt := 118) dX5_stamp_47 (by decide) (by omega) (by omega) (fun c47 => ?_) (fun c47 => ?_)
    · exfalso
      omega
    · refine ax_iconst dX5_stamp_50 ?_
      refine ax_istore dX5_stamp_51 rfl (by decide) ?_
      refine l_stD (h0 := h0) hN hO hp3 hxy (l := l) (by omega) ok (fun w6 w7 g2 hS2 hW2 hF2 => ?_) (O (614 + 44 * p)) 0 _ h (by omega) hS hW hF
      refine ax_iinc dX5_stamp_112 rfl rfl (by decide) ?_
      refine ax_goto (tgt := 36) dX5_stamp_115 (by decide) ?_
      exact ih (l + 1) _ _ g2 (by omega) hS2 hW2 hF2
theorem sp_stamp (hN : 112 ≤ NC) (hW : KO h e) (hS : SA NC h 1 K) (hK : KI K) (hC : CH NC h H d) (hP : SA NC h 11 KS) {p : Nat} (hp5 : p < K 5) {x : Int} (gx : -2147483648 ≤ x ∧ x < 2147483648) {y : Int} (gy : -2147483648 ≤ y ∧ y < 2147483648) {mi : Bool} (ho : onZ K x y = true) : Cl NC M_X5_stamp [.ref 0, .int (I (p : Int)), .int (I x), .int (I y), .int (I (if mi = true then 1 else 0))] h (fun v h1 => v = .int (I (othC (stmK K p x y mi) K)) ∧ SA NC h1 1 (stmK K p x y mi) ∧ CH NC h1 (psh K H) (min (d + 1) 8) ∧ (∃ K1, SA NC h1 11 K1) ∧ ∀ b, (b < 1 ∨ 21 ≤ b) → (b < 21 ∨ 103 ≤ b) → h1 b = h b) := by
  obtain ⟨m0, m1, m2, hO, mr⟩ := hC
  have hC : CH NC h H d := ⟨m0, m1, m2, hO, mr⟩
  have k0 := hK.1
  refine ax_aload_n dX5_stamp_0 rfl ?_
  refine ax_iload_n dX5_stamp_1 rfl ?_
  refine ax_cvvP1 dX5_stamp_2 ln_X5_stamp_187 (Nat.le_of_ble_eq_true rfl) rfl (by omega) hW rfl (sp_reqPat hN hW hS hK (by omega) (by omega)) ?_
  refine ax_aload_n dX5_stamp_5 rfl ?_
  refine ax_iload_n dX5_stamp_6 rfl ?_
  refine ax_iload_n dX5_stamp_7 rfl ?_
  refine ax_cvvP2 dX5_stamp_8 ln_X5_stamp_124 (Nat.le_of_ble_eq_true rfl) rfl (by omega) hW rfl (sp_cell hN hW hS hK gx gy ho) ?_
  refine ax_aload_n dX5_stamp_11 rfl ?_
  refine ax_getf dX5_stamp_12 ck5 fl_X5_22 (by decide) (by omega) hW rfl ?_
  refine ax_aload_n dX5_stamp_15 rfl ?_
  refine ax_getf dX5_stamp_16 ck5 fl_X5_12 (by decide) (by omega) hW rfl ?_
  refine ax_cvv1 dX5_stamp_19 ln_X5_stamp_69 (Nat.le_of_ble_eq_true rfl) rfl (by omega) hO rfl (sp_keep (b := 1) hN (by omega) hS hC) (fun g1 hq => ?_)
  obtain ⟨hC1, hF1⟩ := hq
  have hW1 : KO g1 e := (hF1 0 (by omega)).trans hW
  have hS1 : SA NC g1 1 K := hS.eq (fun a a1 a2 => hF1 a (by omega))
  have hP1 : SA NC g1 11 KS := hP.eq (fun a a1 a2 => hF1 a (by omega))
  refine ax_aload_n dX5_stamp_22 rfl ?_
  refine ax_getf dX5_stamp_23 ck5 fl_X5_16 (by decide) (by omega) hW1 rfl ?_
  refine ax_aload_n dX5_stamp_26 rfl ?_
  refine ax_getf dX5_stamp_27 ck5 fl_X5_12 (by decide) (by omega) hW1 rfl ?_
  refine ax_cvv1 dX5_stamp_30 ln_X5_stamp_73 (Nat.le_of_ble_eq_true rfl) rfl hP1.n0 hP1.o rfl (sp_copyFrom hP1 hS1 (by omega)) (fun g2 hq => ?_)
  obtain ⟨hP2, hF2⟩ := hq
  have hW2 : KO g2 e := (hF2 0 (by omega)).trans hW1
  have hS2 : SA NC g2 1 K := hS1.eq (fun a a1 a2 => hF2 a (by omega))
  refine ax_iconst dX5_stamp_33 ?_
  refine ax_istore dX5_stamp_34 rfl (by decide) ?_
  have hz := onZ_nat hK ho
  have ok := okO.sl hK (by omega : p < 3) (x := x) (y := y) (mi := mi) (K (615 + 44 * p)) (hK.2.2.2.2.2.2.2.2 p (by omega)).2.1
  refine l_stL (h0 := g2) (e := e) hN hK (by omega) (by obtain ⟨u, v, rfl, rfl, hu, hv, -⟩ := hz; omega) (fun w5 w6 w7 g3 hS3 hW3 hF3 => ?_) (K (615 + 44 * p)) 0 _ _ g2 (by omega) hS2 hW2 Fr.rf
  have hP3 : SA NC g3 11 K := hP2.eq (fun a a1 a2 => hF3 a (by omega))
  refine ax_aload_n dX5_stamp_118 rfl ?_
  refine ax_getf dX5_stamp_119 ck5 fl_X5_12 (by decide) (by omega) hW3 rfl ?_
  refine ax_aload_n dX5_stamp_122 rfl ?_
  refine ax_getf dX5_stamp_123 ck5 fl_X5_16 (by decide) (by omega) hW3 rfl ?_
  refine ax_cviP1 dX5_stamp_126 ln_X5_stamp_219 (Nat.le_of_ble_eq_true rfl) (Or.inl rfl) hS3.n0 hS3.o rfl (sp_cellsOfOtherColour hS3 ok.1 hP3 hK (by unfold nC; rw [show stmK K p x y mi 0 = K 0 from ok.2 0 (by omega), show stmK K p x y mi 1 = K 1 from ok.2 1 (by omega)])) ?_
  exact ax_iret dX5_stamp_129 rfl ⟨rfl, hS3, hC1.eq (fun b b1 b2 => (hF3 b (by omega)).trans (hF2 b (by omega))), ⟨_, hP3⟩, fun b b1 b2 => (hF3 b (by omega)).trans ((hF2 b (by omega)).trans (hF1 b b2))⟩
theorem sx_stamp1 (hN : 112 ≤ NC) (hW : KO h e) (hS : SA NC h 1 K) (hK : KI K) {a : Int} (ga : -2147483648 ≤ a ∧ a < 2147483648) {v2 v3 v4 : Value} (hx : ¬ (0 ≤ a ∧ a < (K 5 : Int))) : Ct NC "java/lang/IndexOutOfBoundsException" M_X5_stamp [.ref 0, .int (I a), v2, v3, v4] h (fun _ h1 => h1 = h) := by
  refine ax_aload_n dX5_stamp_0 rfl ?_
  refine ax_iload_n dX5_stamp_1 rfl ?_
  exact ax_cvx1 dX5_stamp_2 ln_X5_stamp_187 (Nat.le_of_ble_eq_true rfl) rfl (by omega) hW rfl (sx_reqPat hN hW hS hK ga hx) (fun h1 q => q)
theorem sx_stamp2 (hN : 112 ≤ NC) (hW : KO h e) (hS : SA NC h 1 K) (hK : KI K) {a : Int} (ga : -2147483648 ≤ a ∧ a < 2147483648) {x : Int} (gx : -2147483648 ≤ x ∧ x < 2147483648) {y : Int} (gy : -2147483648 ≤ y ∧ y < 2147483648) {v4 : Value} (ha : 0 ≤ a ∧ a < (K 5 : Int)) (ho : ¬ onZ K x y = true) : Ct NC "java/lang/IndexOutOfBoundsException" M_X5_stamp [.ref 0, .int (I a), .int (I x), .int (I y), v4] h (fun _ h1 => h1 = h) := by
  refine ax_aload_n dX5_stamp_0 rfl ?_
  refine ax_iload_n dX5_stamp_1 rfl ?_
  refine ax_cvvP1 dX5_stamp_2 ln_X5_stamp_187 (Nat.le_of_ble_eq_true rfl) rfl (by omega) hW rfl (sp_reqPat hN hW hS hK ga ha) ?_
  refine ax_aload_n dX5_stamp_5 rfl ?_
  refine ax_iload_n dX5_stamp_6 rfl ?_
  refine ax_iload_n dX5_stamp_7 rfl ?_
  exact ax_cvx2 dX5_stamp_8 ln_X5_stamp_124 (Nat.le_of_ble_eq_true rfl) rfl (by omega) hW rfl (sx_cell hN hW hS hK gx gy ho) (fun h1 q => q)
end CM
