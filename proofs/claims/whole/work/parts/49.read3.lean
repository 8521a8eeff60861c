/-! the reference reads: reaches, mixes -/
theorem once_a : ∀ x, x < 8 → ∀ b, b < 3 → (I ((x : Nat) : Int) >>> (I ((b : Nat) : Int) &&& 31)) &&& I 1 = I ((x / 2 ^ b % 2 : Nat) : Int) := by decide
theorem once_o : ∀ x, x < 8 → ∀ b, b < 3 → I ((x : Nat) : Int) ||| (I 1 <<< (I ((b : Nat) : Int) &&& 31)) = I ((if x / 2 ^ b % 2 = 1 then x else x + 2 ^ b : Nat) : Int) := by decide
def DR (h : hp) (K : Nat → Nat) : Prop := row 0 (h 115) 746 (fun i => (K i : Int))
def Y3 (h g : hp) : Prop := ∀ a, a ≠ 112 → a ≠ 115 → g a = h a
theorem Y3.tr {h g k : hp} (H1 : Y3 h g) (H2 : Y3 g k) : Y3 h k := fun a h1 h2 => (H2 a h1 h2).trans (H1 a h1 h2)
theorem Y2.w {h g : hp} (H : Y2 h g) : Y3 h g := fun a h1 _ => H a h1
theorem Y3.rf {h : hp} : Y3 h h := fun _ _ _ => rfl
theorem Y3.up {h g : hp} {e : va_E} (H : Y3 h g) : Y3 h (va_up g 115 e) := fun a h1 h2 => (vu_ne h2).trans (H a h1 h2)
def agS (s s1 : Nat → Int) : Prop := s1 0 = s 0 ∧ s1 2 = s 2 ∧ s1 7 = s 7 ∧ s1 12 = s 12
theorem agN.S {s s1 : Nat → Int} (h : agN s s1) : agS s s1 := ⟨h 0 (by decide) (by decide) (by decide) (by decide), h 2 (by decide) (by decide) (by decide) (by decide), h 7 (by decide) (by decide) (by decide) (by decide), h 12 (by decide) (by decide) (by decide) (by decide)⟩
theorem agS.tr {s s1 s2 : Nat → Int} (h : agS s s1) (k : agS s1 s2) : agS s s2 := ⟨k.1.trans h.1, k.2.1.trans h.2.1, k.2.2.1.trans h.2.2.1, k.2.2.2.trans h.2.2.2⟩
theorem st_rp {p : Bool} {s : Nat → Int} {c b e1 a1 : Int} (hc : c < 0 ∧ -1000 ≤ c) (h5 : e1 = if p = true ∧ s 5 = 0 then c else s 5) (h6 : a1 = if p = true ∧ s 5 = 0 then b else s 6) : ST (chk p c b) (s 5) (s 6) e1 a1 (fun _ => p = false) := by
  subst h5; subst h6
  unfold chk
  cases p with
  | true =>
    rw [if_pos rfl]
    have z := ST.no (A := Unit) (c := c) (b := b) (e := s 5) (a := s 6) (G := fun _ => true = false) hc
    by_cases q : s 5 = 0
    · rw [if_pos ⟨rfl, q⟩, if_pos ⟨rfl, q⟩]; rw [if_pos q, if_pos q] at z; exact z
    · rw [if_neg (fun w => q w.2), if_neg (fun w => q w.2)]; rw [if_neg q, if_neg q] at z; exact z
  | false =>
    rw [if_neg (by decide), if_neg (fun w => by cases w.1), if_neg (fun w => by cases w.1)]
    exact ST.ok rfl
theorem rp_k {c : Prop} [Decidable c] {s : Nat → Int} {a b : Int} {k : Nat} (h : k ≠ 5) (h2 : k ≠ 6) : (if c then rep s a b else s) k = s k := by
  split
  · exact repk h h2
  · rfl
section RM
variable {NC : Nat} {h : hp} {s T : Nat → Int} {n p t : Nat} {K : Nat → Nat} {Q : qt}
theorem once_t (hN : 132 ≤ NC) (hO : XO h s) {z : Int} {x b : Nat} (hz : z = 0) (h14 : s 14 = (x : Int)) (hx : x < 8) (hb : b < 3) {w2 : Value} (kk : ∀ g s1, XO g s1 → s1 = upZ s 14 ((if x / 2 ^ b % 2 = 1 then x else x + 2 ^ b : Nat) : Int) → Y2 h g → Q .null g) : Ex NC none M_X6_once 19 [.ref 112, .int (I (b : Int)), w2] [] h Q := by
  refine ax_aload_n dX6_once_19 rfl ?_
  refine ax_dup dX6_once_20 rfl ?_
  refine ax_getf dX6_once_21 ck6 fl_X6_115 (by decide) (by omega) hO rfl ?_
  rw [h14]
  refine ax_iconst dX6_once_24 ?_
  refine ax_iload_n dX6_once_25 rfl ?_
  refine ex_ishl dX6_once_26 ?_
  refine ex_ior dX6_once_27 ?_
  rw [once_o x hx b hb]
  refine ax_putf dX6_once_28 ck6 fl_X6_115 (by decide) (by omega) hO rfl (Or.inl rfl) (Nat.le_of_ble_eq_true rfl) rfl ?_
  generalize hgg1 : va_up h 112 _ = g1
  obtain ⟨s1, hO1, es1⟩ : ∃ rr, XO g1 rr ∧ rr = upZ s 14 ((if x / 2 ^ b % 2 = 1 then x else x + 2 ^ b : Nat) : Int) := ⟨_, by rw [← hgg1]; exact hO.s14, rfl⟩
  have y1 : Y2 h g1 := fun a ha => by rw [← hgg1]; exact (vu_ne ha)
  exact ax_vret dX6_once_31 rfl (kk g1 s1 hO1 es1 y1)
theorem s6_once (hN : 132 ≤ NC) (hO : XO h s) (h5 : -1000 ≤ s 5 ∧ s 5 ≤ 1000) {x b : Nat} (h14 : s 14 = (x : Int)) (hx : x < 8) (hb : b < 3) {st : Int} : Cl NC M_X6_once [.ref 112, .int (I (b : Int)), .int (I st)] h (fun _ h1 => ∃ s1, XO h1 s1 ∧ Y2 h h1 ∧ s1 = upZ (if x / 2 ^ b % 2 = 1 then rep s (-2) st else s) 14 ((if x / 2 ^ b % 2 = 1 then x else x + 2 ^ b : Nat) : Int)) := by
  refine ax_aload_n dX6_once_0 rfl ?_
  refine ax_getf dX6_once_1 ck6 fl_X6_115 (by decide) (by omega) hO rfl ?_
  refine ax_iload_n dX6_once_4 rfl ?_
  rw [h14]
  refine ex_ishr dX6_once_5 ?_
  refine ax_iconst dX6_once_6 ?_
  refine ex_iand dX6_once_7 ?_
  rw [once_a x hx b hb]
  refine ax_iconst dX6_once_8 ?_
  refine ax_icmp_ne (tgt := 19) dX6_once_9 (by decide) (by omega) (by omega) (fun c9 => ?_) (fun c9 => ?_)
  · exact once_t hN hO rfl h14 hx hb (fun g1 s1 hO1 e1 y1 => ⟨s1, hO1, y1, by rw [e1, show (if x / 2 ^ b % 2 = 1 then rep s (-2) st else s) = s from if_neg (by omega)]⟩)
  · refine ax_aload_n dX6_once_12 rfl ?_
    refine ax_bipush dX6_once_13 (by decide) ?_
    refine ax_iload_n dX6_once_15 rfl ?_
    refine ax_cvv2 dX6_once_16 ln_X6_once_99 (Nat.le_of_ble_eq_true rfl) rfl (by omega) hO rfl (s6_report hN hO h5) (fun g1 hq => ?_)
    obtain ⟨hO1, y1⟩ := hq
    exact once_t hN hO1 rfl (by rw [repk (by decide) (by decide)]; exact h14) hx hb (fun g2 s2 hO2 e2 y2 => ⟨s2, hO2, y1.tr y2, by rw [e2, show (if x / 2 ^ b % 2 = 1 then rep s (-2) st else s) = rep s (-2) st from if_pos (by omega)]⟩)
theorem l6_rea (hN : 132 ≤ NC) (hT : TX T) {h0 : hp} (hB0 : BT h0 T) {w1 : Value} {w0 t0 : Nat} (hw : w0 ≤ 15) (ht : t0 ≤ 12) : ∀ (f : Nat) (y : Nat) (g : hp) (s : Nat → Int) (p t : Nat) (K : Nat → Nat), y + f = t0 → K 0 = w0 → K 1 = t0 → XO g s → PX T s n p t → (-1000 ≤ s 5 ∧ s 5 ≤ 1000) → DR g K → Y3 h0 g → (∀ (g1 : hp) (s1 : Nat → Int) (p1 t1 : Nat) (K1 : Nat → Nat), XO g1 s1 → PX T s1 n p1 t1 → agN s s1 → DR g1 K1 → Y3 h0 g1 → ST (reaL T n f y t K) (s 5) (s 6) (s1 5) (s1 6) (fun v => t1 = v.1 ∧ K1 = v.2) → Q .null g1) → Ex NC none M_X6_readReach 22 [.ref 112, w1, .int (I (y : Int))] [] g Q := by
  intro f
  induction f with
  | zero =>
    intro y g s p t K hy hw0 ht0 hO hP h5 hD hY kk
    have hB : BT g T := hB0.mv (hY 113 (by decide) (by decide))
    refine ax_iload_n dX6_readReach_22 rfl ?_
    refine ax_aload_n dX6_readReach_23 rfl ?_
    refine ax_getf dX6_readReach_24 ck6 fl_X6_20 (by decide) (by omega) hO rfl ?_
    refine ax_iconst dX6_readReach_27 ?_
    refine ax_ialr (j := 1) (w := (K 1 : Int)) dX6_readReach_28 (by omega) hD (by omega) (by omega) (by decide) rfl ?_
    refine ax_icmp_ge (tgt := 60) dX6_readReach_29 (by decide) (by omega) (by omega) (fun c29 => ?_) (fun c29 => ?_)
    · have e : y = t0 := by omega
      exact ax_vret dX6_readReach_60 rfl (kk g s p t K hO hP (fun _ _ _ _ _ => rfl) hD hY (ST.ok ⟨rfl, rfl⟩))
    · exfalso
      omega
  | succ f ih =>
    intro y g s p t K hy hw0 ht0 hO hP h5 hD hY kk
    have hB : BT g T := hB0.mv (hY 113 (by decide) (by decide))
    refine ax_iload_n dX6_readReach_22 rfl ?_
    refine ax_aload_n dX6_readReach_23 rfl ?_
    refine ax_getf dX6_readReach_24 ck6 fl_X6_20 (by decide) (by omega) hO rfl ?_
    refine ax_iconst dX6_readReach_27 ?_
    refine ax_ialr (j := 1) (w := (K 1 : Int)) dX6_readReach_28 (by omega) hD (by omega) (by omega) (by decide) rfl ?_
    refine ax_icmp_ge (tgt := 60) dX6_readReach_29 (by decide) (by omega) (by omega) (fun c29 => ?_) (fun c29 => ?_)
    · exfalso
      omega
    · refine ax_aload_n dX6_readReach_32 rfl ?_
      refine ax_getf dX6_readReach_33 ck6 fl_X6_20 (by decide) (by omega) hO rfl ?_
      refine ax_bipush dX6_readReach_36 (by decide) ?_
      refine ax_iload_n dX6_readReach_38 rfl ?_
      refine ax_iadd dX6_readReach_39 ?_
      refine ax_aload_n dX6_readReach_40 rfl ?_
      refine ax_iconst dX6_readReach_41 ?_
      refine ax_aload_n dX6_readReach_42 rfl ?_
      refine ax_getf dX6_readReach_43 ck6 fl_X6_20 (by decide) (by omega) hO rfl ?_
      refine ax_iconst dX6_readReach_46 ?_
      refine ax_ialr (j := 0) (w := (K 0 : Int)) dX6_readReach_47 (by omega) hD (by omega) (by omega) (by decide) rfl ?_
      refine ax_iconst dX6_readReach_48 ?_
      refine ax_idiv dX6_readReach_49 (by omega) (by omega) ?_
      rw [show (K 0 : Int) / 2 = ((K 0 / 2 : Nat) : Int) by omega]
      refine ax_cvi2 dX6_readReach_50 ln_X6_readReach_125 (Nat.le_of_ble_eq_true rfl) (Or.inl rfl) (by omega) hO rfl (s6_number hN hO hT hB hP h5 (by omega)) (fun ret g1 hq => ?_)
      obtain ⟨z1, s1, p1, t1, hv, hz1, hO1, hA1, hP1, y1, bz1, st1⟩ := hq
      cases hv
      obtain ⟨v1, rfl⟩ : ∃ m : Nat, z1 = (m : Int) := ⟨z1.toNat, by omega⟩
      have hB1 : BT g1 T := hB.mv (y1 113 (by decide))
      have h51 := st1.rg h5
      have hD1 : DR g1 K := hD.mv (y1 115 (by decide))
      refine ax_iasr (j := (6 + y)) dX6_readReach_53 (by omega) hD1 (by omega) (by omega) (by decide) (fun e53 he53 => ?_)
      have hD2 : DR (va_up g1 115 e53) (upN K (6 + y) v1) := (he53.mv vu_eq).cong (fun i hi => by unfold upZ upN; split <;> rfl)
      have hO2 : XO (va_up g1 115 e53) s1 := (vu_ne (by decide)).trans hO1
      have hY2 : Y3 h0 (va_up g1 115 e53) := (hY.tr y1.w).up
      generalize va_up g1 115 e53 = g2 at *
      refine ax_iinc dX6_readReach_54 rfl rfl (by decide) ?_
      refine ax_goto (tgt := 22) dX6_readReach_57 (by decide) ?_
      refine ih (y + 1) g2 s1 p1 t1 _ (by omega) (by rw [up_ne (by omega)]; exact hw0) (by rw [up_ne (by omega)]; exact ht0) hO2 hP1 h51 hD2 hY2 (fun g3 s3 p3 t3 K3 hO3 hP3 hA3 hD3 hY3 st3 => ?_)
      refine kk g3 s3 p3 t3 K3 hO3 hP3 (hA1.tr hA3) hD3 hY3 (ST.bnd st1 (fun e => st3.keep e) (fun yy e0 hy => ?_))
      obtain ⟨q1, q2, -⟩ := hy
      rw [← q1, ← q2, Int.toNat_natCast]
      exact st3
theorem s6_readReach (hN : 132 ≤ NC) (hO : XO h s) (hT : TX T) (hB : BT h T) (hP : PX T s n p (sN T n t)) (h5 : -1000 ≤ s 5 ∧ s 5 ≤ 1000) (hD : DR h K) (hK : KI K) {x : Nat} (h14 : s 14 = (x : Int)) (hx : x < 8) (h15 : s 15 = 0 ∨ s 15 = 1) {st : Int} (hst : st = (t : Int)) : Cl NC M_X6_readReach [.ref 112, .int (I st)] h (fun _ h1 => ∃ s1 p1 t1 K1, XO h1 s1 ∧ PX T s1 n p1 t1 ∧ DR h1 K1 ∧ Y3 h h1 ∧ agS s s1 ∧ (s1 14 = ((if x % 2 = 1 then x else x + 1 : Nat) : Int) ∧ s1 15 = s 15) ∧ ST (reaP T n t K ((x % 2 : Nat) : Int) (s 15)) (s 5) (s 6) (s1 5) (s1 6) (fun v => t1 = v.1 ∧ K1 = v.2)) := by
  have k0 := hK.1
  unfold reaP
  rw [← hst]
  refine ax_aload_n dX6_readReach_0 rfl ?_
  refine ax_getf dX6_readReach_1 ck6 fl_X6_118 (by decide) (by omega) hO rfl ?_
  refine ax_if_eq (tgt := 14) dX6_readReach_4 (by decide) (by omega) (fun c4 => ?_) (fun c4 => ?_)
  · refine ax_aload_n dX6_readReach_14 rfl ?_
    refine ax_iconst dX6_readReach_15 ?_
    refine ax_iload_n dX6_readReach_16 rfl ?_
    refine ax_cvv2 dX6_readReach_17 ln_X6_readReach_122 (Nat.le_of_ble_eq_true rfl) rfl (by omega) hO rfl (s6_once hN hO h5 (x := x) (b := 0) (by exact h14) (by omega) (by decide)) (fun g2 hq => ?_)
    refine ax_iconst dX6_readReach_20 ?_
    refine ax_istore_n dX6_readReach_21 rfl (by decide) ?_
    obtain ⟨s2, hO2, y2, e2⟩ := hq
    have sta : ST (chk (decide (((x % 2 : Nat) : Int) = 1 ∨ s 15 = 1)) (-2) st) (s 5) (s 6) (s2 5) (s2 6) (fun _ => decide (((x % 2 : Nat) : Int) = 1 ∨ s 15 = 1) = false) := by
      rw [Nat.pow_zero, Nat.div_one] at e2
      refine st_rp (by decide) ?_ ?_
      · rw [e2]; show (if x % 2 = 1 then rep s (-2) st else s) 5 = _; by_cases q : x % 2 = 1
        · rw [if_pos q, rep5]; by_cases q2 : s 5 = 0; (rw [if_pos q2, if_pos ⟨decide_eq_true (Or.inl (by omega)), q2⟩]); rw [if_neg q2, if_neg (fun w => q2 w.2)]
        · rw [if_neg q, if_neg (fun w => by have := of_decide_eq_true w.1; omega)]
      · rw [e2]; show (if x % 2 = 1 then rep s (-2) st else s) 6 = _; by_cases q : x % 2 = 1
        · rw [if_pos q, rep6]; by_cases q2 : s 5 = 0; (rw [if_pos q2, if_pos ⟨decide_eq_true (Or.inl (by omega)), q2⟩]); rw [if_neg q2, if_neg (fun w => q2 w.2)]
        · rw [if_neg q, if_neg (fun w => by have := of_decide_eq_true w.1; omega)]
    have hAN : agS s s2 ∧ s2 15 = s 15 ∧ s2 3 = s 3 ∧ s2 4 = s 4 ∧ s2 14 = ((if x % 2 = 1 then x else x + 1 : Nat) : Int) := by
      rw [Nat.pow_zero, Nat.div_one] at e2
      rw [e2]
      refine ⟨⟨?_, ?_, ?_, ?_⟩, ?_, ?_, ?_, rfl⟩
      · exact (if_neg (by decide)).trans ((rp_k (by decide) (by decide)))
      · exact (if_neg (by decide)).trans ((rp_k (by decide) (by decide)))
      · exact (if_neg (by decide)).trans ((rp_k (by decide) (by decide)))
      · exact (if_neg (by decide)).trans ((rp_k (by decide) (by decide)))
      · exact (if_neg (by decide)).trans ((rp_k (by decide) (by decide)))
      · exact (if_neg (by decide)).trans ((rp_k (by decide) (by decide)))
      · exact (if_neg (by decide)).trans ((rp_k (by decide) (by decide)))
    refine l6_rea (f := K 1) hN hT (h0 := h) hB (w0 := K 0) (t0 := K 1) (by omega) (by omega) 0 g2 s2 p (sN T n t) K (by omega) rfl rfl hO2 ⟨hP.1, hAN.2.2.1.trans hP.2.1, hAN.2.2.2.1.trans hP.2.2.1, hP.2.2.2.1, hP.2.2.2.2⟩ (sta.rg h5) (hD.mv (y2 115 (by decide))) (Y3.rf.tr y2.w) (fun g3 s3 p3 t3 K3 hO3 hP3 hA3 hD3 hY3 st3 => ?_)
    exact ⟨s3, p3, t3, K3, hO3, hP3, hD3, hY3, hAN.1.tr hA3.S, ⟨(hA3 14 (by decide) (by decide) (by decide) (by decide)).trans hAN.2.2.2.2, (hA3 15 (by decide) (by decide) (by decide) (by decide)).trans hAN.2.1⟩, ST.bnd sta (fun e => st3.keep e) (fun _ _ _ => st3)⟩
  · refine ax_aload_n dX6_readReach_7 rfl ?_
    refine ax_bipush dX6_readReach_8 (by decide) ?_
    refine ax_iload_n dX6_readReach_10 rfl ?_
    refine ax_cvv2 dX6_readReach_11 ln_X6_readReach_99 (Nat.le_of_ble_eq_true rfl) rfl (by omega) hO rfl (s6_report hN hO h5) (fun g1 hq => ?_)
    obtain ⟨hO1, y1⟩ := hq
    refine ax_aload_n dX6_readReach_14 rfl ?_
    refine ax_iconst dX6_readReach_15 ?_
    refine ax_iload_n dX6_readReach_16 rfl ?_
    refine ax_cvv2 dX6_readReach_17 ln_X6_readReach_122 (Nat.le_of_ble_eq_true rfl) rfl (by omega) hO1 rfl (s6_once hN hO1 (by rw [rep5]; split <;> omega) (x := x) (b := 0) (by rw [repk (by decide) (by decide)]; exact h14) (by omega) (by decide)) (fun g2 hq => ?_)
    refine ax_iconst dX6_readReach_20 ?_
    refine ax_istore_n dX6_readReach_21 rfl (by decide) ?_
    obtain ⟨s2, hO2, y2, e2⟩ := hq
    have sta : ST (chk (decide (((x % 2 : Nat) : Int) = 1 ∨ s 15 = 1)) (-2) st) (s 5) (s 6) (s2 5) (s2 6) (fun _ => decide (((x % 2 : Nat) : Int) = 1 ∨ s 15 = 1) = false) := by
      rw [Nat.pow_zero, Nat.div_one] at e2
      have rr : (if x % 2 = 1 then rep (rep s (-2) st) (-2) st else rep s (-2) st) = rep s (-2) st := by
        split
        · rw [show rep (rep s (-2) st) (-2) st = rep s (-2) st from by
            have q : rep s (-2) st 5 ≠ 0 := by rw [rep5]; split <;> omega
            generalize rep s (-2) st = s9 at *
            unfold rep; rw [if_neg q]]
        · rfl
      rw [rr] at e2
      refine st_rp (by decide) ?_ ?_
      · rw [e2]; show rep s (-2) st 5 = _; rw [rep5]; by_cases q2 : s 5 = 0; (rw [if_pos q2, if_pos ⟨decide_eq_true (Or.inr (by omega)), q2⟩]); rw [if_neg q2, if_neg (fun w => q2 w.2)]
      · rw [e2]; show rep s (-2) st 6 = _; rw [rep6]; by_cases q2 : s 5 = 0; (rw [if_pos q2, if_pos ⟨decide_eq_true (Or.inr (by omega)), q2⟩]); rw [if_neg q2, if_neg (fun w => q2 w.2)]
    have hAN : agS s s2 ∧ s2 15 = s 15 ∧ s2 3 = s 3 ∧ s2 4 = s 4 ∧ s2 14 = ((if x % 2 = 1 then x else x + 1 : Nat) : Int) := by
      rw [Nat.pow_zero, Nat.div_one] at e2
      rw [e2]
      refine ⟨⟨?_, ?_, ?_, ?_⟩, ?_, ?_, ?_, rfl⟩
      · exact (if_neg (by decide)).trans ((rp_k (by decide) (by decide)).trans (repk (by decide) (by decide)))
      · exact (if_neg (by decide)).trans ((rp_k (by decide) (by decide)).trans (repk (by decide) (by decide)))
      · exact (if_neg (by decide)).trans ((rp_k (by decide) (by decide)).trans (repk (by decide) (by decide)))
      · exact (if_neg (by decide)).trans ((rp_k (by decide) (by decide)).trans (repk (by decide) (by decide)))
      · exact (if_neg (by decide)).trans ((rp_k (by decide) (by decide)).trans (repk (by decide) (by decide)))
      · exact (if_neg (by decide)).trans ((rp_k (by decide) (by decide)).trans (repk (by decide) (by decide)))
      · exact (if_neg (by decide)).trans ((rp_k (by decide) (by decide)).trans (repk (by decide) (by decide)))
    refine l6_rea (f := K 1) hN hT (h0 := h) hB (w0 := K 0) (t0 := K 1) (by omega) (by omega) 0 g2 s2 p (sN T n t) K (by omega) rfl rfl hO2 ⟨hP.1, hAN.2.2.1.trans hP.2.1, hAN.2.2.2.1.trans hP.2.2.1, hP.2.2.2.1, hP.2.2.2.2⟩ (sta.rg h5) (hD.mv ((y2 115 (by decide)).trans (y1 115 (by decide)))) ((y1.tr y2).w) (fun g3 s3 p3 t3 K3 hO3 hP3 hA3 hD3 hY3 st3 => ?_)
    exact ⟨s3, p3, t3, K3, hO3, hP3, hD3, hY3, hAN.1.tr hA3.S, ⟨(hA3 14 (by decide) (by decide) (by decide) (by decide)).trans hAN.2.2.2.2, (hA3 15 (by decide) (by decide) (by decide) (by decide)).trans hAN.2.1⟩, ST.bnd sta (fun e => st3.keep e) (fun _ _ _ => st3)⟩
end RM
