/-! the reference reads: a pattern -/
theorem linC_5 {T : Nat → Int} {n s p hi v : Nat} {K : Nat → Nat} : linC T n s p hi (upN K 5 v) = linC T n s p hi K := by
  unfold linC lc1; rw [up_ne (by omega)]
theorem linQ_5 {T : Nat → Int} {s p hi m i v : Nat} {K : Nat → Nat} : linQ (upN K 5 v) p hi m T s i = upN (linQ K p hi m T s i) 5 v := by
  funext j
  unfold linQ upN
  by_cases q : j = 5
  · rw [if_neg (by omega), if_neg (by omega), if_neg (by omega), if_pos q, if_pos q]
  · rw [if_neg q, if_neg q]
theorem lnL_5 {T : Nat → Int} {n p v : Nat} : ∀ {f hi s : Nat} {K : Nat → Nat}, lnL T n p f hi s (upN K 5 v) = bnd (lnL T n p f hi s K) (fun w => .inr (w.1, upN w.2 5 v))
  | 0, hi, s, K => rfl
  | f + 1, hi, s, K => by
    show (if isD T n s = true then bnd (linC T n s p hi (upN K 5 v)) (fun _ => lnL T n p f (hi + 1) (sN T n s) (linQ (upN K 5 v) p hi (lnM T n s) T s (lnM T n s))) else .inr (s, upN K 5 v)) = bnd (if isD T n s = true then bnd (linC T n s p hi K) (fun _ => lnL T n p f (hi + 1) (sN T n s) (linQ K p hi (lnM T n s) T s (lnM T n s))) else .inr (s, K)) _
    by_cases q : isD T n s = true
    · rw [if_pos q, if_pos q, bnd_as, linC_5]
      congr 1
      funext u
      rw [linQ_5, lnL_5]
    · rw [if_neg q, if_neg q]; rfl
theorem lnL_R {T : Nat → Int} {n p f hi t : Nat} {K : Nat → Nat} (h : isD T n t = true) : lnL T n p (f + 1) hi t K = bnd (linR T n t p hi K) (fun v => lnL T n p f (hi + 1) v.1 v.2) := by
  show (if isD T n t = true then _ else _) = _
  unfold linR
  rw [if_pos h, if_pos h, bnd_as]
  rfl
theorem lnL_N {T : Nat → Int} {n p f hi t : Nat} {K : Nat → Nat} (h : ¬ isD T n t = true) : lnL T n p f hi t K = .inr (t, K) := by
  cases f with
  | zero => rfl
  | succ f => show (if isD T n t = true then _ else _) = _; rw [if_neg h]
theorem linR_in {T : Nat → Int} {n t p hi : Nat} {K : Nat → Nat} {v : Nat × (Nat → Nat)} (h : linR T n t p hi K = .inr v) : hi < 6 ∧ lnM T n t ≤ 7 ∧ v.2 = linQ K p hi (lnM T n t) T t (lnM T n t) := by
  unfold linR at h
  by_cases q : isD T n t = true
  · rw [if_pos q] at h
    obtain ⟨_, h1, h2⟩ := bnd_in h
    cases h2
    have l := linC_in h1
    exact ⟨l.2.1, l.1, rfl⟩
  · rw [if_neg q] at h; cases h
section RM
variable {NC : Nat} {h : hp} {s T : Nat → Int} {n p t : Nat} {K : Nat → Nat} {Q : qt}
theorem p6_end (hN : 132 ≤ NC) (hT : TX T) (hO : XO h s) {L : Nat → Nat} (hD : DR h L) {w1 w2 : Value} (kk : ∀ g, XO g s → DR g (upN L 5 (L 5 + 1)) → Y3 h g → Q .null g) : Ex NC none M_X6_readPattern 61 [.ref 112, w1, w2] [] h Q := by
  refine ax_aload_n dX6_readPattern_61 rfl ?_
  refine ax_getf dX6_readPattern_62 ck6 fl_X6_20 (by decide) (by omega) hO rfl ?_
  refine ax_iconst dX6_readPattern_65 ?_
  refine ax_dup2 dX6_readPattern_66 rfl rfl ?_
  refine ax_ialr (j := 5) (w := (L 5 : Int)) dX6_readPattern_67 (by omega) hD (by omega) (by omega) (by decide) rfl ?_
  refine ax_iconst dX6_readPattern_68 ?_
  refine ax_iadd dX6_readPattern_69 ?_
  rw [show (L 5 : Int) + 1 = ((L 5 + 1 : Nat) : Int) by push_cast; rfl]
  refine ax_iasr (j := 5) dX6_readPattern_70 (by omega) hD (by omega) (by omega) (by decide) (fun e70 he70 => ?_)
  exact ax_vret dX6_readPattern_71 rfl (kk _ ((vu_ne (by decide)).trans hO) ((he70.mv vu_eq).cong (fun i hi => by unfold upZ upN; split <;> rfl)) Y3.rf.up)
theorem p6_loop (hN : 132 ≤ NC) (hT : TX T) {h0 : hp} (hB0 : BT h0 T) {pp : Nat} (hp3 : pp < 3) {w1 : Value} : ∀ (f hi : Nat) (g : hp) (s : Nat → Int) (p t : Nat) (K : Nat → Nat), f + 1 + hi = 7 → XO g s → PX T s n p t → s 5 = 0 → DR g K → Y3 h0 g → K (615 + 44 * pp) = hi → K (614 + 44 * pp) ≤ 7 → (∀ g1 s1 p1 t1 K1, XO g1 s1 → PX T s1 n p1 t1 → agN s s1 → DR g1 K1 → Y3 h0 g1 → (s1 5 = 0 → K1 5 = K 5 + 1) → ST (bnd (linR T n t pp hi K) (fun v => lnL T n pp f (hi + 1) v.1 v.2)) (s 5) (s 6) (s1 5) (s1 6) (fun v => t1 = v.1 ∧ K1 = upN v.2 5 (K 5 + 1)) → Q .null g1) → Ex NC none M_X6_readPattern 39 [.ref 112, w1, .int (I ((614 + 44 * pp : Nat) : Int))] [] g Q := by
  intro f
  induction f with
  | zero =>
    intro hi g s p t K hf hO hP g0 hD hY hhi hw7 kk
    have hB : BT g T := hB0.mv (hY 113 (by decide) (by decide))
    refine ax_aload_n dX6_readPattern_39 rfl ?_
    refine ax_iload_n dX6_readPattern_40 rfl ?_
    refine ax_cvv1 dX6_readPattern_41 ln_X6_readPattern_140 (Nat.le_of_ble_eq_true rfl) rfl (by omega) hO rfl (s6_readLine hN hT hO hB hP g0 hD hp3 (by omega) hhi hw7) (fun g1 hq => ?_)
    obtain ⟨s1, p1, t1, K1, hO1, hP1, hA1, hD1, hY1, st1⟩ := hq
    have h51 := st1.rg (by decide)
    rw [← g0] at st1
    have hB1 : BT g1 T := hB.mv (hY1 113 (by decide) (by decide))
    refine ax_aload_n dX6_readPattern_44 rfl ?_
    refine ax_cviP0 dX6_readPattern_45 ln_X6_readPattern_82 (Nat.le_of_ble_eq_true rfl) (Or.inr rfl) (by omega) hO1 rfl (s6_isGood hN hO1 h51) ?_
    refine ax_if_eq (tgt := 61) dX6_readPattern_48 (by decide) (by split <;> omega) (fun c48 => ?_) (fun c48 => ?_)
    · have c : s1 5 ≠ 0 := fun q => by (rw [if_pos q] at c48; omega)
      refine p6_end hN hT hO1 hD1 (fun g2 hO2 hD2 hY2 => kk g2 s1 p1 t1 _ hO2 hP1 hA1 hD2 ((hY.tr hY1).tr hY2) (fun q => absurd q c) ?_)
      exact ST.bnd st1 (fun _ => ⟨rfl, rfl⟩) (fun _ q _ => absurd q c)
    · have c : s1 5 = 0 := by (by_cases q : s1 5 = 0; exact q; rw [if_neg q] at c48; exact absurd rfl c48)
      obtain ⟨v, x1, a1, v1, v2⟩ := st1.inr g0 c
      have li := linR_in x1
      have k5 : K1 5 = K 5 := by rw [v2, li.2.2]; unfold linQ; rw [if_neg (by omega), if_neg (by omega), if_neg (by omega)]
      refine ax_aload_n dX6_readPattern_51 rfl ?_
      refine ax_cvi0 dX6_readPattern_52 ln_X6_readPattern_86 (Nat.le_of_ble_eq_true rfl) (Or.inl rfl) (by omega) hO1 rfl (s6_ahead hN hO1 hT hB1 hP1) (fun ret g2 hq => ?_)
      obtain ⟨hv, s2, hO2, hA2, hP2, y2⟩ := hq
      cases hv
      have cr := chr_rg (k := t1) hT hP2.1
      have f5 : s2 5 = s1 5 := hA2 5 (by decide)
      have f6 : s2 6 = s1 6 := hA2 6 (by decide)
      have hD2 : DR g2 K1 := hD1.mv (y2 115 (by decide))
      refine ax_csiP1 dX6_readPattern_55 ln_X6_readPattern_103 (Nat.le_of_ble_eq_true rfl) (Or.inr rfl) (s6_isDigit (by omega)) ?_
      refine ax_if_ne (tgt := 39) dX6_readPattern_58 (by decide) (by split <;> omega) (fun c58 => ?_) (fun c58 => ?_)
      · exfalso
        have := li.1
        omega
      · have hd : ¬ isD T n t1 = true := fun q => by (rw [if_pos (isD_chr.mp q)] at c58; omega)
        refine p6_end hN hT hO2 hD2 (fun g3 hO3 hD3 hY3 => kk g3 s2 t1 t1 _ hO3 hP2 (hA1.tr hA2.N) hD3 (((hY.tr hY1).tr y2.w).tr hY3) (fun _ => by show upN K1 5 (K1 5 + 1) 5 = _; unfold upN; rw [if_pos rfl, k5]) ?_)
        rw [f5, f6]
        refine ST.bnd st1 (fun _ => ⟨rfl, rfl⟩) (fun y _ hy => ?_)
        rw [← hy.1, ← hy.2, lnL_N hd, k5]
        exact ST.ok ⟨rfl, rfl⟩
  | succ f ih =>
    intro hi g s p t K hf hO hP g0 hD hY hhi hw7 kk
    have hB : BT g T := hB0.mv (hY 113 (by decide) (by decide))
    refine ax_aload_n dX6_readPattern_39 rfl ?_
    refine ax_iload_n dX6_readPattern_40 rfl ?_
    refine ax_cvv1 dX6_readPattern_41 ln_X6_readPattern_140 (Nat.le_of_ble_eq_true rfl) rfl (by omega) hO rfl (s6_readLine hN hT hO hB hP g0 hD hp3 (by omega) hhi hw7) (fun g1 hq => ?_)
    obtain ⟨s1, p1, t1, K1, hO1, hP1, hA1, hD1, hY1, st1⟩ := hq
    have h51 := st1.rg (by decide)
    rw [← g0] at st1
    have hB1 : BT g1 T := hB.mv (hY1 113 (by decide) (by decide))
    refine ax_aload_n dX6_readPattern_44 rfl ?_
    refine ax_cviP0 dX6_readPattern_45 ln_X6_readPattern_82 (Nat.le_of_ble_eq_true rfl) (Or.inr rfl) (by omega) hO1 rfl (s6_isGood hN hO1 h51) ?_
    refine ax_if_eq (tgt := 61) dX6_readPattern_48 (by decide) (by split <;> omega) (fun c48 => ?_) (fun c48 => ?_)
    · have c : s1 5 ≠ 0 := fun q => by (rw [if_pos q] at c48; omega)
      refine p6_end hN hT hO1 hD1 (fun g2 hO2 hD2 hY2 => kk g2 s1 p1 t1 _ hO2 hP1 hA1 hD2 ((hY.tr hY1).tr hY2) (fun q => absurd q c) ?_)
      exact ST.bnd st1 (fun _ => ⟨rfl, rfl⟩) (fun _ q _ => absurd q c)
    · have c : s1 5 = 0 := by (by_cases q : s1 5 = 0; exact q; rw [if_neg q] at c48; exact absurd rfl c48)
      obtain ⟨v, x1, a1, v1, v2⟩ := st1.inr g0 c
      have li := linR_in x1
      have k5 : K1 5 = K 5 := by rw [v2, li.2.2]; unfold linQ; rw [if_neg (by omega), if_neg (by omega), if_neg (by omega)]
      refine ax_aload_n dX6_readPattern_51 rfl ?_
      refine ax_cvi0 dX6_readPattern_52 ln_X6_readPattern_86 (Nat.le_of_ble_eq_true rfl) (Or.inl rfl) (by omega) hO1 rfl (s6_ahead hN hO1 hT hB1 hP1) (fun ret g2 hq => ?_)
      obtain ⟨hv, s2, hO2, hA2, hP2, y2⟩ := hq
      cases hv
      have cr := chr_rg (k := t1) hT hP2.1
      have f5 : s2 5 = s1 5 := hA2 5 (by decide)
      have f6 : s2 6 = s1 6 := hA2 6 (by decide)
      have hD2 : DR g2 K1 := hD1.mv (y2 115 (by decide))
      refine ax_csiP1 dX6_readPattern_55 ln_X6_readPattern_103 (Nat.le_of_ble_eq_true rfl) (Or.inr rfl) (s6_isDigit (by omega)) ?_
      refine ax_if_ne (tgt := 39) dX6_readPattern_58 (by decide) (by split <;> omega) (fun c58 => ?_) (fun c58 => ?_)
      · have hd : isD T n t1 = true := by (by_cases q : 48 ≤ chr T n t1 ∧ chr T n t1 ≤ 57; exact isD_chr.mpr q; rw [if_neg q] at c58; exact absurd rfl c58)
        refine ih (hi + 1) g2 s2 t1 t1 K1 (by omega) hO2 hP2 (f5.trans c) hD2 ((hY.tr hY1).tr y2.w) (by rw [v2, li.2.2]; unfold linQ; rw [if_neg (by omega), if_pos rfl]) (by rw [v2, li.2.2]; unfold linQ; rw [if_pos rfl]; exact li.2.1) (fun g3 s3 p3 t3 K3 hO3 hP3 hA3 hD3 hY3 h35 st3 => kk g3 s3 p3 t3 K3 hO3 hP3 ((hA1.tr hA2.N).tr hA3) hD3 hY3 (fun q => by rw [h35 q, k5]) ?_)
        rw [f5, f6, k5] at st3
        refine ST.bnd st1 (fun e => absurd c e) (fun y _ hy => ?_)
        rw [← hy.1, ← hy.2, lnL_R hd]
        exact st3
      · have hd : ¬ isD T n t1 = true := fun q => by (rw [if_pos (isD_chr.mp q)] at c58; omega)
        refine p6_end hN hT hO2 hD2 (fun g3 hO3 hD3 hY3 => kk g3 s2 t1 t1 _ hO3 hP2 (hA1.tr hA2.N) hD3 (((hY.tr hY1).tr y2.w).tr hY3) (fun _ => by show upN K1 5 (K1 5 + 1) 5 = _; unfold upN; rw [if_pos rfl, k5]) ?_)
        rw [f5, f6]
        refine ST.bnd st1 (fun _ => ⟨rfl, rfl⟩) (fun y _ hy => ?_)
        rw [← hy.1, ← hy.2, lnL_N hd, k5]
        exact ST.ok ⟨rfl, rfl⟩
theorem s6_readPattern (hN : 132 ≤ NC) (hT : TX T) (hO : XO h s) (hB : BT h T) (hP : PX T s n p (sN T n t)) (g0 : s 5 = 0) (hD : DR h K) (hK : KI K) (hKz : ∀ p, p < 3 → K 5 ≤ p → K (615 + 44 * p) = 0 ∧ K (614 + 44 * p) = 0) {st : Int} (hst : st = (t : Int)) : Cl NC M_X6_readPattern [.ref 112, .int (I st)] h (fun _ h1 => ∃ s1 p1 t1 K1, XO h1 s1 ∧ PX T s1 n p1 t1 ∧ DR h1 K1 ∧ Y3 h h1 ∧ agN s s1 ∧ ST (patP T n t K) (s 5) (s 6) (s1 5) (s1 6) (fun v => t1 = v.1 ∧ K1 = v.2)) := by
  have k0 := hK.1
  refine ax_aload_n dX6_readPattern_0 rfl ?_
  refine ax_getf dX6_readPattern_1 ck6 fl_X6_20 (by decide) (by omega) hO rfl ?_
  refine ax_iconst dX6_readPattern_4 ?_
  refine ax_ialr (j := 5) (w := (K 5 : Int)) dX6_readPattern_5 (by omega) hD (by omega) (by omega) (by decide) rfl ?_
  refine ax_iconst dX6_readPattern_6 ?_
  refine ax_icmp_ne (tgt := 17) dX6_readPattern_7 (by decide) (by omega) (by omega) (fun c7 => ?_) (fun c7 => ?_)
  · have c3 : K 5 < 3 := by omega
    refine ax_aload_n dX6_readPattern_17 rfl ?_
    refine ax_cviP0 dX6_readPattern_18 ln_X6_readPattern_82 (Nat.le_of_ble_eq_true rfl) (Or.inr rfl) (by omega) hO rfl (s6_isGood hN hO (by omega)) ?_
    refine ax_if_ne (tgt := 25) dX6_readPattern_21 (by decide) (by split <;> omega) (fun c21 => ?_) (fun c21 => ?_)
    · refine ax_sipush dX6_readPattern_25 (by decide) ?_
      refine ax_bipush dX6_readPattern_28 (by decide) ?_
      refine ax_aload_n dX6_readPattern_30 rfl ?_
      refine ax_getf dX6_readPattern_31 ck6 fl_X6_20 (by decide) (by omega) hO rfl ?_
      refine ax_iconst dX6_readPattern_34 ?_
      refine ax_ialr (j := 5) (w := (K 5 : Int)) dX6_readPattern_35 (by omega) hD (by omega) (by omega) (by decide) rfl ?_
      refine ax_imul dX6_readPattern_36 ?_
      refine ax_iadd dX6_readPattern_37 ?_
      rw [show (614 : Int) + 44 * (K 5 : Int) = ((614 + 44 * K 5 : Nat) : Int) by omega]
      refine ax_istore_n dX6_readPattern_38 rfl (by decide) ?_
      have pz := hKz (K 5) c3 (Nat.le_refl _)
      refine p6_loop hN hT (h0 := h) hB c3 6 0 h s p (sN T n t) K (by omega) hO hP g0 hD Y3.rf pz.1 (by rw [pz.2]; omega) (fun g1 s1 p1 t1 K1 hO1 hP1 hA1 hD1 hY1 _ st1 => ⟨s1, p1, t1, K1, hO1, hP1, hD1, hY1, hA1, ?_⟩)
      unfold patP
      refine ST.bnd (st_rp (s := s) (p := decide (3 ≤ K 5)) (c := -5) (b := (t : Int)) (e1 := s 5) (a1 := s 6) (by decide) (by rw [if_neg (fun w => by have := of_decide_eq_true w.1; omega)]) (by rw [if_neg (fun w => by have := of_decide_eq_true w.1; omega)])) (fun e => absurd g0 e) (fun _ _ _ => ?_)
      by_cases hd : isD T n (sN T n t) = true
      · refine ST.bnd (st_rp (s := s) (p := !isD T n (sN T n t)) (c := -2) (b := ((sN T n t : Nat) : Int)) (e1 := s 5) (a1 := s 6) (by decide) (by rw [if_neg (fun w => by rw [hd] at w; cases w.1)]) (by rw [if_neg (fun w => by rw [hd] at w; cases w.1)])) (fun e => absurd g0 e) (fun _ _ _ => ?_)
        rw [lnL_5, lnL_R hd]
        refine ST.bnd st1 (fun _ => ⟨rfl, rfl⟩) (fun y _ hy => ?_)
        rw [hy.1, hy.2]
        exact ST.ok ⟨rfl, rfl⟩
      · unfold linR at st1
        rw [if_neg hd] at st1
        have st2 : ST (.inl (-2, ((sN T n t : Nat) : Int))) (s 5) (s 6) (s1 5) (s1 6) (fun v : Nat × (Nat → Nat) => t1 = v.1 ∧ K1 = upN v.2 5 (K 5 + 1)) := st1
        unfold chk
        rw [if_pos (by cases e : isD T n (sN T n t) with | true => exact absurd e hd | false => rfl)]
        rcases st2 with q | ⟨q, ⟨c, b, x, y⟩ | ⟨y, x, _⟩⟩
        · exact Or.inl q
        · cases x; exact Or.inr ⟨q, Or.inl ⟨-2, _, rfl, y⟩⟩
        · cases x
    · exfalso
      rw [if_pos g0] at c21
      omega
  · refine ax_aload_n dX6_readPattern_10 rfl ?_
    refine ax_bipush dX6_readPattern_11 (by decide) ?_
    refine ax_iload_n dX6_readPattern_13 rfl ?_
    refine ax_cvv2 dX6_readPattern_14 ln_X6_readPattern_99 (Nat.le_of_ble_eq_true rfl) rfl (by omega) hO rfl (s6_report hN hO (by omega)) (fun g1 hq => ?_)
    obtain ⟨hO1, y1⟩ := hq
    have q5 : rep s (-5) st 5 = -5 := by rw [rep5, if_pos g0]
    have q6 : rep s (-5) st 6 = st := by rw [rep6, if_pos g0]
    refine ax_aload_n dX6_readPattern_17 rfl ?_
    refine ax_cviP0 dX6_readPattern_18 ln_X6_readPattern_82 (Nat.le_of_ble_eq_true rfl) (Or.inr rfl) (by omega) hO1 rfl (s6_isGood hN hO1 (by omega)) ?_
    refine ax_if_ne (tgt := 25) dX6_readPattern_21 (by decide) (by split <;> omega) (fun c21 => ?_) (fun c21 => ?_)
    · exfalso
      rw [if_neg (by omega)] at c21
      exact absurd rfl c21
    · exact ax_vret dX6_readPattern_24 rfl ⟨_, p, sN T n t, K, hO1, hP.rep, hD.mv (y1 115 (by decide)), y1.w, repN, by unfold patP; have c3 : decide (3 ≤ K 5) = true := decide_eq_true (by omega); unfold chk; rw [if_pos c3]; exact Or.inr ⟨g0, Or.inl ⟨-5, t, rfl, by decide, q5, q6.trans hst⟩⟩⟩
end RM
