/-! the class's reader: patterns -/
theorem KI.of2 {K K' : Nat → Nat} (hK : KI K) (h1 : ∀ j, j < 614 → j ≠ 2 → j ≠ 5 → K' j = K j) (h5 : K' 5 ≤ 3) (hp : ∀ p, p < 3 → K' (614 + 44 * p) ≤ 7 ∧ K' (615 + 44 * p) ≤ 6 ∧ ∀ j, j < 42 → K' (616 + 44 * p + j) ≤ 6) : KI K' := by
  have n1 : nC K' = nC K := by unfold nC; rw [h1 0 (by omega) (by omega) (by omega), h1 1 (by omega) (by omega) (by omega)]
  have k0 := hK.1
  have o1 : ∀ i, i < nC K → on K' i = on K i := by
    intro i hi
    have d := div_12 hK hi
    unfold on onZ
    rw [h1 0 (by omega) (by omega) (by omega), h1 1 (by omega) (by omega) (by omega), h1 (6 + ((i / K 0 : Nat) : Int).toNat) (by rw [Int.toNat_natCast]; omega) (by omega) (by omega)]
  refine ⟨?_, fun y hy => ?_, fun c hc => ?_, fun i hi => ?_, fun i hi => ?_, fun i hi => ?_, fun i hi => ?_, fun i hi => ?_, hp⟩
  · rw [h1 0 (by omega) (by omega) (by omega), h1 1 (by omega) (by omega) (by omega), h1 3 (by omega) (by omega) (by omega), h1 4 (by omega) (by omega) (by omega), h1 18 (by omega) (by omega) (by omega)]; omega
  · rw [h1 0 (by omega) (by omega) (by omega), h1 (6 + y) (by omega) (by omega) (by omega)]; exact hK.2.1 y hy
  · rw [h1 (18 + c) (by omega) (by omega) (by omega)]; exact hK.2.2.1 c hc
  · rw [h1 (25 + i) (by omega) (by omega) (by omega)]; exact hK.2.2.2.1 i hi
  · rw [h1 (74 + i) (by omega) (by omega) (by omega)]; exact hK.2.2.2.2.1 i hi
  · rw [h1 (254 + i) (by omega) (by omega) (by omega)]; exact hK.2.2.2.2.2.1 i hi
  · rw [h1 (434 + i) (by omega) (by omega) (by omega)]; exact hK.2.2.2.2.2.2.1 i hi
  · rw [n1, h1 (74 + i) (by omega) (by omega) (by omega), h1 (254 + i) (by omega) (by omega) (by omega), h1 (434 + i) (by omega) (by omega) (by omega)]
    rcases hK.2.2.2.2.2.2.2.1 i hi with z | z
    · left; exact ⟨z.1, by rw [o1 i z.1]; exact z.2⟩
    · right; exact z
/-- the digits of a line: the first one that is no colour -/
def digC (T : Nat → Int) (s : Nat) : Nat → Nat → (Int × Int) ⊕ Unit
  | 0, _ => .inr ()
  | f + 1, k => bnd (chk (decide (54 < T (s + k))) (-3) ((s + k : Nat) : Int)) (fun _ => digC T s f (k + 1))
/-- a line with its first i digits -/
def linQ (K : Nat → Nat) (p hi m : Nat) (T : Nat → Int) (s i : Nat) : Nat → Nat := fun j => if j = 614 + 44 * p then m else if j = 615 + 44 * p then hi + 1 else if 616 + 44 * p + 7 * hi ≤ j ∧ j < 616 + 44 * p + 7 * hi + i then (T (s + (j - (616 + 44 * p + 7 * hi))) - 48).toNat else K j
def lnM (T : Nat → Int) (n s : Nat) : Nat := rn (cD T) n s - s
def lc1 (T : Nat → Int) (n s p hi : Nat) (K : Nat → Nat) : Bool := decide (7 < lnM T n s ∨ (0 < hi ∧ lnM T n s ≠ K (614 + 44 * p)) ∨ 54 < T s)
def linC (T : Nat → Int) (n s p hi : Nat) (K : Nat → Nat) : (Int × Int) ⊕ Unit := bnd (chk (lc1 T n s p hi K) (-3) (s : Int)) (fun _ => bnd (chk (decide (6 ≤ hi)) (-5) (s : Int)) (fun _ => digC T s (lnM T n s) 0))
/-- the lines of the pattern p, at most f -/
def lnL (T : Nat → Int) (n p : Nat) : Nat → Nat → Nat → (Nat → Nat) → (Int × Int) ⊕ (Nat × (Nat → Nat))
  | 0, _, s, K => .inr (s, K)
  | f + 1, hi, s, K => if isD T n s = true then bnd (linC T n s p hi K) (fun _ => lnL T n p f (hi + 1) (sN T n s) (linQ K p hi (lnM T n s) T s (lnM T n s))) else .inr (s, K)
def patP (T : Nat → Int) (n s : Nat) (K : Nat → Nat) : (Int × Int) ⊕ (Nat × (Nat → Nat)) := bnd (chk (decide (3 ≤ K 5)) (-5) (s : Int)) (fun _ => bnd (chk (!isD T n (sN T n s)) (-2) ((sN T n s : Nat) : Int)) (fun _ => lnL T n (K 5) 7 0 (sN T n s) (upN K 5 (K 5 + 1))))
theorem digC_in {T : Nat → Int} {s : Nat} : ∀ {f k : Nat} {u : Unit}, digC T s f k = .inr u → ∀ i, k ≤ i → i < k + f → T (s + i) ≤ 54
  | 0, k, _, _, i, h1, h2 => absurd h2 (by omega)
  | f + 1, k, u, h, i, h1, h2 => by
    have h3 : bnd (chk (decide (54 < T (s + k))) (-3) ((s + k : Nat) : Int)) (fun _ => digC T s f (k + 1)) = .inr u := h
    by_cases q : 54 < T (s + k)
    · unfold chk at h3; rw [if_pos (decide_eq_true q)] at h3; cases h3
    · unfold chk at h3; rw [if_neg (by rw [decide_eq_true_iff]; exact q)] at h3
      by_cases e : i = k
      · rw [e]; omega
      · exact digC_in (f := f) (k := k + 1) (u := u) h3 i (by omega) (by omega)
theorem dig_rg {T : Nat → Int} {n s : Nat} : ∀ i, i < lnM T n s → 48 ≤ T (s + i) ∧ T (s + i) ≤ 57 := fun i hi => by
  unfold lnM at hi
  exact of_decide_eq_true (rn_in (c := cD T) (n := n) (p := s) (k := s + i) (by omega) (by omega)).2
theorem lnM_1 {T : Nat → Int} {n s : Nat} (h : isD T n s = true) : 1 ≤ lnM T n s := by
  unfold lnM; rw [rn_go (isD_iff.mp h)]; have := rn_ge (c := cD T) (n := n) (p := s + 1); omega
theorem lnM_e {T : Nat → Int} {n s : Nat} (h : isD T n s = true) : tE T n s = s + lnM T n s := by
  rw [tE_d h]; unfold lnM; have := rn_ge (c := cD T) (n := n) (p := s); omega
section RD
variable {NC b : Nat} {h : hp} {r T : Nat → Int} {n s : Nat} {K : Nat → Nat} {Q : qt}
theorem ck_d (hN : 112 ≤ NC) (hb : b + 10 ≤ 103) (hT : TX T) {p hi : Nat} (hTr0 : TR h T) (hd : isD T n s = true) : ∀ (f : Nat) (k : Nat) (g : hp) (r : Nat → Int), k + f = lnM T n s → RO g r → TK T n r s → (-1000 ≤ r 6 ∧ r 6 ≤ 1000) → Y1 h g → (∀ (g1 : hp) (r1 : Nat → Int), RO g1 r1 → TK T n r1 s → agF r r1 → Y1 h g1 → ST (digC T s f k) (r 6) (r 7) (r1 6) (r1 7) (fun _ => True) → Q .null g1) → Ex NC none M_X4_checkLine 78 [.ref 110, .ref b, .int (I (p : Int)), .int (I (hi : Int)), .int (I (lnM T n s : Int)), .int (I ((s + k : Nat) : Int))] [] g Q := by
  have le0 := lnM_e hd
  have rl := rn_le (c := cD T) (n := n) (p := s)
  intro f
  induction f with
  | zero =>
    intro k g r hk0 hO hk h6 hY kk
    have hTr : TR g T := hTr0.mv (hY 111 (by decide))
    have hkn := hk.1
    have hks := hk.2.1
    have tl := tE_le (T := T) hk.2.1
    refine ax_iload dX4_checkLine_78 rfl ?_
    refine ax_aload_n dX4_checkLine_80 rfl ?_
    refine ax_getf dX4_checkLine_81 ck4 fl_X4_28 (by decide) (by omega) hO rfl ?_
    rw [hk.2.2.2.2.2, lnM_e hd]
    refine ax_icmp_ge (tgt := 112) dX4_checkLine_84 (by decide) (by omega) (by omega) (fun c84 => ?_) (fun c84 => ?_)
    · have e : k = lnM T n s := by omega
      exact ax_vret dX4_checkLine_112 rfl (kk g r hO hk ⟨rfl, rfl, rfl, rfl, rfl⟩ hY (ST.ok trivial))
    · exfalso
      omega
  | succ f ih =>
    intro k g r hk0 hO hk h6 hY kk
    have hTr : TR g T := hTr0.mv (hY 111 (by decide))
    have hkn := hk.1
    have hks := hk.2.1
    have tl := tE_le (T := T) hk.2.1
    refine ax_iload dX4_checkLine_78 rfl ?_
    refine ax_aload_n dX4_checkLine_80 rfl ?_
    refine ax_getf dX4_checkLine_81 ck4 fl_X4_28 (by decide) (by omega) hO rfl ?_
    rw [hk.2.2.2.2.2, lnM_e hd]
    refine ax_icmp_ge (tgt := 112) dX4_checkLine_84 (by decide) (by omega) (by omega) (fun c84 => ?_) (fun c84 => ?_)
    · exfalso
      omega
    · refine ax_aload_n dX4_checkLine_87 rfl ?_
      refine ax_iload dX4_checkLine_88 rfl ?_
      refine ax_cviP1 dX4_checkLine_90 ln_X4_checkLine_100 (Nat.le_of_ble_eq_true rfl) (Or.inl rfl) (by omega) hO rfl (sp_digitAt hN hO hT hTr (k := s + k) (by omega)) ?_
      have hdk := dig_rg (T := T) (n := n) (s := s) k (by omega)
      rw [show sb (T (s + k)) = T (s + k) from (sb_eq (hT (s + k) (by omega)) (c := T (s + k)) (by omega)).mpr rfl]
      refine ax_bipush dX4_checkLine_93 (by decide) ?_
      refine ax_icmp_le (tgt := 106) dX4_checkLine_95 (by decide) (by omega) (by omega) (fun c95 => ?_) (fun c95 => ?_)
      · refine ax_iinc dX4_checkLine_106 rfl rfl (by decide) ?_
        refine ax_goto (tgt := 78) dX4_checkLine_109 (by decide) ?_
        rw [show ((s + k : Nat) : Int) + 1 = ((s + (k + 1) : Nat) : Int) by push_cast; omega]
        refine ih (k + 1) g r (by omega) hO hk h6 hY (fun g1 r1 hO1 hk1 ha1 hY1 st1 => kk g1 r1 hO1 hk1 ha1 hY1 ?_)
        exact ST.bnd (ST.chk (r := r) (r1 := r) (by decide) (if_neg (by rw [decide_eq_true_iff]; omega)).symm) (fun e => st1.keep e) (fun _ _ _ => st1)
      · refine ax_aload_n dX4_checkLine_98 rfl ?_
        refine ax_bipush dX4_checkLine_99 (by decide) ?_
        refine ax_iload dX4_checkLine_101 rfl ?_
        refine ax_cvv2 dX4_checkLine_103 ln_X4_checkLine_89 (Nat.le_of_ble_eq_true rfl) rfl (by omega) hO rfl (sp_fail hN hO h6) (fun g1 hq => ?_)
        obtain ⟨hO1, y1⟩ := hq
        refine ax_iinc dX4_checkLine_106 rfl rfl (by decide) ?_
        refine ax_goto (tgt := 78) dX4_checkLine_109 (by decide) ?_
        rw [show ((s + k : Nat) : Int) + 1 = ((s + (k + 1) : Nat) : Int) by push_cast; omega]
        have sta : ST (chk (decide (54 < T (s + k))) (-3) ((s + k : Nat) : Int)) (r 6) (r 7) (flr r (-3) ((s + k : Nat) : Int) 6) (flr r (-3) ((s + k : Nat) : Int) 7) (fun _ => decide (54 < T (s + k)) = false) := ST.chk (by decide) (if_pos (decide_eq_true (by omega))).symm
        refine ih (k + 1) g1 _ (by omega) hO1 hk.fl (sta.rg h6) (hY.tr y1) (fun g2 r2 hO2 hk2 ha2 hY2 st2 => kk g2 r2 hO2 hk2 (flrF.tr ha2) hY2 ?_)
        exact ST.bnd sta (fun e => st2.keep e) (fun _ _ _ => st2)
theorem ck_b (hN : 112 ≤ NC) (hb : b + 10 ≤ 103) (hT : TX T) {p hi : Nat} (hTr0 : TR h T) (hd : isD T n s = true) (hO : RO h r) (hk : TK T n r s) (h6 : -1000 ≤ r 6 ∧ r 6 ≤ 1000) (hhi : hi ≤ 6) (kk : ∀ (g1 : hp) (r1 : Nat → Int), RO g1 r1 → TK T n r1 s → agF r r1 → Y1 h g1 → ST (bnd (chk (decide (6 ≤ hi)) (-5) (s : Int)) (fun _ => digC T s (lnM T n s) 0)) (r 6) (r 7) (r1 6) (r1 7) (fun _ => True) → Q .null g1) : Ex NC none M_X4_checkLine 56 [.ref 110, .ref b, .int (I (p : Int)), .int (I (hi : Int)), .int (I (lnM T n s : Int)), .null] [] h Q := by
  refine ax_iload_n dX4_checkLine_56 rfl ?_
  refine ax_bipush dX4_checkLine_57 (by decide) ?_
  refine ax_icmp_lt (tgt := 72) dX4_checkLine_59 (by decide) (by omega) (by omega) (fun c59 => ?_) (fun c59 => ?_)
  · refine ax_aload_n dX4_checkLine_72 rfl ?_
    refine ax_getf dX4_checkLine_73 ck4 fl_X4_66 (by decide) (by omega) hO rfl ?_
    rw [hk.2.2.2.1]
    refine ax_istore dX4_checkLine_76 rfl (by decide) ?_
    have sta : ST (chk (decide (6 ≤ hi)) (-5) (s : Int)) (r 6) (r 7) (r 6) (r 7) (fun _ => decide (6 ≤ hi) = false) := ST.chk (by decide) (if_neg (by rw [decide_eq_true_iff]; omega)).symm
    refine ck_d (h := h) (b := b) hN hb hT hTr0 hd (lnM T n s) 0 h r (by omega) hO hk h6 (fun a ha => rfl) (fun g2 r2 hO2 hk2 ha2 hY2 st2 => kk g2 r2 hO2 hk2 (agF.tr ⟨rfl, rfl, rfl, rfl, rfl⟩ ha2) hY2 ?_)
    exact ST.bnd sta (fun e => st2.keep e) (fun _ _ _ => st2)
  · refine ax_aload_n dX4_checkLine_62 rfl ?_
    refine ax_bipush dX4_checkLine_63 (by decide) ?_
    refine ax_aload_n dX4_checkLine_65 rfl ?_
    refine ax_getf dX4_checkLine_66 ck4 fl_X4_66 (by decide) (by omega) hO rfl ?_
    rw [hk.2.2.2.1]
    refine ax_cvv2 dX4_checkLine_69 ln_X4_checkLine_89 (Nat.le_of_ble_eq_true rfl) rfl (by omega) hO rfl (sp_fail hN hO h6) (fun g1 hq => ?_)
    obtain ⟨hO1, y1⟩ := hq
    refine ax_aload_n dX4_checkLine_72 rfl ?_
    refine ax_getf dX4_checkLine_73 ck4 fl_X4_66 (by decide) (by omega) hO1 rfl ?_
    rw [hk.fl.2.2.2.1]
    refine ax_istore dX4_checkLine_76 rfl (by decide) ?_
    have sta : ST (chk (decide (6 ≤ hi)) (-5) (s : Int)) (r 6) (r 7) (flr r (-5) (s : Int) 6) (flr r (-5) (s : Int) 7) (fun _ => decide (6 ≤ hi) = false) := ST.chk (by decide) (if_pos (decide_eq_true (by omega))).symm
    refine ck_d (h := h) (b := b) hN hb hT hTr0 hd (lnM T n s) 0 g1 _ (by omega) hO1 hk.fl (sta.rg h6) y1 (fun g2 r2 hO2 hk2 ha2 hY2 st2 => kk g2 r2 hO2 hk2 (agF.tr flrF ha2) hY2 ?_)
    exact ST.bnd sta (fun e => st2.keep e) (fun _ _ _ => st2)
theorem sp_checkLine (hN : 112 ≤ NC) (hb : b + 10 ≤ 103) (hT : TX T) {p hi : Nat} (hp : p < 3) (hhi : hi ≤ 6) (hTr0 : TR h T) (hd : isD T n s = true) (hO : RO h r) (hk : TK T n r s) (h6 : -1000 ≤ r 6 ∧ r 6 ≤ 1000) (hS : SA NC h b K) (hw : K (614 + 44 * p) ≤ 7) : Cl NC M_X4_checkLine [.ref 110, .ref b, .int (I (p : Int)), .int (I (hi : Int))] h (fun _ h1 => ∃ r1, RO h1 r1 ∧ TK T n r1 s ∧ agF r r1 ∧ Y1 h h1 ∧ ST (linC T n s p hi K) (r 6) (r 7) (r1 6) (r1 7) (fun _ => True)) := by
  have hkn := hk.1
  have hks := hk.2.1
  have le0 := lnM_e hd
  have l1 := lnM_1 hd
  have tl := tE_le (T := T) hk.2.1
  have ds := isD_iff.mp hd
  refine ax_aload_n dX4_checkLine_0 rfl ?_
  refine ax_getf dX4_checkLine_1 ck4 fl_X4_28 (by decide) (by omega) hO rfl ?_
  refine ax_aload_n dX4_checkLine_4 rfl ?_
  refine ax_getf dX4_checkLine_5 ck4 fl_X4_66 (by decide) (by omega) hO rfl ?_
  rw [hk.2.2.2.2.2, hk.2.2.2.1]
  refine ax_isub dX4_checkLine_8 ?_
  rw [show ((tE T n s : Nat) : Int) - (s : Int) = (lnM T n s : Int) by rw [lnM_e hd]; push_cast; omega]
  refine ax_istore dX4_checkLine_9 rfl (by decide) ?_
  refine ax_iload dX4_checkLine_11 rfl ?_
  refine ax_bipush dX4_checkLine_13 (by decide) ?_
  refine ax_icmp_gt (tgt := 46) dX4_checkLine_15 (by decide) (by omega) (by omega) (fun c15 => ?_) (fun c15 => ?_)
  · refine ax_aload_n dX4_checkLine_46 rfl ?_
    refine ax_bipush dX4_checkLine_47 (by decide) ?_
    refine ax_aload_n dX4_checkLine_49 rfl ?_
    refine ax_getf dX4_checkLine_50 ck4 fl_X4_66 (by decide) (by omega) hO rfl ?_
    rw [hk.2.2.2.1]
    refine ax_cvv2 dX4_checkLine_53 ln_X4_checkLine_89 (Nat.le_of_ble_eq_true rfl) rfl (by omega) hO rfl (sp_fail hN hO h6) (fun g1 hq => ?_)
    obtain ⟨hO1, y1⟩ := hq
    have sta : ST (chk (lc1 T n s p hi K) (-3) (s : Int)) (r 6) (r 7) (flr r (-3) (s : Int) 6) (flr r (-3) (s : Int) 7) (fun _ => lc1 T n s p hi K = false) := ST.chk (by decide) (if_pos (by unfold lc1; rw [decide_eq_true_iff]; omega)).symm
    refine ck_b hN hb hT (h := g1) (hTr0.mv (y1 111 (by decide))) hd hO1 hk.fl (sta.rg h6) hhi (fun g2 r2 hO2 hk2 ha2 hY2 st2 => ⟨r2, hO2, hk2, flrF.tr ha2, y1.tr hY2, ?_⟩)
    exact ST.bnd sta (fun e => st2.keep e) (fun _ _ _ => st2)
  · refine ax_iload_n dX4_checkLine_18 rfl ?_
    refine ax_if_le (tgt := 33) dX4_checkLine_19 (by decide) (by omega) (fun c19 => ?_) (fun c19 => ?_)
    · refine ax_aload_n dX4_checkLine_33 rfl ?_
      refine ax_aload_n dX4_checkLine_34 rfl ?_
      refine ax_getf dX4_checkLine_35 ck4 fl_X4_66 (by decide) (by omega) hO rfl ?_
      rw [hk.2.2.2.1]
      refine ax_cviP1 dX4_checkLine_38 ln_X4_checkLine_100 (Nat.le_of_ble_eq_true rfl) (Or.inl rfl) (by omega) hO rfl (sp_digitAt hN hO hT hTr0 (k := s) (by omega)) ?_
      have hdk := dig_rg (T := T) (n := n) (s := s) 0 (by omega)
      rw [show sb (T s) = T s from (sb_eq (hT s (by omega)) (c := T s) (by have := hdk; simp at this; omega)).mpr rfl]
      refine ax_bipush dX4_checkLine_41 (by decide) ?_
      refine ax_icmp_le (tgt := 56) dX4_checkLine_43 (by decide) (by simp at hdk; omega) (by omega) (fun c43 => ?_) (fun c43 => ?_)
      · have sta : ST (chk (lc1 T n s p hi K) (-3) (s : Int)) (r 6) (r 7) (r 6) (r 7) (fun _ => lc1 T n s p hi K = false) := ST.chk (by decide) (if_neg (by unfold lc1; rw [decide_eq_true_iff]; omega)).symm
        refine ck_b hN hb hT hTr0 hd hO hk h6 hhi (fun g2 r2 hO2 hk2 ha2 hY2 st2 => ⟨r2, hO2, hk2, ha2, hY2, ?_⟩)
        exact ST.bnd sta (fun e => st2.keep e) (fun _ _ _ => st2)
      · refine ax_aload_n dX4_checkLine_46 rfl ?_
        refine ax_bipush dX4_checkLine_47 (by decide) ?_
        refine ax_aload_n dX4_checkLine_49 rfl ?_
        refine ax_getf dX4_checkLine_50 ck4 fl_X4_66 (by decide) (by omega) hO rfl ?_
        rw [hk.2.2.2.1]
        refine ax_cvv2 dX4_checkLine_53 ln_X4_checkLine_89 (Nat.le_of_ble_eq_true rfl) rfl (by omega) hO rfl (sp_fail hN hO h6) (fun g1 hq => ?_)
        obtain ⟨hO1, y1⟩ := hq
        have sta : ST (chk (lc1 T n s p hi K) (-3) (s : Int)) (r 6) (r 7) (flr r (-3) (s : Int) 6) (flr r (-3) (s : Int) 7) (fun _ => lc1 T n s p hi K = false) := ST.chk (by decide) (if_pos (by unfold lc1; rw [decide_eq_true_iff]; omega)).symm
        refine ck_b hN hb hT (h := g1) (hTr0.mv (y1 111 (by decide))) hd hO1 hk.fl (sta.rg h6) hhi (fun g2 r2 hO2 hk2 ha2 hY2 st2 => ⟨r2, hO2, hk2, flrF.tr ha2, y1.tr hY2, ?_⟩)
        exact ST.bnd sta (fun e => st2.keep e) (fun _ _ _ => st2)
    · refine ax_iload dX4_checkLine_22 rfl ?_
      refine ax_aload_n dX4_checkLine_24 rfl ?_
      refine ax_getf dX4_checkLine_25 ck3 fl_X4_198 (by decide) hS.n0 hS.o rfl ?_
      refine ax_iload_n dX4_checkLine_28 rfl ?_
      refine ax_ialr (j := p) (w := (K (614 + 44 * p) : Int)) dX4_checkLine_29 (hS.n 5 (by omega)) hS.pd (by omega) (by omega) (by decide) rfl ?_
      refine ax_icmp_ne (tgt := 46) dX4_checkLine_30 (by decide) (by omega) (by omega) (fun c30 => ?_) (fun c30 => ?_)
      · refine ax_aload_n dX4_checkLine_46 rfl ?_
        refine ax_bipush dX4_checkLine_47 (by decide) ?_
        refine ax_aload_n dX4_checkLine_49 rfl ?_
        refine ax_getf dX4_checkLine_50 ck4 fl_X4_66 (by decide) (by omega) hO rfl ?_
        rw [hk.2.2.2.1]
        refine ax_cvv2 dX4_checkLine_53 ln_X4_checkLine_89 (Nat.le_of_ble_eq_true rfl) rfl (by omega) hO rfl (sp_fail hN hO h6) (fun g1 hq => ?_)
        obtain ⟨hO1, y1⟩ := hq
        have sta : ST (chk (lc1 T n s p hi K) (-3) (s : Int)) (r 6) (r 7) (flr r (-3) (s : Int) 6) (flr r (-3) (s : Int) 7) (fun _ => lc1 T n s p hi K = false) := ST.chk (by decide) (if_pos (by unfold lc1; rw [decide_eq_true_iff]; omega)).symm
        refine ck_b hN hb hT (h := g1) (hTr0.mv (y1 111 (by decide))) hd hO1 hk.fl (sta.rg h6) hhi (fun g2 r2 hO2 hk2 ha2 hY2 st2 => ⟨r2, hO2, hk2, flrF.tr ha2, y1.tr hY2, ?_⟩)
        exact ST.bnd sta (fun e => st2.keep e) (fun _ _ _ => st2)
      · refine ax_aload_n dX4_checkLine_33 rfl ?_
        refine ax_aload_n dX4_checkLine_34 rfl ?_
        refine ax_getf dX4_checkLine_35 ck4 fl_X4_66 (by decide) (by omega) hO rfl ?_
        rw [hk.2.2.2.1]
        refine ax_cviP1 dX4_checkLine_38 ln_X4_checkLine_100 (Nat.le_of_ble_eq_true rfl) (Or.inl rfl) (by omega) hO rfl (sp_digitAt hN hO hT hTr0 (k := s) (by omega)) ?_
        have hdk := dig_rg (T := T) (n := n) (s := s) 0 (by omega)
        rw [show sb (T s) = T s from (sb_eq (hT s (by omega)) (c := T s) (by have := hdk; simp at this; omega)).mpr rfl]
        refine ax_bipush dX4_checkLine_41 (by decide) ?_
        refine ax_icmp_le (tgt := 56) dX4_checkLine_43 (by decide) (by simp at hdk; omega) (by omega) (fun c43 => ?_) (fun c43 => ?_)
        · have sta : ST (chk (lc1 T n s p hi K) (-3) (s : Int)) (r 6) (r 7) (r 6) (r 7) (fun _ => lc1 T n s p hi K = false) := ST.chk (by decide) (if_neg (by unfold lc1; rw [decide_eq_true_iff]; omega)).symm
          refine ck_b hN hb hT hTr0 hd hO hk h6 hhi (fun g2 r2 hO2 hk2 ha2 hY2 st2 => ⟨r2, hO2, hk2, ha2, hY2, ?_⟩)
          exact ST.bnd sta (fun e => st2.keep e) (fun _ _ _ => st2)
        · refine ax_aload_n dX4_checkLine_46 rfl ?_
          refine ax_bipush dX4_checkLine_47 (by decide) ?_
          refine ax_aload_n dX4_checkLine_49 rfl ?_
          refine ax_getf dX4_checkLine_50 ck4 fl_X4_66 (by decide) (by omega) hO rfl ?_
          rw [hk.2.2.2.1]
          refine ax_cvv2 dX4_checkLine_53 ln_X4_checkLine_89 (Nat.le_of_ble_eq_true rfl) rfl (by omega) hO rfl (sp_fail hN hO h6) (fun g1 hq => ?_)
          obtain ⟨hO1, y1⟩ := hq
          have sta : ST (chk (lc1 T n s p hi K) (-3) (s : Int)) (r 6) (r 7) (flr r (-3) (s : Int) 6) (flr r (-3) (s : Int) 7) (fun _ => lc1 T n s p hi K = false) := ST.chk (by decide) (if_pos (by unfold lc1; rw [decide_eq_true_iff]; omega)).symm
          refine ck_b hN hb hT (h := g1) (hTr0.mv (y1 111 (by decide))) hd hO1 hk.fl (sta.rg h6) hhi (fun g2 r2 hO2 hk2 ha2 hY2 st2 => ⟨r2, hO2, hk2, flrF.tr ha2, y1.tr hY2, ?_⟩)
          exact ST.bnd sta (fun e => st2.keep e) (fun _ _ _ => st2)
theorem lin_st {p hi m i : Nat} {T : Nat → Int} {s : Nat} {K : Nat → Nat} (hp : p < 3) (hhi : hi < 6) (hi7 : i < 7) : upN (linQ K p hi m T s i) (616 + 44 * p + (7 * hi + i)) (T (s + i) - 48).toNat = linQ K p hi m T s (i + 1) := by
  funext j
  unfold upN linQ
  by_cases q : j = 616 + 44 * p + (7 * hi + i)
  · rw [if_pos q, if_neg (by omega), if_neg (by omega), if_pos (by omega), show s + (j - (616 + 44 * p + 7 * hi)) = s + i by omega]
  · rw [if_neg q]
    by_cases q1 : j = 614 + 44 * p
    · rw [if_pos q1, if_pos q1]
    · rw [if_neg q1, if_neg q1]
      by_cases q2 : j = 615 + 44 * p
      · rw [if_pos q2, if_pos q2]
      · rw [if_neg q2, if_neg q2]
        by_cases q3 : 616 + 44 * p + 7 * hi ≤ j ∧ j < 616 + 44 * p + 7 * hi + i
        · rw [if_pos q3, if_pos (by omega)]
        · rw [if_neg q3, if_neg (by omega)]
theorem lin_0 {p hi m : Nat} {T : Nat → Int} {s : Nat} {K : Nat → Nat} : upN (upN K (614 + 44 * p) m) (615 + 44 * p) (hi + 1) = linQ K p hi m T s 0 := by
  funext j
  unfold upN linQ
  by_cases q2 : j = 615 + 44 * p
  · rw [if_pos q2, if_neg (by omega), if_pos q2]
  · rw [if_neg q2]
    by_cases q1 : j = 614 + 44 * p
    · rw [if_pos q1, if_pos q1]
    · rw [if_neg q1, if_neg q1, if_neg q2, if_neg (by omega)]
theorem l_take (hN : 112 ≤ NC) (hb : b + 10 ≤ 103) (hT : TX T) {p hi : Nat} (hp3 : p < 3) (hhi : hi < 6) (hTr0 : TR h T) (hd : isD T n s = true) (hm : lnM T n s ≤ 7) (hO0 : RO h r) (hk : TK T n r s) (kk : ∀ g, SW NC h g b (linQ K p hi (lnM T n s) T s (lnM T n s)) → Q .null g) : ∀ (f : Nat) (i : Nat) (g : hp), i + f = lnM T n s → SW NC h g b (linQ K p hi (lnM T n s) T s i) → Ex NC none M_X4_takeLine 31 [.ref 110, .ref b, .int (I (p : Int)), .int (I (hi : Int)), .int (I (lnM T n s : Int)), .int (I (i : Int))] [] g Q := by
  have hkn := hk.1
  have hks := hk.2.1
  have tl := tE_le (T := T) hk.2.1
  have le0 := lnM_e hd
  intro f
  induction f with
  | zero =>
    intro i g hi0 hW
    have hS := hW.1
    have hO : RO g r := (hW.2 110 (by omega)).trans hO0
    have hTr : TR g T := hTr0.mv (hW.2 111 (by omega))
    refine ax_iload dX4_takeLine_31 rfl ?_
    refine ax_iload dX4_takeLine_33 rfl ?_
    refine ax_icmp_ge (tgt := 63) dX4_takeLine_35 (by decide) (by omega) (by omega) (fun c35 => ?_) (fun c35 => ?_)
    · have e : i = lnM T n s := by omega
      subst e
      exact ax_vret dX4_takeLine_63 rfl (kk g hW)
    · exfalso
      omega
  | succ f ih =>
    intro i g hi0 hW
    have hS := hW.1
    have hO : RO g r := (hW.2 110 (by omega)).trans hO0
    have hTr : TR g T := hTr0.mv (hW.2 111 (by omega))
    refine ax_iload dX4_takeLine_31 rfl ?_
    refine ax_iload dX4_takeLine_33 rfl ?_
    refine ax_icmp_ge (tgt := 63) dX4_takeLine_35 (by decide) (by omega) (by omega) (fun c35 => ?_) (fun c35 => ?_)
    · exfalso
      omega
    · refine ax_aload_n dX4_takeLine_38 rfl ?_
      refine ax_iload_n dX4_takeLine_39 rfl ?_
      refine ax_iload_n dX4_takeLine_40 rfl ?_
      refine ax_iload dX4_takeLine_41 rfl ?_
      refine ax_aload_n dX4_takeLine_43 rfl ?_
      refine ax_aload_n dX4_takeLine_44 rfl ?_
      refine ax_getf dX4_takeLine_45 ck4 fl_X4_66 (by decide) (by omega) hO rfl ?_
      refine ax_iload dX4_takeLine_48 rfl ?_
      refine ax_iadd dX4_takeLine_50 ?_
      rw [hk.2.2.2.1, show (s : Int) + (i : Int) = ((s + i : Nat) : Int) by push_cast; rfl]
      refine ax_cviP1 dX4_takeLine_51 ln_X4_takeLine_100 (Nat.le_of_ble_eq_true rfl) (Or.inl rfl) (by omega) hO rfl (sp_digitAt hN hO hT hTr (k := s + i) (by omega)) ?_
      have hdk := dig_rg (T := T) (n := n) (s := s) i (by omega)
      rw [show sb (T (s + i)) - 48 = (((T (s + i) - 48).toNat : Nat) : Int) by rw [show sb (T (s + i)) = T (s + i) from (sb_eq (hT (s + i) (by omega)) (c := T (s + i)) (by omega)).mpr rfl]; omega]
      refine ax_cvv4 dX4_takeLine_54 ln_X4_takeLine_204 (Nat.le_of_ble_eq_true rfl) rfl hS.n0 hS.o rfl (sp_setPatternColour hS (p := p) (l := hi) (d := i) (c := (T (s + i) - 48).toNat) hp3 hhi (by omega)) (fun g1 hq => ?_)
      obtain ⟨hS1, hF1⟩ := hq
      rw [lin_st hp3 hhi (by omega)] at hS1
      refine ax_iinc dX4_takeLine_57 rfl rfl (by decide) ?_
      refine ax_goto (tgt := 31) dX4_takeLine_60 (by decide) ?_
      exact ih (i + 1) g1 (by omega) ⟨hS1, hW.2.tr hF1⟩
theorem sp_takeLine (hN : 112 ≤ NC) (hb : b + 10 ≤ 103) (hT : TX T) {p hi : Nat} (hp3 : p < 3) (hhi : hi < 6) (hTr0 : TR h T) (hd : isD T n s = true) (hm : lnM T n s ≤ 7) (hO : RO h r) (hk : TK T n r s) (hS : SA NC h b K) : Cl NC M_X4_takeLine [.ref 110, .ref b, .int (I (p : Int)), .int (I (hi : Int))] h (fun _ h1 => SW NC h h1 b (linQ K p hi (lnM T n s) T s (lnM T n s))) := by
  have hkn := hk.1
  have hks := hk.2.1
  refine ax_aload_n dX4_takeLine_0 rfl ?_
  refine ax_getf dX4_takeLine_1 ck4 fl_X4_28 (by decide) (by omega) hO rfl ?_
  refine ax_aload_n dX4_takeLine_4 rfl ?_
  refine ax_getf dX4_takeLine_5 ck4 fl_X4_66 (by decide) (by omega) hO rfl ?_
  rw [hk.2.2.2.2.2, hk.2.2.2.1]
  refine ax_isub dX4_takeLine_8 ?_
  rw [show ((tE T n s : Nat) : Int) - (s : Int) = (lnM T n s : Int) by rw [lnM_e hd]; push_cast; omega]
  refine ax_istore dX4_takeLine_9 rfl (by decide) ?_
  refine ax_aload_n dX4_takeLine_11 rfl ?_
  refine ax_getf dX4_takeLine_12 ck3 fl_X4_198 (by decide) hS.n0 hS.o rfl ?_
  refine ax_iload_n dX4_takeLine_15 rfl ?_
  refine ax_iload dX4_takeLine_16 rfl ?_
  refine ax_iasr (j := p) dX4_takeLine_18 (hS.n 5 (by omega)) hS.pd (by omega) (by omega) (by decide) (fun e18 he18 => ?_)
  have hS1 := hS.w5 (j := p) (c := lnM T n s) (by omega) he18
  have hF1 : Fr h (va_up h (b + 5) e18) b := Fr.rf.up (by omega)
  generalize va_up h (b + 5) e18 = g1 at *
  refine ax_aload_n dX4_takeLine_19 rfl ?_
  refine ax_getf dX4_takeLine_20 ck3 fl_X4_201 (by decide) hS1.n0 hS1.o rfl ?_
  refine ax_iload_n dX4_takeLine_23 rfl ?_
  refine ax_iload_n dX4_takeLine_24 rfl ?_
  refine ax_iconst dX4_takeLine_25 ?_
  refine ax_iadd dX4_takeLine_26 ?_
  rw [show (hi : Int) + 1 = ((hi + 1 : Nat) : Int) by push_cast; rfl]
  refine ax_iasr (j := p) dX4_takeLine_27 (hS1.n 4 (by omega)) hS1.pl (by omega) (by omega) (by decide) (fun e27 he27 => ?_)
  have hS2 := hS1.w4 (j := p) (c := hi + 1) (by omega) he27
  have hF2 : Fr h (va_up g1 (b + 4) e27) b := hF1.up (by omega)
  rw [lin_0 (T := T) (s := s)] at hS2
  generalize va_up g1 (b + 4) e27 = g2 at *
  refine ax_iconst dX4_takeLine_28 ?_
  refine ax_istore dX4_takeLine_29 rfl (by decide) ?_
  exact l_take (h := g2) (r := r) hN hb hT hp3 hhi (hTr0.mv (hF2 111 (by omega))) hd hm ((hF2 110 (by omega)).trans hO) hk (fun g hW => ⟨hW.1, hF2.tr hW.2⟩) (lnM T n s) 0 g2 (by omega) ⟨hS2, Fr.rf⟩
end RD
