/-! the reference reads: lines of patterns -/
def dgQ (K : Nat → Nat) (p hi : Nat) (T : Nat → Int) (t k : Nat) : Nat → Nat := fun j => if 616 + 44 * p + 7 * hi ≤ j ∧ j < 616 + 44 * p + 7 * hi + k then (T (t + (j - (616 + 44 * p + 7 * hi))) - 48).toNat else K j
theorem dgQ_st {K : Nat → Nat} {p hi : Nat} {T : Nat → Int} {t k : Nat} : upN (dgQ K p hi T t k) (616 + 44 * p + 7 * hi + k) (T (t + k) - 48).toNat = dgQ K p hi T t (k + 1) := by
  funext j
  unfold upN dgQ
  by_cases q : j = 616 + 44 * p + 7 * hi + k
  · rw [if_pos q, if_pos (by omega), show t + (j - (616 + 44 * p + 7 * hi)) = t + k by omega]
  · rw [if_neg q]
    by_cases q2 : 616 + 44 * p + 7 * hi ≤ j ∧ j < 616 + 44 * p + 7 * hi + k
    · rw [if_pos q2, if_pos (by omega)]
    · rw [if_neg q2, if_neg (by omega)]
theorem dgQ_0 {K : Nat → Nat} {p hi : Nat} {T : Nat → Int} {t : Nat} : dgQ K p hi T t 0 = K := funext fun j => if_neg (by omega)
theorem dgQ_lin {K : Nat → Nat} {p hi m : Nat} {T : Nat → Int} {t : Nat} : upN (upN (dgQ K p hi T t m) (614 + 44 * p) m) (615 + 44 * p) (hi + 1) = linQ K p hi m T t m := by
  funext j
  unfold upN linQ dgQ
  by_cases q1 : j = 614 + 44 * p
  · rw [if_neg (by omega), if_pos q1, if_pos q1]
  · by_cases q2 : j = 615 + 44 * p
    · rw [if_pos q2, if_neg q1, if_pos q2]
    · rw [if_neg q2, if_neg q1, if_neg q1, if_neg q2]
def linR (T : Nat → Int) (n t p hi : Nat) (K : Nat → Nat) : (Int × Int) ⊕ (Nat × (Nat → Nat)) := if isD T n t = true then bnd (linC T n t p hi K) (fun _ => .inr (sN T n t, linQ K p hi (lnM T n t) T t (lnM T n t))) else .inl (-2, (t : Int))
section RM
variable {NC : Nat} {h : hp} {s T : Nat → Int} {n p t : Nat} {K : Nat → Nat} {Q : qt}
theorem q6_cnt (hN : 132 ≤ NC) (hT : TX T) (hO : XO h s) (hB : BT h T) (hP : PX T s n t t) {a hi : Nat} (hd : isD T n t = true) (kk : Ex NC none M_X6_readLine 67 [.ref 112, .int (I (a : Int)), .int (I (t : Int)), .int (I (lnM T n t : Int)), .int (I (hi : Int)), .null, .null] [] h Q) : ∀ (f : Nat) (k : Nat), k + f = lnM T n t → Ex NC none M_X6_readLine 45 [.ref 112, .int (I (a : Int)), .int (I (t : Int)), .int (I (k : Int)), .int (I (hi : Int)), .null, .null] [] h Q := by
  have hn := hP.1
  have ds := isD_iff.mp hd
  have rg := rn_ge (c := cD T) (n := n) (p := t)
  have rl := rn_le (c := cD T) (n := n) (p := t) (by omega)
  have lm : lnM T n t = rn (cD T) n t - t := rfl
  intro f
  induction f with
  | zero =>
    intro k hk
    have cr := chr_rg (k := t + k) hT hn
    refine ax_aload_n dX6_readLine_45 rfl ?_
    refine ax_aload_n dX6_readLine_46 rfl ?_
    refine ax_getf dX6_readLine_47 ck6 fl_X6_70 (by decide) (by omega) hO rfl ?_
    rw [hP.2.2.1]
    refine ax_iload_n dX6_readLine_50 rfl ?_
    refine ax_iadd dX6_readLine_51 ?_
    rw [show (t : Int) + (k : Int) = ((t + k : Nat) : Int) by push_cast; rfl]
    refine ax_cviP1 dX6_readLine_52 ln_X6_readLine_73 (Nat.le_of_ble_eq_true rfl) (Or.inl rfl) (by omega) hO rfl (s6_byteAt hN hO hT hB hP (k := t + k) (by omega)) ?_
    refine ax_csiP1 dX6_readLine_55 ln_X6_readLine_103 (Nat.le_of_ble_eq_true rfl) (Or.inr rfl) (s6_isDigit (by omega)) ?_
    refine ax_if_eq (tgt := 67) dX6_readLine_58 (by decide) (by split <;> omega) (fun c58 => ?_) (fun c58 => ?_)
    · have e : k = lnM T n t := by omega
      subst e
      exact kk
    · exfalso
      have e : k = lnM T n t := by omega
      have st := rn_end (c := cD T) (n := n) (p := t)
      rw [show rn (cD T) n t = t + k by omega] at st
      have z := isD_chr (T := T) (n := n) (t := t + k)
      rw [isD_iff] at z
      by_cases q : 48 ≤ chr T n (t + k) ∧ chr T n (t + k) ≤ 57
      · exact st (z.mpr q)
      · rw [if_neg q] at c58; exact absurd rfl c58
  | succ f ih =>
    intro k hk
    have cr := chr_rg (k := t + k) hT hn
    refine ax_aload_n dX6_readLine_45 rfl ?_
    refine ax_aload_n dX6_readLine_46 rfl ?_
    refine ax_getf dX6_readLine_47 ck6 fl_X6_70 (by decide) (by omega) hO rfl ?_
    rw [hP.2.2.1]
    refine ax_iload_n dX6_readLine_50 rfl ?_
    refine ax_iadd dX6_readLine_51 ?_
    rw [show (t : Int) + (k : Int) = ((t + k : Nat) : Int) by push_cast; rfl]
    refine ax_cviP1 dX6_readLine_52 ln_X6_readLine_73 (Nat.le_of_ble_eq_true rfl) (Or.inl rfl) (by omega) hO rfl (s6_byteAt hN hO hT hB hP (k := t + k) (by omega)) ?_
    refine ax_csiP1 dX6_readLine_55 ln_X6_readLine_103 (Nat.le_of_ble_eq_true rfl) (Or.inr rfl) (s6_isDigit (by omega)) ?_
    refine ax_if_eq (tgt := 67) dX6_readLine_58 (by decide) (by split <;> omega) (fun c58 => ?_) (fun c58 => ?_)
    · exfalso
      have hrk := rn_in (c := cD T) (n := n) (p := t) (k := t + k) (by omega) (by omega)
      have z := (isD_chr (T := T) (n := n) (t := t + k)).mp (isD_iff.mpr hrk)
      rw [if_pos z] at c58; omega
    · refine ax_iinc dX6_readLine_61 rfl rfl (by decide) ?_
      refine ax_goto (tgt := 45) dX6_readLine_64 (by decide) ?_
      exact ih (k + 1) (by omega)
theorem q6_dig (hN : 132 ≤ NC) (hT : TX T) (hB0 : BT h T) {pp hi : Nat} (hp3 : pp < 3) (hhi : hi < 6) (hm : lnM T n t ≤ 7) (hd : isD T n t = true) (htn : t ≤ n) : ∀ (f : Nat) (k : Nat) (g : hp) (s : Nat → Int) (L : Nat → Nat) (w6 : Value), k + f = lnM T n t → XO g s → PX T s n t t → (-1000 ≤ s 5 ∧ s 5 ≤ 1000) → DR g L → Y3 h g → (s 5 = 0 → L = dgQ K pp hi T t k) → (∀ (g1 : hp) (s1 : Nat → Int) (L1 : Nat → Nat) (j : Nat) (w6 : Value), XO g1 s1 → PX T s1 n t t → agN s s1 → DR g1 L1 → Y3 h g1 → (s1 5 = 0 → L1 = dgQ K pp hi T t (lnM T n t)) → ST (digC T t f k) (s 5) (s 6) (s1 5) (s1 6) (fun _ => True) → Ex NC none M_X6_readLine 202 [.ref 112, .int (I ((614 + 44 * pp : Nat) : Int)), .int (I (t : Int)), .int (I (lnM T n t : Int)), .int (I (hi : Int)), .int (I (j : Int)), w6] [] g1 Q) → Ex NC none M_X6_readLine 134 [.ref 112, .int (I ((614 + 44 * pp : Nat) : Int)), .int (I (t : Int)), .int (I (lnM T n t : Int)), .int (I (hi : Int)), .int (I (k : Int)), w6] [] g Q := by
  have ds := isD_iff.mp hd
  have rg := rn_ge (c := cD T) (n := n) (p := t)
  have rl := rn_le (c := cD T) (n := n) (p := t) (by omega)
  have lm : lnM T n t = rn (cD T) n t - t := rfl
  intro f
  induction f with
  | zero =>
    intro k g s L w6 hk hO hP h5 hD hY hE kk
    have hB : BT g T := hB0.mv (hY 113 (by decide) (by decide))
    have hn := hP.1
    refine ax_iload dX6_readLine_134 rfl ?_
    refine ax_iload_n dX6_readLine_136 rfl ?_
    refine ax_icmp_ge (tgt := 202) dX6_readLine_137 (by decide) (by omega) (by omega) (fun c137 => ?_) (fun c137 => ?_)
    · have e : k = lnM T n t := by omega
      exact kk g s L k w6 hO hP (fun _ _ _ _ _ => rfl) hD hY (fun q => by rw [← e]; exact hE q) (ST.ok trivial)
    · exfalso
      omega
  | succ f ih =>
    intro k g s L w6 hk hO hP h5 hD hY hE kk
    have hB : BT g T := hB0.mv (hY 113 (by decide) (by decide))
    have hn := hP.1
    refine ax_iload dX6_readLine_134 rfl ?_
    refine ax_iload_n dX6_readLine_136 rfl ?_
    refine ax_icmp_ge (tgt := 202) dX6_readLine_137 (by decide) (by omega) (by omega) (fun c137 => ?_) (fun c137 => ?_)
    · exfalso
      omega
    · refine ax_aload_n dX6_readLine_140 rfl ?_
      refine ax_cviP0 dX6_readLine_141 ln_X6_readLine_82 (Nat.le_of_ble_eq_true rfl) (Or.inr rfl) (by omega) hO rfl (s6_isGood hN hO h5) ?_
      refine ax_if_eq (tgt := 202) dX6_readLine_144 (by decide) (by split <;> omega) (fun c144 => ?_) (fun c144 => ?_)
      · have c : s 5 ≠ 0 := fun q => by (rw [if_pos q] at c144; omega)
        exact kk g s L k w6 hO hP (fun _ _ _ _ _ => rfl) hD hY (fun q => absurd q c) (Or.inl ⟨c, rfl, rfl⟩)
      · have c : s 5 = 0 := by (by_cases q : s 5 = 0; exact q; rw [if_neg q] at c144; exact absurd rfl c144)
        refine ax_aload_n dX6_readLine_147 rfl ?_
        refine ax_iload_n dX6_readLine_148 rfl ?_
        refine ax_iload dX6_readLine_149 rfl ?_
        refine ax_iadd dX6_readLine_151 ?_
        rw [show (t : Int) + (k : Int) = ((t + k : Nat) : Int) by push_cast; rfl]
        refine ax_cviP1 dX6_readLine_152 ln_X6_readLine_73 (Nat.le_of_ble_eq_true rfl) (Or.inl rfl) (by omega) hO rfl (s6_byteAt hN hO hT hB hP (k := t + k) (by omega)) ?_
        have hdk := dig_rg (T := T) (n := n) (s := t) k (by omega)
        have hrk := rn_in (c := cD T) (n := n) (p := t) (k := t + k) (by omega) (by omega)
        rw [show chr T n (t + k) = T (t + k) from if_pos hrk.1]
        refine ax_bipush dX6_readLine_155 (by decide) ?_
        refine ax_isub dX6_readLine_157 ?_
        refine ax_istore dX6_readLine_158 rfl (by decide) ?_
        refine ax_iload dX6_readLine_160 rfl ?_
        refine ax_bipush dX6_readLine_162 (by decide) ?_
        refine ax_icmp_le (tgt := 177) dX6_readLine_164 (by decide) (by omega) (by omega) (fun c164 => ?_) (fun c164 => ?_)
        · refine ax_aload_n dX6_readLine_177 rfl ?_
          refine ax_getf dX6_readLine_178 ck6 fl_X6_20 (by decide) (by omega) hO rfl ?_
          refine ax_iload_n dX6_readLine_181 rfl ?_
          refine ax_iconst dX6_readLine_182 ?_
          refine ax_iadd dX6_readLine_183 ?_
          refine ax_bipush dX6_readLine_184 (by decide) ?_
          refine ax_iload dX6_readLine_186 rfl ?_
          refine ax_imul dX6_readLine_188 ?_
          refine ax_iadd dX6_readLine_189 ?_
          refine ax_iload dX6_readLine_190 rfl ?_
          refine ax_iadd dX6_readLine_192 ?_
          refine ax_iload dX6_readLine_193 rfl ?_
          rw [show ((614 + 44 * pp : Nat) : Int) + 2 + 7 * (hi : Int) + (k : Int) = ((616 + 44 * pp + 7 * hi + k : Nat) : Int) by omega, show T (t + k) - 48 = (((T (t + k) - 48).toNat : Nat) : Int) by omega]
          refine ax_iasr (j := (616 + 44 * pp + 7 * hi + k)) dX6_readLine_195 (by omega) hD (by omega) (by omega) (by decide) (fun e195 he195 => ?_)
          refine ax_iinc dX6_readLine_196 rfl rfl (by decide) ?_
          refine ax_goto (tgt := 134) dX6_readLine_199 (by decide) ?_
          have hD2 : DR (va_up g 115 e195) (upN L (616 + 44 * pp + 7 * hi + k) (T (t + k) - 48).toNat) := (he195.mv vu_eq).cong (fun i hi => by unfold upZ upN; split <;> rfl)
          refine ih (k + 1) _ _ _ _ (by omega) ((vu_ne (by decide)).trans hO) hP h5 hD2 hY.up (fun q => by rw [hE q]; exact dgQ_st) (fun g3 s3 L3 j3 w3 hO3 hP3 hA3 hD3 hY3 hE3 st3 => kk g3 s3 L3 j3 w3 hO3 hP3 hA3 hD3 hY3 hE3 ?_)
          exact ST.bnd (st_rp (s := s) (p := decide (54 < T (t + k))) (c := -3) (b := ((t + k : Nat) : Int)) (by decide) (by rw [if_neg (fun w => by have := of_decide_eq_true w.1; omega)]) (by rw [if_neg (fun w => by have := of_decide_eq_true w.1; omega)])) (fun e => st3.keep e) (fun _ _ _ => st3)
        · refine ax_aload_n dX6_readLine_167 rfl ?_
          refine ax_bipush dX6_readLine_168 (by decide) ?_
          refine ax_iload_n dX6_readLine_170 rfl ?_
          refine ax_iload dX6_readLine_171 rfl ?_
          refine ax_iadd dX6_readLine_173 ?_
          rw [show (t : Int) + (k : Int) = ((t + k : Nat) : Int) by push_cast; rfl]
          refine ax_cvv2 dX6_readLine_174 ln_X6_readLine_99 (Nat.le_of_ble_eq_true rfl) rfl (by omega) hO rfl (s6_report hN hO h5) (fun g1 hq => ?_)
          obtain ⟨hO1, y1⟩ := hq
          have hD1 : DR g1 L := hD.mv (y1 115 (by decide))
          refine ax_aload_n dX6_readLine_177 rfl ?_
          refine ax_getf dX6_readLine_178 ck6 fl_X6_20 (by decide) (by omega) hO1 rfl ?_
          refine ax_iload_n dX6_readLine_181 rfl ?_
          refine ax_iconst dX6_readLine_182 ?_
          refine ax_iadd dX6_readLine_183 ?_
          refine ax_bipush dX6_readLine_184 (by decide) ?_
          refine ax_iload dX6_readLine_186 rfl ?_
          refine ax_imul dX6_readLine_188 ?_
          refine ax_iadd dX6_readLine_189 ?_
          refine ax_iload dX6_readLine_190 rfl ?_
          refine ax_iadd dX6_readLine_192 ?_
          refine ax_iload dX6_readLine_193 rfl ?_
          rw [show ((614 + 44 * pp : Nat) : Int) + 2 + 7 * (hi : Int) + (k : Int) = ((616 + 44 * pp + 7 * hi + k : Nat) : Int) by omega, show T (t + k) - 48 = (((T (t + k) - 48).toNat : Nat) : Int) by omega]
          refine ax_iasr (j := (616 + 44 * pp + 7 * hi + k)) dX6_readLine_195 (by omega) hD1 (by omega) (by omega) (by decide) (fun e195 he195 => ?_)
          refine ax_iinc dX6_readLine_196 rfl rfl (by decide) ?_
          refine ax_goto (tgt := 134) dX6_readLine_199 (by decide) ?_
          have hD2 : DR (va_up g1 115 e195) (upN L (616 + 44 * pp + 7 * hi + k) (T (t + k) - 48).toNat) := (he195.mv vu_eq).cong (fun i hi => by unfold upZ upN; split <;> rfl)
          have sta : ST (chk (decide (54 < T (t + k))) (-3) ((t + k : Nat) : Int)) (s 5) (s 6) (rep s (-3) ((t + k : Nat) : Int) 5) (rep s (-3) ((t + k : Nat) : Int) 6) (fun _ => decide (54 < T (t + k)) = false) := st_rp (by decide) (by rw [rep5, if_pos c, if_pos ⟨decide_eq_true (by omega), c⟩]) (by rw [rep6, if_pos c, if_pos ⟨decide_eq_true (by omega), c⟩])
          refine ih (k + 1) _ _ _ _ (by omega) ((vu_ne (by decide)).trans hO1) hP.rep (sta.rg h5) hD2 (hY.tr y1.w).up (fun q => absurd q (by rw [rep5, if_pos c]; decide)) (fun g3 s3 L3 j3 w3 hO3 hP3 hA3 hD3 hY3 hE3 st3 => kk g3 s3 L3 j3 w3 hO3 hP3 (repN.tr hA3) hD3 hY3 hE3 ?_)
          exact ST.bnd sta (fun e => st3.keep e) (fun _ _ _ => st3)
end RM
