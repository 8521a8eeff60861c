/-! the reference reads: a line, a pattern -/
theorem bnd_as {A B C : Type} {x : (Int × Int) ⊕ A} {f : A → (Int × Int) ⊕ B} {g : B → (Int × Int) ⊕ C} : bnd (bnd x f) g = bnd x (fun a => bnd (f a) g) := by
  cases x <;> rfl
def linD (T : Nat → Int) (n t p hi : Nat) (K : Nat → Nat) : (Int × Int) ⊕ (Nat × (Nat → Nat)) := bnd (chk (decide (6 ≤ hi)) (-5) (t : Int)) (fun _ => bnd (digC T t (lnM T n t) 0) (fun _ => .inr (sN T n t, linQ K p hi (lnM T n t) T t (lnM T n t))))
theorem linR_d {T : Nat → Int} {n t p hi : Nat} {K : Nat → Nat} (h : isD T n t = true) : linR T n t p hi K = bnd (chk (lc1 T n t p hi K) (-3) (t : Int)) (fun _ => linD T n t p hi K) := by
  unfold linR linC linD
  rw [if_pos h, bnd_as]
  congr 1
  funext u
  rw [bnd_as]
section RM
variable {NC : Nat} {h : hp} {s T : Nat → Int} {n p t : Nat} {K : Nat → Nat} {Q : qt}
theorem q6_end (hN : 132 ≤ NC) (hT : TX T) (hO : XO h s) (hP : PX T s n t t) (h5 : -1000 ≤ s 5 ∧ s 5 ≤ 1000) {L : Nat → Nat} (hD : DR h L) {pp hi : Nat} (hp3 : pp < 3) (hd : isD T n t = true) (hL : s 5 = 0 → L = dgQ K pp hi T t (lnM T n t)) (hhi : K (615 + 44 * pp) = hi) {w5 w6 : Value} (kk : ∀ g s2 p2 t2 K2, XO g s2 → PX T s2 n p2 t2 → agN s s2 → DR g K2 → Y3 h g → ST (.inr (sN T n t, linQ K pp hi (lnM T n t) T t (lnM T n t))) (s 5) (s 6) (s2 5) (s2 6) (fun v : Nat × (Nat → Nat) => t2 = v.1 ∧ K2 = v.2) → Q .null g) : Ex NC none M_X6_readLine 202 [.ref 112, .int (I ((614 + 44 * pp : Nat) : Int)), .int (I (t : Int)), .int (I (lnM T n t : Int)), .int (I (hi : Int)), w5, w6] [] h Q := by
  have hn := hP.1
  have ds := isD_iff.mp hd
  have le0 := lnM_e hd
  have tl := tE_le (T := T) hP.le
  refine ax_aload_n dX6_readLine_202 rfl ?_
  refine ax_cviP0 dX6_readLine_203 ln_X6_readLine_82 (Nat.le_of_ble_eq_true rfl) (Or.inr rfl) (by omega) hO rfl (s6_isGood hN hO h5) ?_
  refine ax_if_ne (tgt := 210) dX6_readLine_206 (by decide) (by split <;> omega) (fun c206 => ?_) (fun c206 => ?_)
  · have c : s 5 = 0 := by (by_cases q : s 5 = 0; exact q; rw [if_neg q] at c206; exact absurd rfl c206)
    have hLe := hL c
    subst hLe
    refine ax_aload_n dX6_readLine_210 rfl ?_
    refine ax_getf dX6_readLine_211 ck6 fl_X6_20 (by decide) (by omega) hO rfl ?_
    refine ax_iload_n dX6_readLine_214 rfl ?_
    refine ax_iconst dX6_readLine_215 ?_
    refine ax_iadd dX6_readLine_216 ?_
    refine ax_iload_n dX6_readLine_217 rfl ?_
    refine ax_iasr (j := (614 + 44 * pp)) dX6_readLine_218 (by omega) hD (by omega) (by omega) (by decide) (fun e218 he218 => ?_)
    have hD1 : DR (va_up h 115 e218) (upN (dgQ K pp hi T t (lnM T n t)) (614 + 44 * pp) (lnM T n t)) := (he218.mv vu_eq).cong (fun i hi => by unfold upZ upN; split <;> rfl)
    have hO1 : XO (va_up h 115 e218) s := (vu_ne (by decide)).trans hO
    have hY1 : Y3 h (va_up h 115 e218) := Y3.rf.up
    generalize va_up h 115 e218 = g1 at *
    refine ax_aload_n dX6_readLine_219 rfl ?_
    refine ax_getf dX6_readLine_220 ck6 fl_X6_20 (by decide) (by omega) hO1 rfl ?_
    refine ax_iload_n dX6_readLine_223 rfl ?_
    refine ax_iconst dX6_readLine_224 ?_
    refine ax_iadd dX6_readLine_225 ?_
    refine ax_dup2 dX6_readLine_226 rfl rfl ?_
    refine ax_ialr (j := (615 + 44 * pp)) (w := ((hi : Int) : Int)) dX6_readLine_227 (by omega) hD1 (by omega) (by omega) (by decide) (by show ((upN (dgQ K pp hi T t (lnM T n t)) (614 + 44 * pp) (lnM T n t) (615 + 44 * pp) : Nat) : Int) = hi; rw [up_ne (by omega)]; unfold dgQ; rw [if_neg (by omega), hhi]) ?_
    refine ax_iconst dX6_readLine_228 ?_
    refine ax_iadd dX6_readLine_229 ?_
    refine ax_iasr (j := (615 + 44 * pp)) dX6_readLine_230 (by omega) hD1 (by omega) (by omega) (by decide) (fun e230 he230 => ?_)
    have hD2 : DR (va_up g1 115 e230) (linQ K pp hi (lnM T n t) T t (lnM T n t)) := by rw [← dgQ_lin]; exact (he230.mv vu_eq).cong (fun i hi => by simp only [upZ]; rw [show ∀ (A : Nat → Nat) (a b : Nat), upN A a b = fun j => if j = a then b else A j from fun _ _ _ => rfl]; show _ = (((if i = _ then _ else _) : Nat) : Int); split <;> simp)
    have hO2 : XO (va_up g1 115 e230) s := (vu_ne (by decide)).trans hO1
    have hY2 : Y3 h (va_up g1 115 e230) := hY1.up
    generalize va_up g1 115 e230 = g2 at *
    refine ax_aload_n dX6_readLine_231 rfl ?_
    refine ax_dup dX6_readLine_232 rfl ?_
    refine ax_getf dX6_readLine_233 ck6 fl_X6_70 (by decide) (by omega) hO2 rfl ?_
    rw [hP.2.2.1]
    refine ax_iload_n dX6_readLine_236 rfl ?_
    refine ax_iadd dX6_readLine_237 ?_
    rw [show (t : Int) + (lnM T n t : Int) = ((t + lnM T n t : Nat) : Int) by push_cast; rfl]
    refine ax_putf dX6_readLine_238 ck6 fl_X6_70 (by decide) (by omega) hO2 rfl (Or.inl rfl) (Nat.le_of_ble_eq_true rfl) rfl ?_
    generalize hgg3 : va_up g2 112 _ = g3
    obtain ⟨s3, hO3, es3⟩ : ∃ rr, XO g3 rr ∧ rr = upZ s 4 ((t + lnM T n t : Nat) : Int) := ⟨_, by rw [← hgg3]; exact hO2.s4, rfl⟩
    have y3 : Y2 g2 g3 := fun a ha => by rw [← hgg3]; exact (vu_ne ha)
    exact ax_vret dX6_readLine_241 rfl (kk g3 s3 (t + lnM T n t) (sN T n t) _ hO3 ⟨hn, by rw [es3]; exact hP.2.1, by rw [es3]; rfl, by omega, by unfold sN; rw [le0]⟩ (fun k k4 _ _ _ => by rw [es3]; exact if_neg k4) (hD2.mv (y3 115 (by decide))) (hY2.tr y3.w) (by rw [show s3 5 = s 5 by rw [es3]; rfl, show s3 6 = s 6 by rw [es3]; rfl]; exact ST.ok ⟨rfl, rfl⟩))
  · have c : s 5 ≠ 0 := fun q => by (rw [if_pos q] at c206; omega)
    exact ax_vret dX6_readLine_209 rfl (kk h s t t L hO hP (fun _ _ _ _ _ => rfl) hD Y3.rf (Or.inl ⟨c, rfl, rfl⟩))
theorem q6_bad (hN : 132 ≤ NC) (hn : n ≤ 600) (hO : XO h s) (h5 : -1000 ≤ s 5 ∧ s 5 ≤ 1000) (c : s 5 ≠ 0) {pp hi : Nat} (hd : isD T n t = true) {w6 : Value} (kk : Q .null h) : Ex NC none M_X6_readLine 134 [.ref 112, .int (I ((614 + 44 * pp : Nat) : Int)), .int (I (t : Int)), .int (I (lnM T n t : Int)), .int (I (hi : Int)), .int (I 0), w6] [] h Q := by
  have l1 := lnM_1 hd
  have ln : lnM T n t < 100000 ∨ 100000 ≤ lnM T n t := by omega
  have lb : lnM T n t ≤ n := by unfold lnM; have := rn_le (c := cD T) (n := n) (p := t) (by have := (isD_iff.mp hd).1; omega); omega
  refine ax_iload dX6_readLine_134 rfl ?_
  refine ax_iload_n dX6_readLine_136 rfl ?_
  refine ax_icmp_ge (tgt := 202) dX6_readLine_137 (by decide) (by omega) (by omega) (fun c137 => ?_) (fun c137 => ?_)
  · exfalso
    omega
  · refine ax_aload_n dX6_readLine_140 rfl ?_
    refine ax_cviP0 dX6_readLine_141 ln_X6_readLine_82 (Nat.le_of_ble_eq_true rfl) (Or.inr rfl) (by omega) hO rfl (s6_isGood hN hO h5) ?_
    refine ax_if_eq (tgt := 202) dX6_readLine_144 (by decide) (by split <;> omega) (fun c144 => ?_) (fun c144 => ?_)
    · refine ax_aload_n dX6_readLine_202 rfl ?_
      refine ax_cviP0 dX6_readLine_203 ln_X6_readLine_82 (Nat.le_of_ble_eq_true rfl) (Or.inr rfl) (by omega) hO rfl (s6_isGood hN hO h5) ?_
      refine ax_if_ne (tgt := 210) dX6_readLine_206 (by decide) (by split <;> omega) (fun c206 => ?_) (fun c206 => ?_)
      · exfalso
        rw [if_neg c] at c206
        exact absurd rfl c206
      · exact ax_vret dX6_readLine_209 rfl kk
    · exfalso
      rw [if_neg c] at c144
      exact absurd rfl c144
theorem q6_117 (hN : 132 ≤ NC) (hT : TX T) (hO : XO h s) (hB : BT h T) (hP : PX T s n t t) (h5 : -1000 ≤ s 5 ∧ s 5 ≤ 1000) (hD : DR h K) {pp hi : Nat} (hp3 : pp < 3) (h6 : hi ≤ 6) (hd : isD T n t = true) (hm : s 5 = 0 → lnM T n t ≤ 7) (hhi : K (615 + 44 * pp) = hi) {w6 : Value} (kk : ∀ g s2 p2 t2 K2, XO g s2 → PX T s2 n p2 t2 → agN s s2 → DR g K2 → Y3 h g → ST (linD T n t pp hi K) (s 5) (s 6) (s2 5) (s2 6) (fun v => t2 = v.1 ∧ K2 = v.2) → Q .null g) : Ex NC none M_X6_readLine 117 [.ref 112, .int (I ((614 + 44 * pp : Nat) : Int)), .int (I (t : Int)), .int (I (lnM T n t : Int)), .int (I (hi : Int)), .null, w6] [] h Q := by
  have l1 := lnM_1 hd
  have htn := hP.le
  refine ax_iload dX6_readLine_117 rfl ?_
  refine ax_bipush dX6_readLine_119 (by decide) ?_
  refine ax_icmp_ne (tgt := 131) dX6_readLine_121 (by decide) (by omega) (by omega) (fun c121 => ?_) (fun c121 => ?_)
  · refine ax_iconst dX6_readLine_131 ?_
    refine ax_istore dX6_readLine_132 rfl (by decide) ?_
    have st2 : ST (chk (decide (6 ≤ hi)) (-5) (t : Int)) (s 5) (s 6) (s 5) (s 6) (fun _ => decide (6 ≤ hi) = false) := st_rp (by decide) (by rw [if_neg (fun w => by have := of_decide_eq_true w.1; omega)]) (by rw [if_neg (fun w => by have := of_decide_eq_true w.1; omega)])
    by_cases gz : s 5 = 0
    · refine q6_dig (h := h) (K := K) hN hT hB hp3 (by omega) (hm gz) hd htn (lnM T n t) 0 h s K _ (by omega) hO hP h5 hD Y3.rf (fun _ => dgQ_0.symm) (fun g3 s3 L3 j w3 hO3 hP3 hA3 hD3 hY3 hE3 st3 => ?_)
      refine q6_end (K := K) hN hT hO3 hP3 (st3.rg h5) hD3 hp3 hd hE3 hhi (fun g4 s4 p4 t4 K4 hO4 hP4 hA4 hD4 hY4 st4 => kk g4 s4 p4 t4 K4 hO4 hP4 (hA3.tr hA4) hD4 (hY3.tr hY4) ?_)
      exact ST.bnd st2 (fun e => by have k3 := st3.keep e; have k4 := st4.keep (by omega); omega) (fun _ _ _ => ST.bnd st3 (fun e => st4.keep e) (fun _ _ _ => st4))
    · exact q6_bad hN hP.1 hO h5 gz hd (kk h s t t K hO hP (fun _ _ _ _ _ => rfl) hD Y3.rf (Or.inl ⟨gz, rfl, rfl⟩))
  · refine ax_aload_n dX6_readLine_124 rfl ?_
    refine ax_bipush dX6_readLine_125 (by decide) ?_
    refine ax_iload_n dX6_readLine_127 rfl ?_
    refine ax_cvv2 dX6_readLine_128 ln_X6_readLine_99 (Nat.le_of_ble_eq_true rfl) rfl (by omega) hO rfl (s6_report hN hO h5) (fun g1 hq => ?_)
    obtain ⟨hO1, y1⟩ := hq
    have q5 : rep s (-5) (t : Int) 5 ≠ 0 := by rw [rep5]; split <;> omega
    have st2 : ST (chk (decide (6 ≤ hi)) (-5) (t : Int)) (s 5) (s 6) (rep s (-5) (t : Int) 5) (rep s (-5) (t : Int) 6) (fun _ => decide (6 ≤ hi) = false) := st_rp (by decide) (by rw [rep5]; by_cases q : s 5 = 0; (rw [if_pos q, if_pos ⟨decide_eq_true (by omega), q⟩]); rw [if_neg q, if_neg (fun w => q w.2)]) (by rw [rep6]; by_cases q : s 5 = 0; (rw [if_pos q, if_pos ⟨decide_eq_true (by omega), q⟩]); rw [if_neg q, if_neg (fun w => q w.2)])
    refine ax_iconst dX6_readLine_131 ?_
    refine ax_istore dX6_readLine_132 rfl (by decide) ?_
    refine q6_bad hN hP.1 hO1 (st2.rg h5) q5 hd (kk g1 _ t t K hO1 hP.rep repN (hD.mv (y1 115 (by decide))) y1.w ?_)
    exact ST.bnd st2 (fun _ => ⟨rfl, rfl⟩) (fun _ e _ => absurd e q5)
theorem q6_97 (hN : 132 ≤ NC) (hT : TX T) (hO : XO h s) (hB : BT h T) (hP : PX T s n t t) (hD : DR h K) {pp hi : Nat} (hp3 : pp < 3) (h6 : hi ≤ 6) (hd : isD T n t = true) (hhi : K (615 + 44 * pp) = hi) {b1 : Bool} {a0 : Int} (e5 : s 5 = if b1 = true then -3 else 0) (e6 : s 6 = if b1 = true then (t : Int) else a0) (hb1 : b1 = decide (7 < lnM T n t ∨ (0 < hi ∧ lnM T n t ≠ K (614 + 44 * pp)))) {w6 : Value} (kk : ∀ g s2 p2 t2 K2, XO g s2 → PX T s2 n p2 t2 → agN s s2 → DR g K2 → Y3 h g → ST (linR T n t pp hi K) 0 a0 (s2 5) (s2 6) (fun v => t2 = v.1 ∧ K2 = v.2) → Q .null g) : Ex NC none M_X6_readLine 97 [.ref 112, .int (I ((614 + 44 * pp : Nat) : Int)), .int (I (t : Int)), .int (I (lnM T n t : Int)), .int (I (hi : Int)), .null, w6] [] h Q := by
  have ds := isD_iff.mp hd
  have hn := hP.1
  have hdk := dig_rg (T := T) (n := n) (s := t) 0 (by have := lnM_1 hd; omega)
  rw [Nat.add_zero] at hdk
  have h5 : -1000 ≤ s 5 ∧ s 5 ≤ 1000 := by rw [e5]; split <;> omega
  have hlc : lc1 T n t pp hi K = (b1 || decide (54 < T t)) := by
    unfold lc1; rw [hb1, ← Bool.decide_or]; congr 1; exact propext ⟨fun w => by omega, fun w => by omega⟩
  refine ax_aload_n dX6_readLine_97 rfl ?_
  refine ax_iload_n dX6_readLine_98 rfl ?_
  refine ax_cviP1 dX6_readLine_99 ln_X6_readLine_73 (Nat.le_of_ble_eq_true rfl) (Or.inl rfl) (by omega) hO rfl (s6_byteAt hN hO hT hB hP (k := t) (by omega)) ?_
  rw [show chr T n t = T t from if_pos ds.1]
  refine ax_bipush dX6_readLine_102 (by decide) ?_
  refine ax_isub dX6_readLine_104 ?_
  refine ax_bipush dX6_readLine_105 (by decide) ?_
  refine ax_icmp_le (tgt := 117) dX6_readLine_107 (by decide) (by omega) (by omega) (fun c107 => ?_) (fun c107 => ?_)
  · refine q6_117 hN hT hO hB hP h5 hD hp3 h6 hd (fun q => ?_) hhi (fun g s2 p2 t2 K2 hO2 hP2 hA2 hD2 hY2 st2 => kk g s2 p2 t2 K2 hO2 hP2 hA2 hD2 hY2 ?_)
    · cases b1 with
      | true => rw [e5] at q; exact absurd q (by decide)
      | false => have z := of_decide_eq_false hb1.symm; omega
    · rw [linR_d hd, hlc, show decide (54 < T t) = false from decide_eq_false (by omega), Bool.or_false]
      cases b1 with
      | true => exact ST.bnd (G := fun _ => False) (Or.inr ⟨rfl, Or.inl ⟨-3, t, rfl, by decide, e5, e6⟩⟩) (fun e => st2.keep e) (fun _ _ q => q.elim)
      | false =>
        rw [e5, e6] at st2
        exact st2
  · refine ax_aload_n dX6_readLine_110 rfl ?_
    refine ax_bipush dX6_readLine_111 (by decide) ?_
    refine ax_iload_n dX6_readLine_113 rfl ?_
    refine ax_cvv2 dX6_readLine_114 ln_X6_readLine_99 (Nat.le_of_ble_eq_true rfl) rfl (by omega) hO rfl (s6_report hN hO h5) (fun g1 hq => ?_)
    obtain ⟨hO1, y1⟩ := hq
    have q5 : rep s (-3) (t : Int) 5 = -3 := by rw [rep5, e5]; cases b1 <;> simp
    have q6 : rep s (-3) (t : Int) 6 = (t : Int) := by rw [rep6, e5, e6]; cases b1 <;> simp
    refine q6_117 hN hT hO1 (hB.mv (y1 113 (by decide))) hP.rep (by omega) (hD.mv (y1 115 (by decide))) hp3 h6 hd (fun q => absurd q (by omega)) hhi (fun g s2 p2 t2 K2 hO2 hP2 hA2 hD2 hY2 st2 => kk g s2 p2 t2 K2 hO2 hP2 (repN.tr hA2) hD2 (y1.w.tr hY2) ?_)
    rw [linR_d hd, hlc, show decide (54 < T t) = true from decide_eq_true (by omega), Bool.or_true]
    exact ST.bnd (G := fun _ => False) (Or.inr ⟨rfl, Or.inl ⟨-3, t, rfl, by decide, q5, q6⟩⟩) (fun e => st2.keep e) (fun _ _ q => q.elim)
theorem s6_readLine (hN : 132 ≤ NC) (hT : TX T) (hO : XO h s) (hB : BT h T) (hP : PX T s n p t) (g0 : s 5 = 0) (hD : DR h K) {pp hi : Nat} (hp3 : pp < 3) (h6 : hi ≤ 6) (hhi : K (615 + 44 * pp) = hi) (hw7 : K (614 + 44 * pp) ≤ 7) : Cl NC M_X6_readLine [.ref 112, .int (I ((614 + 44 * pp : Nat) : Int))] h (fun _ h1 => ∃ s1 p1 t1 K1, XO h1 s1 ∧ PX T s1 n p1 t1 ∧ agN s s1 ∧ DR h1 K1 ∧ Y3 h h1 ∧ ST (linR T n t pp hi K) 0 (s 6) (s1 5) (s1 6) (fun v => t1 = v.1 ∧ K1 = v.2)) := by
  refine ax_aload_n dX6_readLine_0 rfl ?_
  refine ax_cvi0 dX6_readLine_1 ln_X6_readLine_86 (Nat.le_of_ble_eq_true rfl) (Or.inl rfl) (by omega) hO rfl (s6_ahead hN hO hT hB hP) (fun ret g1 hq => ?_)
  obtain ⟨hv, s1, hO1, hA1, hP1, y1⟩ := hq
  cases hv
  have hn := hP1.1
  have cr := chr_rg (k := t) hT hn
  have e5 : s1 5 = 0 := (hA1 5 (by decide)).trans g0
  have e6 : s1 6 = s 6 := hA1 6 (by decide)
  have hB1 : BT g1 T := hB.mv (y1 113 (by decide))
  have hD1 : DR g1 K := hD.mv (y1 115 (by decide))
  refine ax_csiP1 dX6_readLine_4 ln_X6_readLine_103 (Nat.le_of_ble_eq_true rfl) (Or.inr rfl) (s6_isDigit (by omega)) ?_
  refine ax_if_ne (tgt := 20) dX6_readLine_7 (by decide) (by split <;> omega) (fun c7 => ?_) (fun c7 => ?_)
  · have hd : isD T n t = true := by (by_cases q : 48 ≤ chr T n t ∧ chr T n t ≤ 57; exact isD_chr.mpr q; rw [if_neg q] at c7; exact absurd rfl c7)
    refine ax_aload_n dX6_readLine_20 rfl ?_
    refine ax_cviP0 dX6_readLine_21 ln_X6_readLine_82 (Nat.le_of_ble_eq_true rfl) (Or.inr rfl) (by omega) hO1 rfl (s6_isGood hN hO1 (by omega)) ?_
    refine ax_if_ne (tgt := 28) dX6_readLine_24 (by decide) (by split <;> omega) (fun c24 => ?_) (fun c24 => ?_)
    · refine ax_aload_n dX6_readLine_28 rfl ?_
      refine ax_getf dX6_readLine_29 ck6 fl_X6_70 (by decide) (by omega) hO1 rfl ?_
      rw [hP1.2.2.1]
      refine ax_istore_n dX6_readLine_32 rfl (by decide) ?_
      refine ax_iconst dX6_readLine_33 ?_
      refine ax_istore_n dX6_readLine_34 rfl (by decide) ?_
      refine ax_aload_n dX6_readLine_35 rfl ?_
      refine ax_getf dX6_readLine_36 ck6 fl_X6_20 (by decide) (by omega) hO1 rfl ?_
      refine ax_iload_n dX6_readLine_39 rfl ?_
      refine ax_iconst dX6_readLine_40 ?_
      refine ax_iadd dX6_readLine_41 ?_
      refine ax_ialr (j := (615 + 44 * pp)) (w := ((hi : Int) : Int)) dX6_readLine_42 (by omega) hD1 (by omega) (by omega) (by decide) (by rw [hhi]) ?_
      refine ax_istore dX6_readLine_43 rfl (by decide) ?_
      have lb : lnM T n t ≤ n := by unfold lnM; have := rn_le (c := cD T) (n := n) (p := t) (by have := (isD_iff.mp hd).1; omega); omega
      refine q6_cnt hN hT hO1 hB1 hP1 hd ?_ (lnM T n t) 0 (by omega)
      refine ax_iload_n dX6_readLine_67 rfl ?_
      refine ax_bipush dX6_readLine_68 (by decide) ?_
      refine ax_icmp_gt (tgt := 90) dX6_readLine_70 (by decide) (by omega) (by omega) (fun c70 => ?_) (fun c70 => ?_)
      · refine ax_aload_n dX6_readLine_90 rfl ?_
        refine ax_bipush dX6_readLine_91 (by decide) ?_
        refine ax_iload_n dX6_readLine_93 rfl ?_
        refine ax_cvv2 dX6_readLine_94 ln_X6_readLine_99 (Nat.le_of_ble_eq_true rfl) rfl (by omega) hO1 rfl (s6_report hN hO1 (by omega)) (fun g2 hq => ?_)
        obtain ⟨hO2, y2⟩ := hq
        have hb : true = decide (7 < lnM T n t ∨ (0 < hi ∧ lnM T n t ≠ K (614 + 44 * pp))) := (decide_eq_true (by omega)).symm
        exact q6_97 (b1 := true) (a0 := s 6) hN hT hO2 (hB1.mv (y2 113 (by decide))) hP1.rep (hD1.mv (y2 115 (by decide))) hp3 h6 hd hhi (by rw [rep5, if_pos e5]; rfl) (by rw [rep6, if_pos e5]; rfl) hb (fun g s2 p2 t2 K2 hO3 hP3 hA3 hD3 hY3 st3 => ⟨s2, p2, t2, K2, hO3, hP3, hA1.N.tr (repN.tr hA3), hD3, (y1.tr y2).w.tr hY3, st3⟩)
      · refine ax_iload dX6_readLine_73 rfl ?_
        refine ax_if_le (tgt := 97) dX6_readLine_75 (by decide) (by omega) (fun c75 => ?_) (fun c75 => ?_)
        · have hb : false = decide (7 < lnM T n t ∨ (0 < hi ∧ lnM T n t ≠ K (614 + 44 * pp))) := (decide_eq_false (by omega)).symm
          exact q6_97 (b1 := false) (a0 := s 6) hN hT hO1 hB1 hP1 hD1 hp3 h6 hd hhi (by rw [e5]; rfl) (by rw [e6]; rfl) hb (fun g s2 p2 t2 K2 hO3 hP3 hA3 hD3 hY3 st3 => ⟨s2, p2, t2, K2, hO3, hP3, hA1.N.tr hA3, hD3, y1.w.tr hY3, st3⟩)
        · refine ax_iload_n dX6_readLine_78 rfl ?_
          refine ax_aload_n dX6_readLine_79 rfl ?_
          refine ax_getf dX6_readLine_80 ck6 fl_X6_20 (by decide) (by omega) hO1 rfl ?_
          refine ax_iload_n dX6_readLine_83 rfl ?_
          refine ax_iconst dX6_readLine_84 ?_
          refine ax_iadd dX6_readLine_85 ?_
          refine ax_ialr (j := (614 + 44 * pp)) (w := (K (614 + 44 * pp) : Int)) dX6_readLine_86 (by omega) hD1 (by omega) (by omega) (by decide) rfl ?_
          refine ax_icmp_eq (tgt := 97) dX6_readLine_87 (by decide) (by omega) (by omega) (fun c87 => ?_) (fun c87 => ?_)
          · have hb : false = decide (7 < lnM T n t ∨ (0 < hi ∧ lnM T n t ≠ K (614 + 44 * pp))) := (decide_eq_false (by omega)).symm
            exact q6_97 (b1 := false) (a0 := s 6) hN hT hO1 hB1 hP1 hD1 hp3 h6 hd hhi (by rw [e5]; rfl) (by rw [e6]; rfl) hb (fun g s2 p2 t2 K2 hO3 hP3 hA3 hD3 hY3 st3 => ⟨s2, p2, t2, K2, hO3, hP3, hA1.N.tr hA3, hD3, y1.w.tr hY3, st3⟩)
          · refine ax_aload_n dX6_readLine_90 rfl ?_
            refine ax_bipush dX6_readLine_91 (by decide) ?_
            refine ax_iload_n dX6_readLine_93 rfl ?_
            refine ax_cvv2 dX6_readLine_94 ln_X6_readLine_99 (Nat.le_of_ble_eq_true rfl) rfl (by omega) hO1 rfl (s6_report hN hO1 (by omega)) (fun g2 hq => ?_)
            obtain ⟨hO2, y2⟩ := hq
            have hb : true = decide (7 < lnM T n t ∨ (0 < hi ∧ lnM T n t ≠ K (614 + 44 * pp))) := (decide_eq_true (by omega)).symm
            exact q6_97 (b1 := true) (a0 := s 6) hN hT hO2 (hB1.mv (y2 113 (by decide))) hP1.rep (hD1.mv (y2 115 (by decide))) hp3 h6 hd hhi (by rw [rep5, if_pos e5]; rfl) (by rw [rep6, if_pos e5]; rfl) hb (fun g s2 p2 t2 K2 hO3 hP3 hA3 hD3 hY3 st3 => ⟨s2, p2, t2, K2, hO3, hP3, hA1.N.tr (repN.tr hA3), hD3, (y1.tr y2).w.tr hY3, st3⟩)
    · exfalso
      rw [if_pos e5] at c24
      omega
  · have hd : ¬ isD T n t = true := fun q => by (rw [if_pos (isD_chr.mp q)] at c7; omega)
    refine ax_aload_n dX6_readLine_10 rfl ?_
    refine ax_bipush dX6_readLine_11 (by decide) ?_
    refine ax_aload_n dX6_readLine_13 rfl ?_
    refine ax_getf dX6_readLine_14 ck6 fl_X6_70 (by decide) (by omega) hO1 rfl ?_
    rw [hP1.2.2.1]
    refine ax_cvv2 dX6_readLine_17 ln_X6_readLine_99 (Nat.le_of_ble_eq_true rfl) rfl (by omega) hO1 rfl (s6_report hN hO1 (by omega)) (fun g2 hq => ?_)
    obtain ⟨hO2, y2⟩ := hq
    have q5 : rep s1 (-2) (t : Int) 5 = -2 := by rw [rep5, if_pos e5]
    have q6 : rep s1 (-2) (t : Int) 6 = (t : Int) := by rw [rep6, if_pos e5]
    refine ax_aload_n dX6_readLine_20 rfl ?_
    refine ax_cviP0 dX6_readLine_21 ln_X6_readLine_82 (Nat.le_of_ble_eq_true rfl) (Or.inr rfl) (by omega) hO2 rfl (s6_isGood hN hO2 (by omega)) ?_
    refine ax_if_ne (tgt := 28) dX6_readLine_24 (by decide) (by split <;> omega) (fun c24 => ?_) (fun c24 => ?_)
    · exfalso
      rw [if_neg (by omega)] at c24
      exact absurd rfl c24
    · exact ax_vret dX6_readLine_27 rfl ⟨_, t, t, K, hO2, hP1.rep, hA1.N.tr repN, hD1.mv (y2 115 (by decide)), (y1.tr y2).w, by unfold linR; rw [if_neg hd]; exact Or.inr ⟨rfl, Or.inl ⟨-2, t, rfl, by decide, q5, q6⟩⟩⟩
end RM
