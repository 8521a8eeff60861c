/-! the reference: a tick, to its end -/
def sh (t : Nat) (e : va_E) (n : Nat) : Prop := ∃ f, row t e n f
theorem sh.mv {t n : Nat} {e e' : va_E} (h : sh t e n) (q : e' = e) : sh t e' n := q ▸ h
theorem tikP_lo {K : Nat → Nat} {c j : Nat} (hj : j < 74) : tikP K c j = K j := by
  unfold tikP; rw [if_neg (by omega), if_neg (by omega)]
theorem tikP_c {K : Nat → Nat} {c : Nat} (hc : c < 180) : tikP K c (74 + c) = K (74 + c) := by
  unfold tikP; rw [if_neg (by omega), if_neg (by omega)]
theorem tikP_w {K : Nat → Nat} {c : Nat} (hc : c < 180) : tikP K c (254 + c) = K (254 + c) := by
  unfold tikP; rw [if_neg (by omega), if_neg (by omega)]
theorem nC_tikP {K : Nat → Nat} {c : Nat} : nC (tikP K c) = nC K := by
  unfold nC; rw [tikP_lo (by omega), tikP_lo (by omega)]
theorem tik_st1 {K : Nat → Nat} {c : Nat} (hc : c < 180) (hb : blT K c < 0) : ∀ i, i < 746 → upZ (fun i => (tikP K c i : Int)) (254 + c) (wetT K c) i = (tikP K (c + 1) i : Int) := by
  intro i hi
  simp only [upZ]
  by_cases q : i = 254 + c
  · rw [if_pos q, q]
    unfold tikP
    rw [if_neg (by omega), if_pos (by omega), show 254 + c - 254 = c by omega]
  · rw [if_neg q]
    by_cases q2 : i = 74 + c
    · rw [q2, tikP_c hc]
      unfold tikP
      rw [if_pos (by omega), show 74 + c - 74 = c by omega]
      unfold colT
      rw [if_neg (by omega)]
    · unfold tikP
      by_cases z1 : 74 ≤ i ∧ i < 74 + c
      · rw [if_pos z1, if_pos (by omega)]
      · rw [if_neg z1, if_neg (by omega : ¬ (74 ≤ i ∧ i < 74 + (c + 1)))]
        by_cases z2 : 254 ≤ i ∧ i < 254 + c
        · rw [if_pos z2, if_pos (by omega)]
        · rw [if_neg z2, if_neg (by omega : ¬ (254 ≤ i ∧ i < 254 + (c + 1)))]
theorem tik_st2 {K : Nat → Nat} {c : Nat} {v2 : Int} (hc : c < 180) : ∀ i, i < 746 → upZ (upZ (upZ (fun i => (tikP K c i : Int)) (74 + c) (colT K c)) (254 + c) v2) (254 + c) (wetT K c) i = (tikP K (c + 1) i : Int) := by
  intro i hi
  simp only [upZ]
  by_cases q : i = 254 + c
  · rw [if_pos q, q]
    unfold tikP
    rw [if_neg (by omega), if_pos (by omega), show 254 + c - 254 = c by omega]
  · rw [if_neg q, if_neg q]
    by_cases q2 : i = 74 + c
    · rw [if_pos q2, q2]
      unfold tikP
      rw [if_pos (by omega), show 74 + c - 74 = c by omega]
    · rw [if_neg q2]
      unfold tikP
      by_cases z1 : 74 ≤ i ∧ i < 74 + c
      · rw [if_pos z1, if_pos (by omega)]
      · rw [if_neg z1, if_neg (by omega : ¬ (74 ≤ i ∧ i < 74 + (c + 1)))]
        by_cases z2 : 254 ≤ i ∧ i < 254 + c
        · rw [if_pos z2, if_pos (by omega)]
        · rw [if_neg z2, if_neg (by omega : ¬ (254 ≤ i ∧ i < 254 + (c + 1)))]
theorem off_big {K : Nat → Nat} (hK : KI K) {i : Nat} (hi : nC K ≤ i) : on K i = false := by
  have k0 := hK.1
  cases e : on K i with
  | false => rfl
  | true =>
    exfalso
    unfold on at e
    rw [onZ_iff] at e
    have h1 : K 1 ≤ i / K 0 := (Nat.le_div_iff_mul_le (by omega)).mpr (by rw [Nat.mul_comm]; exact hi)
    have h2 := e.2.1
    have h3 : ((K 1 : Nat) : Int) ≤ ((i / K 0 : Nat) : Int) := Int.ofNat_le.mpr h1
    omega
theorem blT_off {K : Nat → Nat} {i : Nat} (h : on K i = false) : blT K i = -1 := by
  unfold blT; rw [if_neg (by rw [h]; decide)]
theorem tik_end {K : Nat → Nat} (hK : KI K) : ∀ i, i < 746 → upZ (fun i => (tikP K (nC K) i : Int)) 2 ((K 2 : Int) + 1) i = (tikN K i : Int) := by
  intro i hi
  have n0 := nC_le hK
  simp only [upZ, tikN]
  by_cases q : i = 2
  · rw [if_pos q, if_pos q]; push_cast; rfl
  · rw [if_neg q, if_neg q]
    unfold tikP
    by_cases z1 : 74 ≤ i ∧ i < 254
    · rw [if_pos z1]
      by_cases z2 : i < 74 + nC K
      · rw [if_pos (by omega)]
      · have hb := blT_off (off_big hK (i := i - 74) (by omega))
        rw [if_neg (by omega), if_neg (by omega)]
        unfold colT
        rw [if_neg (by omega), show 74 + (i - 74) = i by omega]
    · rw [if_neg z1, if_neg (by omega)]
      by_cases z2 : 254 ≤ i ∧ i < 434
      · rw [if_pos z2]
        by_cases z3 : i < 254 + nC K
        · rw [if_pos (by omega)]
        · have hb := blT_off (off_big hK (i := i - 254) (by omega))
          rw [if_neg (by omega)]
          unfold wetT
          rw [if_neg (by omega), show 254 + (i - 254) = i by omega]
          rcases hK.2.2.2.2.2.2.2.1 (i - 254) (by omega) with y | y
          · omega
          · rw [show 254 + (i - 254) = i by omega] at y; omega
      · rw [if_neg z2, if_neg (by omega)]
section MT
variable {NC : Nat} {h : hp} {s : Nat → Int} {K : Nat → Nat} {Q : qt}
theorem l6_tick2 (hN : 132 ≤ NC) (hK : KI K) {F C W : Nat → Int} (iF : ∀ i, i < nC K → F i = blT K i) (iC : ∀ i, i < nC K → 0 ≤ blT K i → C i = colT K i) (iW : ∀ i, i < nC K → 0 ≤ blT K i → W i = halT K i) (kk : ∀ (g : hp) (w : Value), MD g s (tikP K (nC K)) → row 0 (g 126) 180 F → row 0 (g 127) 180 C → row 0 (g 128) 180 W → EqX [114, 126, 127, 128] h g → Ex NC none M_X6_tick 216 [.ref 112, .int (I (bleC K)), .int (I (nC K : Int)), w] [] g Q) : ∀ (n : Nat) (c : Nat) (w : Value) (g : hp), c + n = nC K → MD g s (tikP K c) → row 0 (g 126) 180 F → row 0 (g 127) 180 C → row 0 (g 128) 180 W → EqX [114, 126, 127, 128] h g → Ex NC none M_X6_tick 136 [.ref 112, .int (I (bleC K)), .int (I (c : Int)), w] [] g Q := by
  have n0 := nC_le hK
  have k0 := hK.1
  intro n
  induction n with
  | zero =>
    intro c w g hc hM hF hC hW hX
    have gb := blT_rg hK c
    obtain ⟨hO, hD⟩ := id hM
    refine ax_iload_n dX6_tick_136 rfl ?_
    refine ax_aload_n dX6_tick_137 rfl ?_
    refine ax_cviP0 dX6_tick_138 ln_X6_tick_205 (Nat.le_of_ble_eq_true rfl) (Or.inl rfl) (by omega) hO rfl (s6_cells0 hN hM) ?_
    rw [nC_tikP]
    refine ax_icmp_ge (tgt := 216) dX6_tick_141 (by decide) (by omega) (by omega) (fun c141 => ?_) (fun c141 => ?_)
    · have e : c = nC K := by omega
      subst e
      exact kk g w hM hF hC hW hX
    · exfalso
      omega
  | succ n ih =>
    intro c w g hc hM hF hC hW hX
    have gb := blT_rg hK c
    obtain ⟨hO, hD⟩ := id hM
    refine ax_iload_n dX6_tick_136 rfl ?_
    refine ax_aload_n dX6_tick_137 rfl ?_
    refine ax_cviP0 dX6_tick_138 ln_X6_tick_205 (Nat.le_of_ble_eq_true rfl) (Or.inl rfl) (by omega) hO rfl (s6_cells0 hN hM) ?_
    rw [nC_tikP]
    refine ax_icmp_ge (tgt := 216) dX6_tick_141 (by decide) (by omega) (by omega) (fun c141 => ?_) (fun c141 => ?_)
    · exfalso
      omega
    · have w9e := hK.2.2.2.2.2.1 c (by omega)
      refine ax_aload_n dX6_tick_144 rfl ?_
      refine ax_getf dX6_tick_145 ck6 fl_X6_31 (by decide) (by omega) hO rfl ?_
      refine ax_iload_n dX6_tick_148 rfl ?_
      refine ax_ialr (j := c) (w := (F c : Int)) dX6_tick_149 (by omega) hF (by omega) (by omega) (by decide) rfl ?_
      refine ax_if_lt (tgt := 184) dX6_tick_150 (by decide) (by rw [iF c (by omega)]; omega) (fun c150 => ?_) (fun c150 => ?_)
      · rw [iF c (by omega)] at c150
        refine ax_aload_n dX6_tick_184 rfl ?_
        refine ax_getf dX6_tick_185 ck6 fl_X6_17 (by decide) (by omega) hO rfl ?_
        refine ax_sipush dX6_tick_188 (by decide) ?_
        refine ax_iload_n dX6_tick_191 rfl ?_
        refine ax_iadd dX6_tick_192 ?_
        refine ax_iconst dX6_tick_193 ?_
        refine ax_aload_n dX6_tick_194 rfl ?_
        refine ax_getf dX6_tick_195 ck6 fl_X6_17 (by decide) (by omega) hO rfl ?_
        refine ax_sipush dX6_tick_198 (by decide) ?_
        refine ax_iload_n dX6_tick_201 rfl ?_
        refine ax_iadd dX6_tick_202 ?_
        refine ax_ialr (j := (254 + c)) (w := (K (254 + c) : Int)) dX6_tick_203 (by omega) hD (by omega) (by omega) (by decide) (congrArg Int.ofNat (tikP_w (by omega))) ?_
        refine ax_iconst dX6_tick_204 ?_
        refine ax_isub dX6_tick_205 ?_
        refine ax_csiP2 dX6_tick_206 ln_X6_tick_202 (Nat.le_of_ble_eq_true rfl) (Or.inl rfl) (s6_max (by omega) (by omega)) ?_
        rw [show max (0 : Int) ((K (254 + c) : Int) - 1) = (wetT K c : Int) by unfold wetT; rw [if_neg (by omega)]; omega]
        refine ax_iasr (j := (254 + c)) dX6_tick_209 (by omega) hD (by omega) (by omega) (by decide) (fun e209 he209 => ?_)
        have hX1 := hX.up (b := 114) (e := e209) (by decide)
        have hO1 : va_up g 114 e209 112 = _ := (vu_ne (by decide)).trans hO
        have hD1 : row 0 (va_up g 114 e209 114) 746 _ := he209.mv vu_eq
        have hF1 : row 0 (va_up g 114 e209 126) 180 _ := hF.mv (vu_ne (by decide))
        have hC1 : row 0 (va_up g 114 e209 127) 180 _ := hC.mv (vu_ne (by decide))
        have hW1 : row 0 (va_up g 114 e209 128) 180 _ := hW.mv (vu_ne (by decide))
        generalize va_up g 114 e209 = g1 at *
        refine ax_iinc dX6_tick_210 rfl rfl (by decide) ?_
        refine ax_goto (tgt := 136) dX6_tick_213 (by decide) ?_
        exact ih (c + 1) w g1 (by omega) ⟨hO1, hD1.cong (tik_st1 (by omega) (by omega))⟩ hF1 hC1 hW1 hX1
      · rw [iF c (by omega)] at c150
        have hl1 : halT K c ≤ 9 := by
          obtain ⟨q, eq⟩ : ∃ q : Nat, blT K c = (q : Int) := ⟨(blT K c).toNat, by omega⟩
          have w1 := hK.2.2.2.2.2.1 q (by omega)
          unfold halT
          rw [eq, Int.toNat_natCast]
          omega
        refine ax_aload_n dX6_tick_153 rfl ?_
        refine ax_getf dX6_tick_154 ck6 fl_X6_17 (by decide) (by omega) hO rfl ?_
        refine ax_bipush dX6_tick_157 (by decide) ?_
        refine ax_iload_n dX6_tick_159 rfl ?_
        refine ax_iadd dX6_tick_160 ?_
        refine ax_aload_n dX6_tick_161 rfl ?_
        refine ax_getf dX6_tick_162 ck6 fl_X6_34 (by decide) (by omega) hO rfl ?_
        refine ax_iload_n dX6_tick_165 rfl ?_
        refine ax_ialr (j := c) (w := (C c : Int)) dX6_tick_166 (by omega) hC (by omega) (by omega) (by decide) rfl ?_
        rw [iC c (by omega) (by omega)]
        refine ax_iasr (j := (74 + c)) dX6_tick_167 (by omega) hD (by omega) (by omega) (by decide) (fun e167 he167 => ?_)
        have hX1 := hX.up (b := 114) (e := e167) (by decide)
        have hO1 : va_up g 114 e167 112 = _ := (vu_ne (by decide)).trans hO
        have hD1 : row 0 (va_up g 114 e167 114) 746 _ := he167.mv vu_eq
        have hF1 : row 0 (va_up g 114 e167 126) 180 _ := hF.mv (vu_ne (by decide))
        have hC1 : row 0 (va_up g 114 e167 127) 180 _ := hC.mv (vu_ne (by decide))
        have hW1 : row 0 (va_up g 114 e167 128) 180 _ := hW.mv (vu_ne (by decide))
        generalize va_up g 114 e167 = g1 at *
        refine ax_aload_n dX6_tick_168 rfl ?_
        refine ax_getf dX6_tick_169 ck6 fl_X6_17 (by decide) (by omega) hO1 rfl ?_
        refine ax_sipush dX6_tick_172 (by decide) ?_
        refine ax_iload_n dX6_tick_175 rfl ?_
        refine ax_iadd dX6_tick_176 ?_
        refine ax_aload_n dX6_tick_177 rfl ?_
        refine ax_getf dX6_tick_178 ck6 fl_X6_37 (by decide) (by omega) hO1 rfl ?_
        refine ax_iload_n dX6_tick_181 rfl ?_
        refine ax_ialr (j := c) (w := (W c : Int)) dX6_tick_182 (by omega) hW1 (by omega) (by omega) (by decide) rfl ?_
        rw [iW c (by omega) (by omega)]
        refine ax_iasr (j := (254 + c)) dX6_tick_183 (by omega) hD1 (by omega) (by omega) (by decide) (fun e183 he183 => ?_)
        have hX2 := hX1.up (b := 114) (e := e183) (by decide)
        have hO2 : va_up g1 114 e183 112 = _ := (vu_ne (by decide)).trans hO1
        have hD2 : row 0 (va_up g1 114 e183 114) 746 _ := he183.mv vu_eq
        have hF2 : row 0 (va_up g1 114 e183 126) 180 _ := hF1.mv (vu_ne (by decide))
        have hC2 : row 0 (va_up g1 114 e183 127) 180 _ := hC1.mv (vu_ne (by decide))
        have hW2 : row 0 (va_up g1 114 e183 128) 180 _ := hW1.mv (vu_ne (by decide))
        generalize va_up g1 114 e183 = g2 at *
        refine ax_aload_n dX6_tick_184 rfl ?_
        refine ax_getf dX6_tick_185 ck6 fl_X6_17 (by decide) (by omega) hO2 rfl ?_
        refine ax_sipush dX6_tick_188 (by decide) ?_
        refine ax_iload_n dX6_tick_191 rfl ?_
        refine ax_iadd dX6_tick_192 ?_
        refine ax_iconst dX6_tick_193 ?_
        refine ax_aload_n dX6_tick_194 rfl ?_
        refine ax_getf dX6_tick_195 ck6 fl_X6_17 (by decide) (by omega) hO2 rfl ?_
        refine ax_sipush dX6_tick_198 (by decide) ?_
        refine ax_iload_n dX6_tick_201 rfl ?_
        refine ax_iadd dX6_tick_202 ?_
        refine ax_ialr (j := (254 + c)) (w := (halT K c : Int)) dX6_tick_203 (by omega) hD2 (by omega) (by omega) (by decide) (by unfold upZ; rw [if_pos rfl]) ?_
        refine ax_iconst dX6_tick_204 ?_
        refine ax_isub dX6_tick_205 ?_
        refine ax_csiP2 dX6_tick_206 ln_X6_tick_202 (Nat.le_of_ble_eq_true rfl) (Or.inl rfl) (s6_max (by omega) (by omega)) ?_
        rw [show max (0 : Int) ((halT K c : Int) - 1) = (wetT K c : Int) by unfold wetT; rw [if_pos (by omega)]; omega]
        refine ax_iasr (j := (254 + c)) dX6_tick_209 (by omega) hD2 (by omega) (by omega) (by decide) (fun e209 he209 => ?_)
        have hX3 := hX2.up (b := 114) (e := e209) (by decide)
        have hO3 : va_up g2 114 e209 112 = _ := (vu_ne (by decide)).trans hO2
        have hD3 : row 0 (va_up g2 114 e209 114) 746 _ := he209.mv vu_eq
        have hF3 : row 0 (va_up g2 114 e209 126) 180 _ := hF2.mv (vu_ne (by decide))
        have hC3 : row 0 (va_up g2 114 e209 127) 180 _ := hC2.mv (vu_ne (by decide))
        have hW3 : row 0 (va_up g2 114 e209 128) 180 _ := hW2.mv (vu_ne (by decide))
        generalize va_up g2 114 e209 = g3 at *
        refine ax_iinc dX6_tick_210 rfl rfl (by decide) ?_
        refine ax_goto (tgt := 136) dX6_tick_213 (by decide) ?_
        exact ih (c + 1) w g3 (by omega) ⟨hO3, hD3.cong (tik_st2 (by omega))⟩ hF3 hC3 hW3 hX3
theorem s6_tick (hN : 132 ≤ NC) (hM : MD h s K) (hK : KI K) (s1 : sh 0 (h 126) 180) (s2 : sh 0 (h 127) 180) (s3 : sh 0 (h 128) 180) : Cl NC M_X6_tick [.ref 112] h (fun v h1 => v = .int (I (bleC K)) ∧ MD h1 s (tikN K) ∧ sh 0 (h1 126) 180 ∧ sh 0 (h1 127) 180 ∧ sh 0 (h1 128) 180 ∧ EqX [114, 126, 127, 128] h h1) := by
  have k0 := hK.1
  refine ax_iconst dX6_tick_0 ?_
  refine ax_istore_n dX6_tick_1 rfl (by decide) ?_
  refine ax_iconst dX6_tick_2 ?_
  refine ax_istore_n dX6_tick_3 rfl (by decide) ?_
  obtain ⟨F0, s1⟩ := s1
  obtain ⟨C0, s2⟩ := s2
  obtain ⟨W0, s3⟩ := s3
  refine l6_tick1 (h := h) hN hK (fun w g F C W hM hF hC hW iF iC iW hX => ?_) (nC K) 0 0 .null h F0 C0 W0 (by omega) rfl hM s1 s2 s3 (fun i hi => by omega) (fun i hi => by omega) (fun i hi => by omega) EqX.rf
  refine ax_iconst dX6_tick_134 ?_
  refine ax_istore_n dX6_tick_135 rfl (by decide) ?_
  refine l6_tick2 (h := h) (s := s) hN hK iF iC iW (fun g2 w2 hM2 hF2 hC2 hW2 hX2 => ?_) (nC K) 0 w g (by omega) ?_ hF hC hW (hX.wk (by decide))
  · refine ax_aload_n dX6_tick_216 rfl ?_
    refine ax_getf dX6_tick_217 ck6 fl_X6_17 (by decide) (by omega) hM2.1 rfl ?_
    refine ax_iconst dX6_tick_220 ?_
    refine ax_dup2 dX6_tick_221 rfl rfl ?_
    refine ax_ialr (j := 2) (w := (K 2 : Int)) dX6_tick_222 (by omega) hM2.2 (by omega) (by omega) (by decide) (congrArg Int.ofNat (tikP_lo (by omega))) ?_
    refine ax_iconst dX6_tick_223 ?_
    refine ax_iadd dX6_tick_224 ?_
    refine ax_iasr (j := 2) dX6_tick_225 (by omega) hM2.2 (by omega) (by omega) (by decide) (fun e225 he225 => ?_)
    refine ax_iload_n dX6_tick_226 rfl ?_
    exact ax_iret dX6_tick_227 rfl ⟨rfl, ⟨(vu_ne (by decide)).trans hM2.1, (he225.mv vu_eq).cong (tik_end hK)⟩, ⟨_, hF2.mv (vu_ne (by decide))⟩, ⟨_, hC2.mv (vu_ne (by decide))⟩, ⟨_, hW2.mv (vu_ne (by decide))⟩, hX2.up (by decide)⟩
  · exact ⟨hM.1, hM.2.cong (fun i hi => by unfold tikP; rw [if_neg (by omega), if_neg (by omega)])⟩
end MT
