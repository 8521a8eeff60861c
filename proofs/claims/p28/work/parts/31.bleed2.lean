/-! the class: bleeding, to its end -/
def bleN (K : Nat → Nat) : Nat → Nat := fun j => if 74 ≤ j ∧ j < 254 then colT K (j - 74) else if 254 ≤ j ∧ j < 434 then hwT K (j - 254) else K j
def dryN (K : Nat → Nat) : Nat → Nat := fun j => if 254 ≤ j ∧ j < 434 then K j - 1 else K j
def dryP (K : Nat → Nat) (c : Nat) : Nat → Nat := fun j => if 254 ≤ j ∧ j < 254 + c then K j - 1 else K j
theorem tik_dry (K : Nat → Nat) : dryN (bleN K) = tikW K := by
  funext j
  unfold dryN tikW
  by_cases z1 : 74 ≤ j ∧ j < 254
  · rw [if_neg (by omega), if_pos z1]; unfold bleN; rw [if_pos z1]
  · rw [if_neg z1]
    by_cases z2 : 254 ≤ j ∧ j < 434
    · rw [if_pos z2, if_pos z2]; unfold bleN; rw [if_neg z1, if_pos z2]; rfl
    · rw [if_neg z2, if_neg z2]; unfold bleN; rw [if_neg z1, if_neg z2]
theorem tikW_lo {K : Nat → Nat} {j : Nat} (hj : j < 74) : tikW K j = K j := by
  unfold tikW; rw [if_neg (by omega), if_neg (by omega)]
theorem tikW_hi {K : Nat → Nat} {j : Nat} (hj : 434 ≤ j) : tikW K j = K j := by
  unfold tikW; rw [if_neg (by omega), if_neg (by omega)]
theorem tikW_c {K : Nat → Nat} {i : Nat} (hi : i < 180) : tikW K (74 + i) = colT K i := by
  unfold tikW; rw [if_pos (by omega), show 74 + i - 74 = i by omega]
theorem tikW_w {K : Nat → Nat} {i : Nat} (hi : i < 180) : tikW K (254 + i) = wetT K i := by
  unfold tikW; rw [if_neg (by omega), if_pos (by omega), show 254 + i - 254 = i by omega]
theorem onZ_lo {K K' : Nat → Nat} (h : ∀ j, j < 18 → K' j = K j) (x y : Int) (hy : y < 12) : onZ K' x y = onZ K x y := by
  unfold onZ
  by_cases h0 : 0 ≤ y
  · rw [h 0 (by omega), h 1 (by omega), h (6 + y.toNat) (by omega)]
  · simp [h0]
theorem on_lo {K K' : Nat → Nat} (hK : KI K) (h : ∀ j, j < 18 → K' j = K j) {i : Nat} (hi : i < nC K) : on K' i = on K i := by
  unfold on
  rw [h 0 (by omega), onZ_lo h _ _ (by have := div_12 hK hi; omega)]
theorem nC_lo {K K' : Nat → Nat} (h : ∀ j, j < 18 → K' j = K j) : nC K' = nC K := by
  unfold nC; rw [h 0 (by omega), h 1 (by omega)]
/-- a sail whose first numbers, spars and patterns are K's, and whose colours and wetness are in range and nothing off the sail -/
theorem KI.of {K K' : Nat → Nat} (hK : KI K) (h1 : ∀ j, j < 74 → j ≠ 2 → K' j = K j) (h2 : ∀ j, 614 ≤ j → K' j = K j) (h3 : ∀ i, i < 180 → K' (74 + i) ≤ 6) (h4 : ∀ i, i < 180 → K' (254 + i) ≤ 9) (h5 : ∀ i, i < 180 → K' (434 + i) ≤ 1) (h6 : ∀ i, i < 180 → ¬ (i < nC K ∧ on K i = true) → K' (74 + i) = 0 ∧ K' (254 + i) = 0 ∧ K' (434 + i) = 0) : KI K' := by
  have a1 : ∀ j, j < 18 → j ≠ 2 → K' j = K j := fun j hj hn => h1 j (by omega) hn
  have n1 : nC K' = nC K := by unfold nC; rw [h1 0 (by omega) (by omega), h1 1 (by omega) (by omega)]
  have o1 : ∀ i, i < nC K → on K' i = on K i := by
    intro i hi
    have d := div_12 hK hi
    unfold on onZ
    rw [h1 0 (by omega) (by omega), h1 1 (by omega) (by omega), h1 (6 + ((i / K 0 : Nat) : Int).toNat) (by rw [Int.toNat_natCast]; omega) (by omega)]
  have k0 := hK.1
  refine ⟨?_, fun y hy => ?_, fun c hc => ?_, fun i hi => ?_, h3, h4, h5, fun i hi => ?_, fun p hp => ?_⟩
  · rw [h1 0 (by omega) (by omega), h1 1 (by omega) (by omega), h1 3 (by omega) (by omega), h1 4 (by omega) (by omega), h1 5 (by omega) (by omega), h1 18 (by omega) (by omega)]; exact k0
  · rw [h1 0 (by omega) (by omega), h1 (6 + y) (by omega) (by omega)]; exact hK.2.1 y hy
  · rw [h1 (18 + c) (by omega) (by omega)]; exact hK.2.2.1 c hc
  · rw [h1 (25 + i) (by omega) (by omega)]; exact hK.2.2.2.1 i hi
  · rw [n1]
    by_cases q : i < nC K ∧ on K i = true
    · left; exact ⟨q.1, by rw [o1 i q.1]; exact q.2⟩
    · right; exact h6 i hi q
  · rw [h2 (614 + 44 * p) (by omega), h2 (615 + 44 * p) (by omega)]
    refine ⟨(hK.2.2.2.2.2.2.2.2 p hp).1, (hK.2.2.2.2.2.2.2.2 p hp).2.1, fun j hj => ?_⟩
    rw [h2 (616 + 44 * p + j) (by omega)]; exact (hK.2.2.2.2.2.2.2.2 p hp).2.2 j hj
theorem mix_le {K : Nat → Nat} (hK : KI K) {a c : Nat} (ha : a ≤ 6) (hc : c ≤ 6) : mixN K a c ≤ 6 := by
  have := hK.2.2.2.1 (a * 7 + c) (by omega)
  unfold mixN
  split
  · omega
  · split <;> omega
theorem colT_le {K : Nat → Nat} (hK : KI K) {i : Nat} (hi : i < 180) : colT K i ≤ 6 := by
  have g := blT_rg hK i
  have c1 := hK.2.2.2.2.1 i hi
  have c2 := hK.2.2.2.2.1 (blT K i).toNat (by omega)
  unfold colT
  split
  · split
    · omega
    · exact mix_le hK c1 c2
  · omega
theorem hwT_le {K : Nat → Nat} (hK : KI K) {i : Nat} (hi : i < 180) : hwT K i ≤ 9 := by
  have g := blT_rg hK i
  have c1 := hK.2.2.2.2.2.1 i hi
  have c2 := hK.2.2.2.2.2.1 (blT K i).toNat (by omega)
  unfold hwT halT
  split <;> omega
theorem wetT_hw (K : Nat → Nat) (i : Nat) : wetT K i = hwT K i - 1 := rfl
theorem off_of_not {K : Nat → Nat} (hK : KI K) {i : Nat} (h : ¬ (i < nC K ∧ on K i = true)) : on K i = false := by
  by_cases q : i < nC K
  · cases e : on K i with
    | false => rfl
    | true => exact absurd ⟨q, e⟩ h
  · exact off_big hK (by omega)
theorem KI.tik {K : Nat → Nat} (hK : KI K) : KI (tikW K) := by
  refine hK.of (fun j hj _ => tikW_lo hj) (fun j hj => tikW_hi (by omega)) (fun i hi => by rw [tikW_c hi]; exact colT_le hK hi) (fun i hi => by rw [tikW_w hi, wetT_hw]; have := hwT_le hK hi; omega) (fun i hi => by rw [tikW_hi (by omega)]; exact hK.2.2.2.2.2.2.1 i hi) (fun i hi h => ?_)
  have o := off_of_not hK h
  have z : K (74 + i) = 0 ∧ K (254 + i) = 0 ∧ K (434 + i) = 0 := by
    rcases hK.2.2.2.2.2.2.2.1 i hi with y | y
    · exact absurd y h
    · exact y
  rw [tikW_c hi, tikW_w hi, tikW_hi (by omega), colT_off o, wetT_hw, hwT_off o]
  omega
/-- many ticks -/
def twI (K : Nat → Nat) : Nat → (Nat → Nat)
  | 0 => K
  | n + 1 => tikW (twI K n)
def blI (K : Nat → Nat) : Nat → Int
  | 0 => 0
  | n + 1 => blI K n + bleC (twI K n)
theorem KI.tw {K : Nat → Nat} (hK : KI K) : ∀ n, KI (twI K n)
  | 0 => hK
  | n + 1 => (KI.tw hK n).tik
theorem twI_lo {K : Nat → Nat} {j : Nat} (hj : j < 74) : ∀ n, twI K n j = K j
  | 0 => rfl
  | n + 1 => (tikW_lo hj).trans (twI_lo hj n)
theorem bleC_rg {K : Nat → Nat} (hK : KI K) : 0 ≤ bleC K ∧ bleC K ≤ 180 := by
  have n0 := nC_le hK
  have := si_bd (f := cfB K) (c := 1) (by omega) (n := nC K) (fun k _ => by unfold cfB; split <;> omega)
  unfold bleC
  omega
theorem blI_rg {K : Nat → Nat} (hK : KI K) : ∀ n : Nat, 0 ≤ blI K n ∧ blI K n ≤ 180 * n
  | 0 => by simp [blI]
  | n + 1 => by
    have h1 := blI_rg hK n
    have h2 := bleC_rg (hK.tw n)
    show 0 ≤ blI K n + bleC (twI K n) ∧ blI K n + bleC (twI K n) ≤ 180 * ((n + 1 : Nat) : Int)
    push_cast
    omega
theorem mx_ge {f : Nat → Nat} : ∀ {n i : Nat}, i < n → f i ≤ mxN f n
  | 0, _, h => absurd h (Nat.not_lt_zero _)
  | n + 1, i, h => by
    show f i ≤ max (mxN f n) (f n)
    by_cases q : i = n
    · subst q; omega
    · have := mx_ge (f := f) (n := n) (i := i) (by omega); omega
theorem wet_le_grt {K : Nat → Nat} (hK : KI K) {i : Nat} (hi : i < 180) : K (254 + i) ≤ grtW K := by
  rw [← grt_180 hK]; exact mx_ge (f := fun i => K (254 + i)) hi
/-- a dry sail stays as it is -/
theorem pk_dry {K : Nat → Nat} (hK : KI K) (h : grtW K = 0) {i : Nat} {b nx ny : Int} : pkN K i b nx ny = b := by
  unfold pkN
  rw [if_neg]
  rintro ⟨⟨z1, z2, z3⟩, -⟩
  obtain ⟨u, v, rfl, rfl, u1, v1, n1, n2, -⟩ := onZ_nat hK z1
  have e1 : ((v : Int) * (K 0 : Int) + (u : Int)) = ((v * K 0 + u : Nat) : Int) := by push_cast; omega
  rw [e1, Int.toNat_natCast] at z3
  have := wet_le_grt hK (i := v * K 0 + u) (by omega)
  omega
theorem blT_dry {K : Nat → Nat} (hK : KI K) (h : grtW K = 0) (i : Nat) : blT K i < 0 := by
  unfold blT
  split
  · unfold blC blN
    split
    · omega
    · split
      · omega
      · unfold srcN
        rw [pk_dry hK h, pk_dry hK h, pk_dry hK h, pk_dry hK h]; omega
  · omega
theorem tik_dry0 {K : Nat → Nat} (hK : KI K) (h : grtW K = 0) : tikW K = K ∧ bleC K = 0 := by
  constructor
  · funext j
    unfold tikW
    by_cases z1 : 74 ≤ j ∧ j < 254
    · rw [if_pos z1]; unfold colT; rw [if_neg (by have := blT_dry hK h (j - 74); omega), show 74 + (j - 74) = j by omega]
    · rw [if_neg z1]
      by_cases z2 : 254 ≤ j ∧ j < 434
      · rw [if_pos z2]
        have := wet_le_grt hK (i := j - 254) (by omega)
        rw [show 254 + (j - 254) = j by omega] at this
        unfold wetT
        rw [if_neg (by have := blT_dry hK h (j - 254); omega), show 254 + (j - 254) = j by omega]
        omega
      · rw [if_neg z2]
  · unfold bleC
    rw [si_skip (Nat.zero_le _) (fun k _ _ => by unfold cfB; rw [if_neg (by have := blT_dry hK h k; omega)])]
    rfl
theorem tw_stay {K : Nat → Nat} (hK : KI K) {t : Nat} (h : grtW (twI K t) = 0) : ∀ d, twI K (t + d) = twI K t ∧ blI K (t + d) = blI K t
  | 0 => ⟨rfl, rfl⟩
  | d + 1 => by
    have ih := tw_stay hK h d
    have z := tik_dry0 (hK.tw t) h
    constructor
    · show tikW (twI K (t + d)) = _
      rw [ih.1, z.1]
    · show blI K (t + d) + bleC (twI K (t + d)) = _
      rw [ih.1, ih.2, z.2, Int.add_zero]
theorem bpC_end {K : Nat → Nat} (hK : KI K) {j : Nat} : bpC K (nC K) j = (colT K j : Int) := by
  unfold bpC
  by_cases q : j < nC K
  · rw [if_pos q]
  · rw [if_neg q, colT_off (off_big hK (by omega))]
theorem bpW_end {K : Nat → Nat} (hK : KI K) {j : Nat} : bpW K (nC K) j = (hwT K j : Int) := by
  unfold bpW
  by_cases q : j < nC K
  · rw [if_pos q]
  · rw [if_neg q, hwT_off (off_big hK (by omega))]
def FrB (h g : hp) (b : Nat) : Prop := ∀ a, a ≠ 104 → a ≠ 105 → (a < b ∨ b + 10 ≤ a) → g a = h a
section BL
variable {NC b : Nat} {h : hp} {K : Nat → Nat} {Q : qt}
theorem sp_bleedOnce (hN : 112 ≤ NC) (hb : b + 10 ≤ 103) (hS : SA NC h b K) (hK : KI K) (hB : BO h) (s4 : sh 0 (h 104) 180) (s5 : sh 0 (h 105) 180) : Cl NC M_X0_bleedOnce [.ref 103, .ref b] h (fun v h1 => v = .int (I (bleC K)) ∧ SA NC h1 b (bleN K) ∧ sh 0 (h1 104) 180 ∧ sh 0 (h1 105) 180 ∧ FrB h h1 b) := by
  have k0 := hK.1
  obtain ⟨f4, r4⟩ := s4
  obtain ⟨f5, r5⟩ := s5
  refine ax_iconst dX0_bleedOnce_0 ?_
  refine ax_istore_n dX0_bleedOnce_1 rfl (by decide) ?_
  refine ax_aload_n dX0_bleedOnce_2 rfl ?_
  refine ax_getf dX0_bleedOnce_3 ck3 fl_X0_36 (by decide) hS.n0 hS.o rfl ?_
  refine ax_iconst dX0_bleedOnce_6 ?_
  refine ax_aload_n dX0_bleedOnce_7 rfl ?_
  refine ax_getf dX0_bleedOnce_8 ck0 fl_X0_9 (by decide) (by omega) hB rfl ?_
  refine ax_iconst dX0_bleedOnce_11 ?_
  refine ax_sipush dX0_bleedOnce_12 (by decide) ?_
  refine ax_copy (n := 180) (by exact dX0_bleedOnce_15) (by decide) (show 2 ≤ _ ∧ 50 ≤ _ from ⟨by decide, by decide⟩) (Nat.le_of_ble_eq_true rfl) (hS.n 7 (by omega)) ((by omega)) hS.co r4 (by decide) (fun e15 he15 => ?_)
  have hS1 : SA NC (va_up h 104 e15) b K := hS.eq (fun a h1 h2 => vu_ne (by omega))
  have hB1 : BO (va_up h 104 e15) := (vu_ne (by decide)).trans hB
  have q4 : row 0 (va_up h 104 e15 104) 180 _ := he15.mv vu_eq
  have q5 : row 0 (va_up h 104 e15 105) 180 _ := r5.mv (vu_ne (by decide))
  have x1 : EqX [104, 105] h (va_up h 104 e15) := EqX.rf.up (by decide)
  generalize va_up h 104 e15 = g1 at *
  refine ax_aload_n dX0_bleedOnce_18 rfl ?_
  refine ax_getf dX0_bleedOnce_19 ck3 fl_X0_45 (by decide) hS1.n0 hS1.o rfl ?_
  refine ax_iconst dX0_bleedOnce_22 ?_
  refine ax_aload_n dX0_bleedOnce_23 rfl ?_
  refine ax_getf dX0_bleedOnce_24 ck0 fl_X0_15 (by decide) (by omega) hB1 rfl ?_
  refine ax_iconst dX0_bleedOnce_27 ?_
  refine ax_sipush dX0_bleedOnce_28 (by decide) ?_
  refine ax_copy (n := 180) (by exact dX0_bleedOnce_31) (by decide) (show 2 ≤ _ ∧ 50 ≤ _ from ⟨by decide, by decide⟩) (Nat.le_of_ble_eq_true rfl) (hS1.n 8 (by omega)) ((by omega)) hS1.we q5 (by decide) (fun e31 he31 => ?_)
  have hS2 : SA NC (va_up g1 105 e31) b K := hS1.eq (fun a h1 h2 => vu_ne (by omega))
  have hB2 : BO (va_up g1 105 e31) := (vu_ne (by decide)).trans hB1
  have p4 : row 0 (va_up g1 105 e31 104) 180 _ := q4.mv (vu_ne (by decide))
  have p5 : row 0 (va_up g1 105 e31 105) 180 _ := he31.mv vu_eq
  have x2 : EqX [104, 105] h (va_up g1 105 e31) := x1.up (by decide)
  generalize va_up g1 105 e31 = g2 at *
  refine ax_iconst dX0_bleedOnce_34 ?_
  refine ax_istore_n dX0_bleedOnce_35 rfl (by decide) ?_
  refine lo_bleed (h := g2) hN hb hS2 hK hB2 (fun w4 w5 g3 N W hN1 hW1 iN iW hX => ?_) (K 1) 0 0 .null .null g2 _ _ (by omega) (by rw [Nat.zero_mul]; rfl) p4 p5 (fun j hj => by rw [Nat.zero_mul]; unfold bpC; rw [if_neg (by omega)]) (fun j hj => by rw [Nat.zero_mul]; unfold bpW; rw [if_neg (by omega)]) EqX.rf
  have x3 := x2.tr hX
  have hS3 : SA NC g3 b K := hS2.eq (fun a h1 h2 => hX a (by simp; omega))
  have hB3 : BO g3 := (hX 103 (by decide)).trans hB2
  refine ax_aload_n dX0_bleedOnce_104 rfl ?_
  refine ax_getf dX0_bleedOnce_105 ck0 fl_X0_9 (by decide) (by omega) hB3 rfl ?_
  refine ax_iconst dX0_bleedOnce_108 ?_
  refine ax_aload_n dX0_bleedOnce_109 rfl ?_
  refine ax_getf dX0_bleedOnce_110 ck3 fl_X0_36 (by decide) hS3.n0 hS3.o rfl ?_
  refine ax_iconst dX0_bleedOnce_113 ?_
  refine ax_sipush dX0_bleedOnce_114 (by decide) ?_
  refine ax_copy (n := 180) (by exact dX0_bleedOnce_117) (by decide) (show 2 ≤ _ ∧ 50 ≤ _ from ⟨by decide, by decide⟩) (Nat.le_of_ble_eq_true rfl) ((by omega)) (hS3.n 7 (by omega)) hN1 hS3.co (by decide) (fun e117 he117 => ?_)
  have o1 : va_up g3 (b + 7) e117 b = _ := (vu_ne (by omega)).trans hS3.o
  have hB4 : BO (va_up g3 (b + 7) e117) := (vu_ne (by omega)).trans hB3
  have w1 : row 0 (va_up g3 (b + 7) e117 105) 180 _ := hW1.mv (vu_ne (by omega))
  have w8 : row 0 (va_up g3 (b + 7) e117 (b + 8)) 180 _ := hS3.we.mv (vu_ne (by omega))
  have w7 : row 0 (va_up g3 (b + 7) e117 (b + 7)) 180 _ := he117.mv vu_eq
  have n4 : row 0 (va_up g3 (b + 7) e117 104) 180 _ := hN1.mv (vu_ne (by omega))
  have fr4 : ∀ a, a ≠ b + 7 → va_up g3 (b + 7) e117 a = g3 a := fun a ha => vu_ne ha
  generalize va_up g3 (b + 7) e117 = g4 at *
  refine ax_aload_n dX0_bleedOnce_120 rfl ?_
  refine ax_getf dX0_bleedOnce_121 ck0 fl_X0_15 (by decide) (by omega) hB4 rfl ?_
  refine ax_iconst dX0_bleedOnce_124 ?_
  refine ax_aload_n dX0_bleedOnce_125 rfl ?_
  refine ax_getf dX0_bleedOnce_126 ck3 fl_X0_45 (by decide) hS.n0 o1 rfl ?_
  refine ax_iconst dX0_bleedOnce_129 ?_
  refine ax_sipush dX0_bleedOnce_130 (by decide) ?_
  refine ax_copy (n := 180) (by exact dX0_bleedOnce_133) (by decide) (show 2 ≤ _ ∧ 50 ≤ _ from ⟨by decide, by decide⟩) (Nat.le_of_ble_eq_true rfl) ((by omega)) (hS.n 8 (by omega)) w1 w8 (by decide) (fun e133 he133 => ?_)
  have fr5 : ∀ a, a ≠ b + 8 → va_up g4 (b + 8) e133 a = g4 a := fun a ha => vu_ne ha
  have z8 : row 0 (va_up g4 (b + 8) e133 (b + 8)) 180 _ := he133.mv vu_eq
  generalize va_up g4 (b + 8) e133 = g5 at *
  refine ax_iload_n dX0_bleedOnce_136 rfl ?_
  exact ax_iret dX0_bleedOnce_137 rfl ⟨rfl, ⟨hS.1, ((fr5 b (by omega)).trans o1).trans (by rw [show sailF (bleN K) b = sailF K b from by unfold sailF bleN; simp]), (((hS3.re.mv (fr4 _ (by omega))).mv (fr5 _ (by omega))).cong (fun i hi => by unfold bleN; rw [if_neg (by omega), if_neg (by omega)])), (((hS3.cw.mv (fr4 _ (by omega))).mv (fr5 _ (by omega))).cong (fun i hi => by unfold bleN; rw [if_neg (by omega), if_neg (by omega)])), (((hS3.mx.mv (fr4 _ (by omega))).mv (fr5 _ (by omega))).cong (fun i hi => by unfold bleN; rw [if_neg (by omega), if_neg (by omega)])), (((hS3.pl.mv (fr4 _ (by omega))).mv (fr5 _ (by omega))).cong (fun i hi => by unfold bleN; rw [if_neg (by omega), if_neg (by omega)])), (((hS3.pd.mv (fr4 _ (by omega))).mv (fr5 _ (by omega))).cong (fun i hi => by unfold bleN; rw [if_neg (by omega), if_neg (by omega)])), (((hS3.pc.mv (fr4 _ (by omega))).mv (fr5 _ (by omega))).cong (fun i hi => by unfold bleN; rw [if_neg (by omega), if_neg (by omega)])), ((w7.mv (fr5 _ (by omega))).cong (fun j hj => by rw [iN j hj, bpC_end hK]; unfold bleN; rw [if_pos (by omega : 74 ≤ 74 + j ∧ 74 + j < 254), show 74 + j - 74 = j by omega])), (z8.cong (fun j hj => by rw [iW j hj, bpW_end hK]; unfold bleN; rw [if_neg (by omega : ¬ (74 ≤ 254 + j ∧ 254 + j < 254)), if_pos (by omega : 254 ≤ 254 + j ∧ 254 + j < 434), show 254 + j - 254 = j by omega])), (((hS3.sp.mv (fr4 _ (by omega))).mv (fr5 _ (by omega))).cong (fun i hi => by unfold bleN; rw [if_neg (by omega), if_neg (by omega)]))⟩, ⟨_, n4.mv (fr5 _ (by omega))⟩, ⟨_, w1.mv (fr5 _ (by omega))⟩, fun a h4 h5 ha => ((fr5 a (by omega)).trans (fr4 a (by omega))).trans (x3 a (by simp; omega))⟩
theorem dry_st {K : Nat → Nat} {c : Nat} (hc : c < 180) : upN (dryP K c) (254 + c) (K (254 + c) - 1) = dryP K (c + 1) := by
  funext j
  unfold upN dryP
  by_cases q : j = 254 + c
  · rw [if_pos q, if_pos (by omega), q]
  · rw [if_neg q]
    by_cases z : 254 ≤ j ∧ j < 254 + c
    · rw [if_pos z, if_pos (by omega)]
    · rw [if_neg z, if_neg (by omega)]
theorem dry_st0 {K : Nat → Nat} {c : Nat} (h : K (254 + c) = 0) : dryP K (c + 1) = dryP K c := by
  funext j
  unfold dryP
  by_cases z : 254 ≤ j ∧ j < 254 + c
  · rw [if_pos z, if_pos (by omega)]
  · rw [if_neg z]
    by_cases q : j = 254 + c
    · rw [if_pos (by omega), q, h]
    · rw [if_neg (by omega)]
theorem dryP_c {K : Nat → Nat} {c : Nat} : dryP K c (254 + c) = K (254 + c) := by
  unfold dryP; rw [if_neg (by omega)]
theorem l_dry (hw : ∀ i, i < 180 → K (254 + i) ≤ 9) (kk : ∀ g : hp, SA NC g b (dryN K) → Fr h g b → Ex NC none M_X0_dryOnce 34 [.ref b, .int (I 180)] [] g Q) : ∀ (n : Nat) (c : Nat) (g : hp), c + n = 180 → SA NC g b (dryP K c) → Fr h g b → Ex NC none M_X0_dryOnce 2 [.ref b, .int (I (c : Int))] [] g Q := by
  intro n
  induction n with
  | zero =>
    intro c g hc hS hF
    refine ax_iload_n dX0_dryOnce_2 rfl ?_
    refine ax_sipush dX0_dryOnce_3 (by decide) ?_
    refine ax_icmp_ge (tgt := 34) dX0_dryOnce_6 (by decide) (by omega) (by omega) (fun c6 => ?_) (fun c6 => ?_)
    · have e : c = 180 := by omega
      subst e
      exact kk g hS hF
    · exfalso
      omega
  | succ n ih =>
    intro c g hc hS hF
    refine ax_iload_n dX0_dryOnce_2 rfl ?_
    refine ax_sipush dX0_dryOnce_3 (by decide) ?_
    refine ax_icmp_ge (tgt := 34) dX0_dryOnce_6 (by decide) (by omega) (by omega) (fun c6 => ?_) (fun c6 => ?_)
    · exfalso
      omega
    · refine ax_aload_n dX0_dryOnce_9 rfl ?_
      refine ax_getf dX0_dryOnce_10 ck3 fl_X0_45 (by decide) hS.n0 hS.o rfl ?_
      refine ax_iload_n dX0_dryOnce_13 rfl ?_
      refine ax_ialr (j := c) (w := (dryP K c (254 + c) : Int)) dX0_dryOnce_14 (hS.n 8 (by omega)) hS.we (by omega) (by omega) (by decide) rfl ?_
      rw [dryP_c]
      have hw1 := hw c (by omega)
      refine ax_if_le (tgt := 28) dX0_dryOnce_15 (by decide) (by omega) (fun c15 => ?_) (fun c15 => ?_)
      · refine ax_iinc dX0_dryOnce_28 rfl rfl (by decide) ?_
        refine ax_goto (tgt := 2) dX0_dryOnce_31 (by decide) ?_
        exact ih (c + 1) g (by omega) (by rw [dry_st0 (by omega)]; exact hS) hF
      · refine ax_aload_n dX0_dryOnce_18 rfl ?_
        refine ax_getf dX0_dryOnce_19 ck3 fl_X0_45 (by decide) hS.n0 hS.o rfl ?_
        refine ax_iload_n dX0_dryOnce_22 rfl ?_
        refine ax_dup2 dX0_dryOnce_23 rfl rfl ?_
        refine ax_ialr (j := c) (w := (dryP K c (254 + c) : Int)) dX0_dryOnce_24 (hS.n 8 (by omega)) hS.we (by omega) (by omega) (by decide) rfl ?_
        refine ax_iconst dX0_dryOnce_25 ?_
        refine ax_isub dX0_dryOnce_26 ?_
        rw [dryP_c, show (K (254 + c) : Int) - 1 = ((K (254 + c) - 1 : Nat) : Int) by omega]
        refine ax_iasr (j := c) dX0_dryOnce_27 (hS.n 8 (by omega)) hS.we (by omega) (by omega) (by decide) (fun e27 he27 => ?_)
        have hS1 := hS.w8 (j := c) (by omega) he27
        rw [dry_st (by omega)] at hS1
        refine ax_iinc dX0_dryOnce_28 rfl rfl (by decide) ?_
        refine ax_goto (tgt := 2) dX0_dryOnce_31 (by decide) ?_
        exact ih (c + 1) _ (by omega) hS1 (hF.up (by omega))
theorem sp_dryOnce (hS : SA NC h b K) (hw : ∀ i, i < 180 → K (254 + i) ≤ 9) : Cl NC M_X0_dryOnce [.ref b] h (fun _ h1 => SW NC h h1 b (dryN K)) := by
  refine ax_iconst dX0_dryOnce_0 ?_
  refine ax_istore_n dX0_dryOnce_1 rfl (by decide) ?_
  refine l_dry (h := h) hw (fun g hS1 hF1 => ?_) 180 0 h (by omega) (by rw [show dryP K 0 = K from funext fun j => if_neg (by omega)]; exact hS) Fr.rf
  exact ax_vret dX0_dryOnce_34 rfl ⟨hS1, hF1⟩
theorem l_pass (hN : 112 ≤ NC) (hb : b + 10 ≤ 103) (hK : KI K) {T : Nat} (hT : T ≤ 1000) (kk : ∀ (w : Int) (g : hp), SA NC g b (twI K T) → BO g → sh 0 (g 104) 180 → sh 0 (g 105) 180 → FrB h g b → Ex NC none M_X0_letPass 36 [.ref 103, .ref b, .int (I (T : Int)), .int (I (blI K T)), .int (I w)] [] g Q) : ∀ (n : Nat) (t : Nat) (acc : Int) (g : hp), t + n = T → acc = blI K t → SA NC g b (twI K t) → BO g → sh 0 (g 104) 180 → sh 0 (g 105) 180 → FrB h g b → Ex NC none M_X0_letPass 5 [.ref 103, .ref b, .int (I (T : Int)), .int (I acc), .int (I (t : Int))] [] g Q := by
  intro n
  induction n with
  | zero =>
    intro t acc g ht ha hS hB s4 s5 hF
    refine ax_iload dX0_letPass_5 rfl ?_
    refine ax_iload_n dX0_letPass_7 rfl ?_
    refine ax_icmp_ge (tgt := 36) dX0_letPass_8 (by decide) (by omega) (by omega) (fun c8 => ?_) (fun c8 => ?_)
    · have e : t = T := by omega
      subst e
      rw [ha]
      exact kk _ g hS hB s4 s5 hF
    · exfalso
      omega
  | succ n ih =>
    intro t acc g ht ha hS hB s4 s5 hF
    refine ax_iload dX0_letPass_5 rfl ?_
    refine ax_iload_n dX0_letPass_7 rfl ?_
    refine ax_icmp_ge (tgt := 36) dX0_letPass_8 (by decide) (by omega) (by omega) (fun c8 => ?_) (fun c8 => ?_)
    · exfalso
      omega
    · refine ax_aload_n dX0_letPass_11 rfl ?_
      refine ax_cviP0 dX0_letPass_12 ln_X0_letPass_18 (Nat.le_of_ble_eq_true rfl) (Or.inl rfl) hS.n0 hS.o rfl (sp_greatestWetness hS (hK.tw t)) ?_
      have g9 := grt_le (hK.tw t)
      refine ax_if_le (tgt := 36) dX0_letPass_15 (by decide) (by omega) (fun c15 => ?_) (fun c15 => ?_)
      · have z := tw_stay hK (t := t) (by omega) (T - t)
        rw [show t + (T - t) = T by omega] at z
        rw [ha, ← z.2]
        rw [← z.1] at hS
        exact kk _ g hS hB s4 s5 hF
      · refine ax_iload_n dX0_letPass_18 rfl ?_
        refine ax_aload_n dX0_letPass_19 rfl ?_
        refine ax_aload_n dX0_letPass_20 rfl ?_
        refine ax_cvi1 dX0_letPass_21 ln_X0_letPass_24 (Nat.le_of_ble_eq_true rfl) (Or.inl rfl) (by omega) hB rfl (sp_bleedOnce hN hb hS (hK.tw t) hB s4 s5) (fun r g1 hq => ?_)
        obtain ⟨hr, hS1, s41, s51, hF1⟩ := hq
        cases hr
        have hB1 : BO g1 := (hF1 103 (by decide) (by decide) (by omega)).trans hB
        refine ax_iadd dX0_letPass_24 ?_
        refine ax_istore_n dX0_letPass_25 rfl (by decide) ?_
        refine ax_aload_n dX0_letPass_26 rfl ?_
        refine ax_csv1 dX0_letPass_27 ln_X0_letPass_28 (Nat.le_of_ble_eq_true rfl) rfl (sp_dryOnce hS1 (fun i hi => by unfold bleN; rw [if_neg (by omega), if_pos (by omega), show 254 + i - 254 = i by omega]; exact hwT_le (hK.tw t) hi)) (fun g2 hq => ?_)
        obtain ⟨hS2, hF2⟩ := hq
        rw [tik_dry] at hS2
        have hB2 : BO g2 := (hF2 103 (by omega)).trans hB1
        refine ax_iinc dX0_letPass_30 rfl rfl (by decide) ?_
        refine ax_goto (tgt := 5) dX0_letPass_33 (by decide) ?_
        exact ih (t + 1) _ g2 (by omega) (by rw [ha]; rfl) hS2 hB2 (s41.mv (hF2 104 (by omega))) (s51.mv (hF2 105 (by omega))) (fun a h1 h2 h3 => ((hF2 a h3).trans (hF1 a h1 h2 h3)).trans (hF a h1 h2 h3))
theorem sp_letPass (hN : 112 ≤ NC) (hb : b + 10 ≤ 103) (hS : SA NC h b K) (hK : KI K) (hB : BO h) (s4 : sh 0 (h 104) 180) (s5 : sh 0 (h 105) 180) {T : Nat} (hT : T ≤ 1000) : Cl NC M_X0_letPass [.ref 103, .ref b, .int (I (T : Int))] h (fun v h1 => v = .int (I (blI K T)) ∧ SA NC h1 b (upN (twI K T) 2 (K 2 + T)) ∧ sh 0 (h1 104) 180 ∧ sh 0 (h1 105) 180 ∧ FrB h h1 b) := by
  refine ax_iconst dX0_letPass_0 ?_
  refine ax_istore_n dX0_letPass_1 rfl (by decide) ?_
  refine ax_iconst dX0_letPass_2 ?_
  refine ax_istore dX0_letPass_3 rfl (by decide) ?_
  refine l_pass (h := h) hN hb hK hT (fun w g hS1 hB1 s41 s51 hF1 => ?_) T 0 0 h (by omega) rfl hS hB s4 s5 (fun a h1 h2 h3 => rfl)
  refine ax_aload_n dX0_letPass_36 rfl ?_
  refine ax_dup dX0_letPass_37 rfl ?_
  refine ax_getf dX0_letPass_38 ck3 fl_X0_32 (by decide) hS1.n0 hS1.o rfl ?_
  refine ax_iload_n dX0_letPass_41 rfl ?_
  refine ax_iadd dX0_letPass_42 ?_
  rw [show ((twI K T 2 : Nat) : Int) + (T : Int) = ((K 2 + T : Nat) : Int) by rw [twI_lo (by omega)]; push_cast; rfl]
  refine ax_putf dX0_letPass_43 ck3 fl_X0_32 (by decide) hS1.n0 hS1.o rfl (Or.inl rfl) (Nat.le_of_ble_eq_true rfl) rfl ?_
  have hS2 := hS1.f2 (c := K 2 + T)
  refine ax_iload_n dX0_letPass_46 rfl ?_
  exact ax_iret dX0_letPass_47 rfl ⟨rfl, hS2, s41.mv (vu_ne (by omega)), s51.mv (vu_ne (by omega)), fun a h1 h2 h3 => (vu_ne (by omega)).trans (hF1 a h1 h2 h3)⟩
end BL
