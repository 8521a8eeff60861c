/-! the class: foretold, covered, evens -/
def fotK (K : Nat → Nat) (T : Nat) : Nat → Nat := upN (twI K T) 2 (K 2 + T)
def fotN (K : Nat → Nat) (T w : Nat) : Int := if w = 0 then balW (fotK K T) else if w = 1 then cntC (fotK K T) 0 else if w = 2 then unlC (fotK K T) else if w = 3 then wetC (fotK K T) else blI K T
theorem KI.up2 {K : Nat → Nat} (hK : KI K) (v : Nat) : KI (upN K 2 v) := by
  refine hK.of (fun j h1 h2 => up_ne h2) (fun j h1 => up_ne (by omega)) (fun i hi => ?_) (fun i hi => ?_) (fun i hi => ?_) (fun i hi h => ?_)
  · rw [up_ne (by omega)]; exact hK.2.2.2.2.1 i hi
  · rw [up_ne (by omega)]; exact hK.2.2.2.2.2.1 i hi
  · rw [up_ne (by omega)]; exact hK.2.2.2.2.2.2.1 i hi
  · rw [up_ne (by omega), up_ne (by omega), up_ne (by omega)]
    rcases hK.2.2.2.2.2.2.2.1 i hi with q | q
    · exact absurd q h
    · exact q
theorem KI.fot {K : Nat → Nat} (hK : KI K) (T : Nat) : KI (fotK K T) := (hK.tw T).up2 _
def covN (K : Nat → Nat) : UInt32 := FP.fdiv (FP.i2f (I (allC K - cntC K 0))) (FP.i2f (I (allC K)))
theorem cnt_rg {K : Nat → Nat} (c : Nat) : ∀ n : Nat, 0 ≤ si (cfC K c) n ∧ si (cfC K c) n ≤ si (cfA K) n ∧ si (cfA K) n ≤ n
  | 0 => ⟨Int.le_refl _, Int.le_refl _, Int.le_refl _⟩
  | n + 1 => by
    have h := cnt_rg (K := K) c n
    rw [si_succ, si_succ]
    have e : 0 ≤ cfC K c n ∧ cfC K c n ≤ cfA K n ∧ cfA K n ≤ 1 := by
      unfold cfC cfA
      by_cases q : on K n = true
      · rw [if_pos q]; split <;> omega
      · rw [if_neg q, if_neg (fun z => q z.1)]; omega
    push_cast; omega
theorem all_pos {K : Nat → Nat} (hK : KI K) : 1 ≤ allC K := by
  have k0 := hK.1
  have h1 := row_all hK (y := 0) (by omega)
  have h2 : ∀ n m : Nat, n ≤ m → si (cfA K) n ≤ si (cfA K) m := by
    intro n m h
    induction h with
    | refl => exact Int.le_refl _
    | step h ih => rw [si_succ]; unfold cfA at ih ⊢; split <;> omega
  have h3 := h2 ((0 + 1) * K 0) (nC K) (by unfold nC; rw [Nat.mul_comm]; exact Nat.mul_le_mul_left _ (by omega))
  rw [Nat.zero_mul] at h1
  have h4 : si (cfA K) 0 = 0 := rfl
  unfold allC; omega
def covB (a b : Nat) : Bool := decide (FP.fdiv (FP.i2f (Int32.ofInt (a : Int))) (FP.i2f (Int32.ofInt (b : Int))) &&& 0x7fffffff ≤ 0x7f800000)

section CE
variable {NC : Nat} {h : hp} {K KS : Nat → Nat} {H : Nat → Nat → Nat} {d n : Nat} {e : Int} {Q : qt}
theorem sp_foretold (hN : 112 ≤ NC) (hW : KO h e) (hS : SA NC h 1 K) (hK : KI K) (hP : SA NC h 11 KS) (hB : BO h) (s4 : sh 0 (h 104) 180) (s5 : sh 0 (h 105) 180) {a w : Nat} (ha : 1 ≤ a ∧ a ≤ 40) (hw : w ≤ 4) : Cl NC M_X5_foretold [.ref 0, .int (I (a : Int)), .int (I (w : Int))] h (fun v h1 => v = .int (I (fotN K a w)) ∧ (∃ K1, SA NC h1 11 K1) ∧ sh 0 (h1 104) 180 ∧ sh 0 (h1 105) 180 ∧ ∀ b, (b < 11 ∨ 21 ≤ b) → b ≠ 104 → b ≠ 105 → h1 b = h b) := by
  refine ax_iload_n dX5_foretold_0 rfl ?_
  refine ax_iconst dX5_foretold_1 ?_
  refine ax_bipush dX5_foretold_2 (by decide) ?_
  refine ax_csvP3 dX5_foretold_4 ln_X5_foretold_58 (Nat.le_of_ble_eq_true rfl) rfl (sp_range (by omega) (by omega) (by omega) (by omega)) ?_
  refine ax_iload_n dX5_foretold_7 rfl ?_
  refine ax_iconst dX5_foretold_8 ?_
  refine ax_iconst dX5_foretold_9 ?_
  refine ax_csvP3 dX5_foretold_10 ln_X5_foretold_58 (Nat.le_of_ble_eq_true rfl) rfl (sp_range (by omega) (by omega) (by omega) (by omega)) ?_
  refine ax_aload_n dX5_foretold_13 rfl ?_
  refine ax_getf dX5_foretold_14 ck5 fl_X5_16 (by decide) (by omega) hW rfl ?_
  refine ax_aload_n dX5_foretold_17 rfl ?_
  refine ax_getf dX5_foretold_18 ck5 fl_X5_12 (by decide) (by omega) hW rfl ?_
  refine ax_cvv1 dX5_foretold_21 ln_X5_foretold_73 (Nat.le_of_ble_eq_true rfl) rfl hP.n0 hP.o rfl (sp_copyFrom hP hS (by omega)) (fun g1 hq => ?_)
  obtain ⟨hS1, hF1⟩ := hq
  have hW1 : KO g1 e := (hF1 0 (by omega)).trans hW
  have hB1 : BO g1 := (hF1 103 (by omega)).trans hB
  refine ax_aload_n dX5_foretold_24 rfl ?_
  refine ax_getf dX5_foretold_25 ck5 fl_X5_29 (by decide) (by omega) hW1 rfl ?_
  refine ax_aload_n dX5_foretold_28 rfl ?_
  refine ax_getf dX5_foretold_29 ck5 fl_X5_16 (by decide) (by omega) hW1 rfl ?_
  refine ax_iload_n dX5_foretold_32 rfl ?_
  refine ax_cvi2 dX5_foretold_33 ln_X5_foretold_167 (Nat.le_of_ble_eq_true rfl) (Or.inl rfl) (by omega) hB1 rfl (sp_letPass (b := 11) hN (by omega) hS1 hK hB1 (s4.mv (hF1 104 (by omega))) (s5.mv (hF1 105 (by omega))) (T := a) (by omega)) (fun r g2 hq => ?_)
  obtain ⟨hv, hS2, t4, t5, hF2⟩ := hq
  cases hv
  have hK2 := hK.fot a
  have hW2 : KO g2 e := (hF2 0 (by omega) (by omega) (by omega)).trans hW1
  change SA NC g2 11 (fotK K a) at hS2
  refine ax_istore_n dX5_foretold_36 rfl (by decide) ?_
  rcases (by omega : w = 0 ∨ w = 1 ∨ w = 2 ∨ w = 3 ∨ w = 4) with rfl | rfl | rfl | rfl | rfl
  · refine ax_iload_n dX5_foretold_37 rfl ?_
    refine ax_tabI (tgt := 68) dX5_foretold_38 (by omega) (by omega) rfl (by decide) ?_
    refine ax_aload_n dX5_foretold_68 rfl ?_
    refine ax_getf dX5_foretold_69 ck5 fl_X5_16 (by decide) (by omega) hW2 rfl ?_
    refine ax_cviP0 dX5_foretold_72 ln_X5_foretold_105 (Nat.le_of_ble_eq_true rfl) (Or.inl rfl) hS2.n0 hS2.o rfl (sp_balance hS2 hK2) ?_
    exact ax_iret dX5_foretold_75 rfl ⟨rfl, ⟨_, hS2⟩, t4, t5, fun b b1 b2 b3 => (hF2 b b2 b3 (by omega)).trans (hF1 b (by omega))⟩
  · refine ax_iload_n dX5_foretold_37 rfl ?_
    refine ax_tabI (tgt := 76) dX5_foretold_38 (by omega) (by omega) rfl (by decide) ?_
    refine ax_aload_n dX5_foretold_76 rfl ?_
    refine ax_getf dX5_foretold_77 ck5 fl_X5_16 (by decide) (by omega) hW2 rfl ?_
    refine ax_iconst dX5_foretold_80 ?_
    refine ax_cviP1 dX5_foretold_81 ln_X5_foretold_92 (Nat.le_of_ble_eq_true rfl) (Or.inl rfl) hS2.n0 hS2.o rfl (sp_cellsOfColour hS2 hK2 (c := 0) (by omega)) ?_
    exact ax_iret dX5_foretold_84 rfl ⟨rfl, ⟨_, hS2⟩, t4, t5, fun b b1 b2 b3 => (hF2 b b2 b3 (by omega)).trans (hF1 b (by omega))⟩
  · refine ax_iload_n dX5_foretold_37 rfl ?_
    refine ax_tabI (tgt := 85) dX5_foretold_38 (by omega) (by omega) rfl (by decide) ?_
    refine ax_aload_n dX5_foretold_85 rfl ?_
    refine ax_getf dX5_foretold_86 ck5 fl_X5_16 (by decide) (by omega) hW2 rfl ?_
    refine ax_cviP0 dX5_foretold_89 ln_X5_foretold_153 (Nat.le_of_ble_eq_true rfl) (Or.inl rfl) hS2.n0 hS2.o rfl (sp_unlikePairs hS2 hK2) ?_
    exact ax_iret dX5_foretold_92 rfl ⟨rfl, ⟨_, hS2⟩, t4, t5, fun b b1 b2 b3 => (hF2 b b2 b3 (by omega)).trans (hF1 b (by omega))⟩
  · refine ax_iload_n dX5_foretold_37 rfl ?_
    refine ax_tabI (tgt := 93) dX5_foretold_38 (by omega) (by omega) rfl (by decide) ?_
    refine ax_aload_n dX5_foretold_93 rfl ?_
    refine ax_getf dX5_foretold_94 ck5 fl_X5_16 (by decide) (by omega) hW2 rfl ?_
    refine ax_cviP0 dX5_foretold_97 ln_X5_foretold_96 (Nat.le_of_ble_eq_true rfl) (Or.inl rfl) hS2.n0 hS2.o rfl (sp_wetCells hS2 hK2) ?_
    exact ax_iret dX5_foretold_100 rfl ⟨rfl, ⟨_, hS2⟩, t4, t5, fun b b1 b2 b3 => (hF2 b b2 b3 (by omega)).trans (hF1 b (by omega))⟩
  · refine ax_iload_n dX5_foretold_37 rfl ?_
    refine ax_tabO (tgt := 101) dX5_foretold_38 (by omega) (by omega) (by decide) ?_
    refine ax_iload_n dX5_foretold_101 rfl ?_
    exact ax_iret dX5_foretold_102 rfl ⟨rfl, ⟨_, hS2⟩, t4, t5, fun b b1 b2 b3 => (hF2 b b2 b3 (by omega)).trans (hF1 b (by omega))⟩
theorem sx_foretold (hN : 112 ≤ NC) {a : Int} (ga : -2147483648 ≤ a ∧ a < 2147483648) {z : Int} (gz : -2147483648 ≤ z ∧ z < 2147483648) (hx : ¬ ((1 ≤ a ∧ a ≤ 40) ∧ 0 ≤ z ∧ z ≤ 4)) : Ct NC "java/lang/IllegalArgumentException" M_X5_foretold [.ref 0, .int (I a), .int (I z)] h (fun _ h1 => h1 = h) := by
  refine ax_iload_n dX5_foretold_0 rfl ?_
  refine ax_iconst dX5_foretold_1 ?_
  refine ax_bipush dX5_foretold_2 (by decide) ?_
  by_cases q : 1 ≤ a ∧ a ≤ 40
  · refine ax_csvP3 dX5_foretold_4 ln_X5_foretold_58 (Nat.le_of_ble_eq_true rfl) rfl (sp_range ga (by omega) (by omega) q) ?_
    refine ax_iload_n dX5_foretold_7 rfl ?_
    refine ax_iconst dX5_foretold_8 ?_
    refine ax_iconst dX5_foretold_9 ?_
    exact ax_csx3 dX5_foretold_10 ln_X5_foretold_58 (Nat.le_of_ble_eq_true rfl) rfl (sx_range gz (by omega) (by omega) (by omega)) (fun h1 q => q)
  · exact ax_csx3 dX5_foretold_4 ln_X5_foretold_58 (Nat.le_of_ble_eq_true rfl) rfl (sx_range ga (by omega) (by omega) q) (fun h1 q => q)
def hvN (K : Nat → Nat) (c i : Nat) : Int := sdN K i * ((K (18 + c) : Int) - (K (18 + K (74 + i)) : Int))
def evS (K : Nat → Nat) (c : Nat) : Nat → Int × Int
  | 0 => (max (balW K) (-(balW K)), -1)
  | n + 1 => if on K n = true ∧ max (balW K + hvN K c n) (-(balW K + hvN K c n)) < (evS K c n).1 then (max (balW K + hvN K c n) (-(balW K + hvN K c n)), (n : Int)) else evS K c n
theorem ev_t {K : Nat → Nat} {c n : Nat} (h : on K n = true ∧ max (balW K + hvN K c n) (-(balW K + hvN K c n)) < (evS K c n).1) : evS K c (n + 1) = (max (balW K + hvN K c n) (-(balW K + hvN K c n)), (n : Int)) := if_pos h
theorem ev_f {K : Nat → Nat} {c n : Nat} (h : ¬ (on K n = true ∧ max (balW K + hvN K c n) (-(balW K + hvN K c n)) < (evS K c n).1)) : evS K c (n + 1) = evS K c n := if_neg h
theorem bal_rg {K : Nat → Nat} (hK : KI K) : -60000 ≤ balW K ∧ balW K ≤ 60000 := by
  have h1 := sidW_rg hK 1
  have h2 := sidW_rg hK (-1)
  unfold balW; omega
theorem hv_rg {K : Nat → Nat} (hK : KI K) {c i : Nat} (hc : c < 7) (hi : i < 180) : -99 ≤ hvN K c i ∧ hvN K c i ≤ 99 := by
  have h1 := hK.2.2.1 c hc
  have h2 := hK.2.2.1 (K (74 + i)) (by have := hK.2.2.2.2.1 i hi; omega)
  have h3 := sgz_rg (((i % K 0 : Nat) : Int) - ((K 0 / 2 : Nat) : Int))
  unfold hvN
  change -1 ≤ sdN K i ∧ sdN K i ≤ 1 at h3
  rcases (by omega : sdN K i = -1 ∨ sdN K i = 0 ∨ sdN K i = 1) with q | q | q <;> rw [q] <;> omega
theorem ev_rg {K : Nat → Nat} (hK : KI K) {c : Nat} : ∀ {n : Nat}, n ≤ 180 → 0 ≤ (evS K c n).1 ∧ (evS K c n).1 ≤ 60000 ∧ -1 ≤ (evS K c n).2 ∧ (evS K c n).2 < 180
  | 0, _ => by
    have := bal_rg hK
    show 0 ≤ max (balW K) (-(balW K)) ∧ max (balW K) (-(balW K)) ≤ 60000 ∧ -1 ≤ (-1 : Int) ∧ (-1 : Int) < 180
    omega
  | n + 1, hn => by
    have h := ev_rg hK (c := c) (n := n) (by omega)
    by_cases q : on K n = true ∧ max (balW K + hvN K c n) (-(balW K + hvN K c n)) < (evS K c n).1
    · rw [ev_t q]
      have q2 := q.2
      show 0 ≤ max (balW K + hvN K c n) (-(balW K + hvN K c n)) ∧ max (balW K + hvN K c n) (-(balW K + hvN K c n)) ≤ 60000 ∧ -1 ≤ (n : Int) ∧ (n : Int) < 180
      omega
    · rw [ev_f q]; exact h
theorem ev_skip {K : Nat → Nat} {c a : Nat} : ∀ {b : Nat}, a ≤ b → (∀ k, a ≤ k → k < b → on K k = false) → evS K c b = evS K c a
  | 0, h, _ => by
    have : a = 0 := by omega
    subst this; rfl
  | b + 1, h, hz => by
    rcases Nat.lt_or_ge a (b + 1) with q | q
    · rw [ev_f (by rw [hz b (by omega) (by omega)]; simp), ev_skip (b := b) (by omega) (fun k h1 h2 => hz k h1 (by omega))]
    · have : a = b + 1 := by omega
      subst this; rfl
theorem og1 {K : Nat → Nat} (hK : KI K) {y : Nat} : ∀ k, y * K 0 ≤ k → k < y * K 0 + (K 0 / 2 - K (6 + y)) → on K k = false := by
  have k0 := hK.1
  intro k h1 h2
  have := off_of (K := K) (x := k - y * K 0) (y := y) (by omega) (by omega)
  rw [show y * K 0 + (k - y * K 0) = k by omega] at this
  exact this
theorem og2 {K : Nat → Nat} (hK : KI K) {y : Nat} (hy : y < K 1) : ∀ k, y * K 0 + (K 0 / 2 + K (6 + y) + 1) ≤ k → k < (y + 1) * K 0 → on K k = false := by
  have k0 := hK.1
  have k1 := hK.2.1 y (by omega)
  have e : (y + 1) * K 0 = y * K 0 + K 0 := by rw [Nat.add_mul, Nat.one_mul]
  rw [e]
  intro k h1 h2
  have := off_of (K := K) (x := k - y * K 0) (y := y) (by omega) (by omega)
  rw [show y * K 0 + (k - y * K 0) = k by omega] at this
  exact this
theorem li_evens (hN : 112 ≤ NC) (hW : KO h e) (hS : SA NC h 1 K) (hK : KI K) {c : Nat} (hc : c < 7) {y : Nat} (hy : y < K 1) (kk : ∀ w7 w8 w9 : Value, Ex NC none M_X5_evens 144 [.ref 0, .int (I (c : Int)), .int (I (balW K)), .int (I (evS K c (y * K 0 + (K 0 / 2 + K (6 + y) + 1))).1), .int (I (evS K c (y * K 0 + (K 0 / 2 + K (6 + y) + 1))).2), .int (I (y : Int)), .int (I ((K 0 / 2 + K (6 + y) + 1 : Nat) : Int)), w7, w8, w9] [] h Q) : ∀ (n : Nat) (x : Nat) (w7 w8 w9 : Value), x + n = K 0 / 2 + K (6 + y) + 1 → K 0 / 2 - K (6 + y) ≤ x → Ex NC none M_X5_evens 49 [.ref 0, .int (I (c : Int)), .int (I (balW K)), .int (I (evS K c (y * K 0 + x)).1), .int (I (evS K c (y * K 0 + x)).2), .int (I (y : Int)), .int (I (x : Int)), w7, w8, w9] [] h Q := by
  have k0 := hK.1
  have k1 := hK.2.1 y (by omega)
  have cc9 := hK.2.2.1 c hc
  intro n
  induction n with
  | zero =>
    intro x w7 w8 w9 hx hx0
    have hxy : x < K 0 / 2 + K (6 + y) + 1 → y * K 0 + x < nC K ∧ nC K ≤ 180 := fun h9 => ⟨ci_lt hy (by omega), nC_le hK⟩
    refine ax_iload dX5_evens_49 rfl ?_
    refine ax_aload_n dX5_evens_51 rfl ?_
    refine ax_getf dX5_evens_52 ck5 fl_X5_12 (by decide) (by omega) hW rfl ?_
    refine ax_iload dX5_evens_55 rfl ?_
    refine ax_cviP1 dX5_evens_57 ln_X5_evens_178 (Nat.le_of_ble_eq_true rfl) (Or.inl rfl) hS.n0 hS.o rfl (sp_lastX hS hK (by omega)) ?_
    refine ax_icmp_gt (tgt := 144) dX5_evens_60 (by decide) (by omega) (by omega) (fun c60 => ?_) (fun c60 => ?_)
    · have e : x = K 0 / 2 + K (6 + y) + 1 := by omega
      subst e
      exact kk w7 w8 w9
    · exfalso
      omega
  | succ n ih =>
    intro x w7 w8 w9 hx hx0
    have hxy : x < K 0 / 2 + K (6 + y) + 1 → y * K 0 + x < nC K ∧ nC K ≤ 180 := fun h9 => ⟨ci_lt hy (by omega), nC_le hK⟩
    refine ax_iload dX5_evens_49 rfl ?_
    refine ax_aload_n dX5_evens_51 rfl ?_
    refine ax_getf dX5_evens_52 ck5 fl_X5_12 (by decide) (by omega) hW rfl ?_
    refine ax_iload dX5_evens_55 rfl ?_
    refine ax_cviP1 dX5_evens_57 ln_X5_evens_178 (Nat.le_of_ble_eq_true rfl) (Or.inl rfl) hS.n0 hS.o rfl (sp_lastX hS hK (by omega)) ?_
    refine ax_icmp_gt (tgt := 144) dX5_evens_60 (by decide) (by omega) (by omega) (fun c60 => ?_) (fun c60 => ?_)
    · exfalso
      omega
    · have i1 := hxy (by omega)
      have c5 := hK.2.2.2.2.1 (y * K 0 + x) (by omega)
      have hr := hv_rg hK (c := c) (i := (y * K 0 + x)) (by omega) (by omega)
      have br := bal_rg hK
      have er := ev_rg hK (c := c) (n := (y * K 0 + x)) (by omega)
      have o1 := on_of (K := K) (x := x) (y := y) (by omega) hy (by omega) (by omega)
      refine ax_aload_n dX5_evens_63 rfl ?_
      refine ax_getf dX5_evens_64 ck5 fl_X5_12 (by decide) (by omega) hW rfl ?_
      refine ax_iload dX5_evens_67 rfl ?_
      refine ax_iload dX5_evens_69 rfl ?_
      refine ax_cviP2 dX5_evens_71 ln_X5_evens_128 (Nat.le_of_ble_eq_true rfl) (Or.inl rfl) hS.n0 hS.o rfl (sp_numberOf hS) ?_
      rw [show ((y : Int) * (K 0 : Int) + (x : Int)) = (((y * K 0 + x) : Nat) : Int) by push_cast; omega]
      refine ax_istore dX5_evens_74 rfl (by decide) ?_
      refine ax_aload_n dX5_evens_76 rfl ?_
      refine ax_getf dX5_evens_77 ck5 fl_X5_12 (by decide) (by omega) hW rfl ?_
      refine ax_getf dX5_evens_80 ck3 fl_X5_181 (by decide) hS.n0 hS.o rfl ?_
      refine ax_iload_n dX5_evens_83 rfl ?_
      refine ax_ialr (j := c) (w := (K (18 + c) : Int)) dX5_evens_84 (hS.n 2 (by omega)) hS.cw (by omega) (by omega) (by decide) rfl ?_
      refine ax_aload_n dX5_evens_85 rfl ?_
      refine ax_getf dX5_evens_86 ck5 fl_X5_12 (by decide) (by omega) hW rfl ?_
      refine ax_getf dX5_evens_89 ck3 fl_X5_181 (by decide) hS.n0 hS.o rfl ?_
      refine ax_aload_n dX5_evens_92 rfl ?_
      refine ax_getf dX5_evens_93 ck5 fl_X5_12 (by decide) (by omega) hW rfl ?_
      refine ax_getf dX5_evens_96 ck3 fl_X5_132 (by decide) hS.n0 hS.o rfl ?_
      refine ax_iload dX5_evens_99 rfl ?_
      refine ax_ialr (j := (y * K 0 + x)) (w := (K (74 + (y * K 0 + x)) : Int)) dX5_evens_101 (hS.n 7 (by omega)) hS.co (by omega) (by omega) (by decide) rfl ?_
      refine ax_ialr (j := (K (74 + (y * K 0 + x)))) (w := (K (18 + (K (74 + (y * K 0 + x)))) : Int)) dX5_evens_102 (hS.n 2 (by omega)) hS.cw (by omega) (by omega) (by decide) rfl ?_
      refine ax_isub dX5_evens_103 ?_
      refine ax_istore dX5_evens_104 rfl (by decide) ?_
      refine ax_iload_n dX5_evens_106 rfl ?_
      refine ax_aload_n dX5_evens_107 rfl ?_
      refine ax_getf dX5_evens_108 ck5 fl_X5_12 (by decide) (by omega) hW rfl ?_
      refine ax_iload dX5_evens_111 rfl ?_
      refine ax_cviP1 dX5_evens_113 ln_X5_evens_184 (Nat.le_of_ble_eq_true rfl) (Or.inl rfl) hS.n0 hS.o rfl (sp_sideOf hS hK (by omega)) ?_
      refine ax_iload dX5_evens_116 rfl ?_
      refine ax_imul dX5_evens_118 ?_
      refine ax_iadd dX5_evens_119 ?_
      rw [show (sgz ((x : Int) - ((K 0 / 2 : Nat) : Int)) * ((K (18 + c) : Int) - (K (18 + K (74 + (y * K 0 + x))) : Int))) = hvN K c (y * K 0 + x) by unfold hvN; rw [sd_at (by omega)]]
      refine ex_l_abs (by exact dX5_evens_120) (by decide) (show 2 ≤ _ ∧ 50 ≤ _ from ⟨by decide, by decide⟩) (Nat.le_of_ble_eq_true rfl) ?_
      rw [abs_I (by omega)]
      refine ax_istore dX5_evens_123 rfl (by decide) ?_
      refine ax_iload dX5_evens_125 rfl ?_
      refine ax_iload_n dX5_evens_127 rfl ?_
      refine ax_icmp_ge (tgt := 138) dX5_evens_128 (by decide) (by omega) (by omega) (fun c128 => ?_) (fun c128 => ?_)
      · have e1 := ev_f (K := K) (c := c) (n := (y * K 0 + x)) (by rintro ⟨-, q⟩; omega)
        refine ax_iinc dX5_evens_138 rfl rfl (by decide) ?_
        refine ax_goto (tgt := 49) dX5_evens_141 (by decide) ?_
        have := ih (x + 1) (.int (I (((y * K 0 + x) : Nat) : Int))) (.int (I ((K (18 + c) : Int) - (K (18 + K (74 + (y * K 0 + x))) : Int)))) (.int (I (max (balW K + hvN K c (y * K 0 + x)) (-(balW K + hvN K c (y * K 0 + x)))))) (by omega) (by omega)
        rw [show y * K 0 + (x + 1) = y * K 0 + x + 1 by omega, e1] at this
        exact this
      · have e1 := ev_t (K := K) (c := c) (n := (y * K 0 + x)) ⟨o1, c128⟩
        refine ax_iload dX5_evens_131 rfl ?_
        refine ax_istore_n dX5_evens_133 rfl (by decide) ?_
        refine ax_iload dX5_evens_134 rfl ?_
        refine ax_istore dX5_evens_136 rfl (by decide) ?_
        refine ax_iinc dX5_evens_138 rfl rfl (by decide) ?_
        refine ax_goto (tgt := 49) dX5_evens_141 (by decide) ?_
        have := ih (x + 1) (.int (I (((y * K 0 + x) : Nat) : Int))) (.int (I ((K (18 + c) : Int) - (K (18 + K (74 + (y * K 0 + x))) : Int)))) (.int (I (max (balW K + hvN K c (y * K 0 + x)) (-(balW K + hvN K c (y * K 0 + x)))))) (by omega) (by omega)
        rw [show y * K 0 + (x + 1) = y * K 0 + x + 1 by omega, e1] at this
        exact this
theorem lo_evens (hN : 112 ≤ NC) (hW : KO h e) (hS : SA NC h 1 K) (hK : KI K) {c : Nat} (hc : c < 7) (kk : ∀ w6 w7 w8 w9 : Value, Ex NC none M_X5_evens 150 [.ref 0, .int (I (c : Int)), .int (I (balW K)), .int (I (evS K c (nC K)).1), .int (I (evS K c (nC K)).2), .int (I (K 1 : Int)), w6, w7, w8, w9] [] h Q) : ∀ (n : Nat) (y : Nat) (l b9 : Int) (w6 w7 w8 w9 : Value), y + n = K 1 → evS K c (y * K 0) = (l, b9) → Ex NC none M_X5_evens 26 [.ref 0, .int (I (c : Int)), .int (I (balW K)), .int (I l), .int (I b9), .int (I (y : Int)), w6, w7, w8, w9] [] h Q := by
  have k0 := hK.1
  intro n
  induction n with
  | zero =>
    intro y l b9 w6 w7 w8 w9 hy hev
    refine ax_iload dX5_evens_26 rfl ?_
    refine ax_aload_n dX5_evens_28 rfl ?_
    refine ax_getf dX5_evens_29 ck5 fl_X5_12 (by decide) (by omega) hW rfl ?_
    refine ax_getf dX5_evens_32 ck3 fl_X5_83 (by decide) hS.n0 hS.o rfl ?_
    refine ax_icmp_ge (tgt := 150) dX5_evens_35 (by decide) (by omega) (by omega) (fun c35 => ?_) (fun c35 => ?_)
    · have e : y = K 1 := by omega
      subst e
      rw [Nat.mul_comm (K 1) (K 0)] at hev
      have := kk w6 w7 w8 w9
      rw [show evS K c (nC K) = (l, b9) from hev] at this
      exact this
    · exfalso
      omega
  | succ n ih =>
    intro y l b9 w6 w7 w8 w9 hy hev
    have hy9 : y < K 1 := by omega
    have k1 := hK.2.1 y (by omega)
    refine ax_iload dX5_evens_26 rfl ?_
    refine ax_aload_n dX5_evens_28 rfl ?_
    refine ax_getf dX5_evens_29 ck5 fl_X5_12 (by decide) (by omega) hW rfl ?_
    refine ax_getf dX5_evens_32 ck3 fl_X5_83 (by decide) hS.n0 hS.o rfl ?_
    refine ax_icmp_ge (tgt := 150) dX5_evens_35 (by decide) (by omega) (by omega) (fun c35 => ?_) (fun c35 => ?_)
    · exfalso
      omega
    · refine ax_aload_n dX5_evens_38 rfl ?_
      refine ax_getf dX5_evens_39 ck5 fl_X5_12 (by decide) (by omega) hW rfl ?_
      refine ax_iload dX5_evens_42 rfl ?_
      refine ax_cviP1 dX5_evens_44 ln_X5_evens_175 (Nat.le_of_ble_eq_true rfl) (Or.inl rfl) hS.n0 hS.o rfl (sp_firstX hS hK (by omega)) ?_
      refine ax_istore (L' := [.ref 0, .int (I (c : Int)), .int (I (balW K)), .int (I l), .int (I b9), .int (I (y : Int)), .int (I ((K 0 / 2 - K (6 + y) : Nat) : Int)), w7, w8, w9]) dX5_evens_47 (by rw [show ((K 0 / 2 - K (6 + y) : Nat) : Int) = ((K 0 / 2 : Nat) : Int) - (K (6 + y) : Int) by omega]; rfl) (by decide) ?_
      have e2 : evS K c (y * K 0 + (K 0 / 2 - K (6 + y))) = (l, b9) := (ev_skip (by omega) (og1 hK)).trans hev
      rw [show l = (evS K c (y * K 0 + (K 0 / 2 - K (6 + y)))).1 by rw [e2], show b9 = (evS K c (y * K 0 + (K 0 / 2 - K (6 + y)))).2 by rw [e2]]
      refine li_evens hN hW hS hK hc hy9 (fun w7 w8 w9 => ?_) (K 0 / 2 + K (6 + y) + 1 - (K 0 / 2 - K (6 + y))) (K 0 / 2 - K (6 + y)) _ _ _ (by omega) (Nat.le_refl _)
      refine ax_iinc dX5_evens_144 rfl rfl (by decide) ?_
      refine ax_goto (tgt := 26) dX5_evens_147 (by decide) ?_
      have hm : (y + 1) * K 0 = y * K 0 + K 0 := by rw [Nat.add_mul, Nat.one_mul]
      exact ih (y + 1) _ _ _ _ _ _ (by omega) (ev_skip (by omega) (og2 hK hy9))
theorem sp_evens (hN : 112 ≤ NC) (hW : KO h e) (hS : SA NC h 1 K) (hK : KI K) {a : Nat} (ha : a ≤ 6) : Cl NC M_X5_evens [.ref 0, .int (I (a : Int))] h (fun v h1 => v = .int (I (evS K a (nC K)).2) ∧ h1 = h) := by
  refine ax_iload_n dX5_evens_0 rfl ?_
  refine ax_iconst dX5_evens_1 ?_
  refine ax_bipush dX5_evens_2 (by decide) ?_
  refine ax_csvP3 dX5_evens_4 ln_X5_evens_58 (Nat.le_of_ble_eq_true rfl) rfl (sp_range (by omega) (by omega) (by omega) (by omega)) ?_
  refine ax_aload_n dX5_evens_7 rfl ?_
  refine ax_getf dX5_evens_8 ck5 fl_X5_12 (by decide) (by omega) hW rfl ?_
  refine ax_cviP0 dX5_evens_11 ln_X5_evens_105 (Nat.le_of_ble_eq_true rfl) (Or.inl rfl) hS.n0 hS.o rfl (sp_balance hS hK) ?_
  refine ax_istore_n dX5_evens_14 rfl (by decide) ?_
  refine ax_iload_n dX5_evens_15 rfl ?_
  refine ex_l_abs (by exact dX5_evens_16) (by decide) (show 2 ≤ _ ∧ 50 ≤ _ from ⟨by decide, by decide⟩) (Nat.le_of_ble_eq_true rfl) ?_
  rw [abs_I (by have := bal_rg hK; omega)]
  refine ax_istore_n dX5_evens_19 rfl (by decide) ?_
  refine ax_iconst dX5_evens_20 ?_
  refine ax_istore dX5_evens_21 rfl (by decide) ?_
  refine ax_iconst dX5_evens_23 ?_
  refine ax_istore dX5_evens_24 rfl (by decide) ?_
  refine lo_evens hN hW hS hK (c := a) (by omega) (fun w6 w7 w8 w9 => ?_) (K 1) 0 _ _ .null .null .null .null (by omega) (by rw [Nat.zero_mul]; rfl)
  refine ax_iload dX5_evens_150 rfl ?_
  exact ax_iret dX5_evens_152 rfl ⟨rfl, rfl⟩
theorem sx_evens (hN : 112 ≤ NC) {a : Int} (ga : -2147483648 ≤ a ∧ a < 2147483648) (hx : ¬ (0 ≤ a ∧ a ≤ 6)) : Ct NC "java/lang/IllegalArgumentException" M_X5_evens [.ref 0, .int (I a)] h (fun _ h1 => h1 = h) := by
  refine ax_iload_n dX5_evens_0 rfl ?_
  refine ax_iconst dX5_evens_1 ?_
  refine ax_bipush dX5_evens_2 (by decide) ?_
  exact ax_csx3 dX5_evens_4 ln_X5_evens_58 (Nat.le_of_ble_eq_true rfl) rfl (sx_range ga (by omega) (by omega) (by omega)) (fun h1 q => q)
end CE
