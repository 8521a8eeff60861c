/-! the reference reads: bytes, words, numbers -/
def XO (h : hp) (s : Nat → Int) : Prop := h 112 = .inr (6, modF s)
def BT (h : hp) (T : Nat → Int) : Prop := row 0 (h 113) 600 T
def Y2 (h g : hp) : Prop := ∀ a, a ≠ 112 → g a = h a
theorem Y2.tr {h g k : hp} (H1 : Y2 h g) (H2 : Y2 g k) : Y2 h k := fun a ha => (H2 a ha).trans (H1 a ha)
def chr (T : Nat → Int) (n k : Nat) : Int := if k < n then T k else -1
def PX (T : Nat → Int) (s : Nat → Int) (n p t : Nat) : Prop := n ≤ 600 ∧ s 3 = (n : Int) ∧ s 4 = (p : Int) ∧ p ≤ n ∧ sk T n p = t
def agM (s s1 : Nat → Int) : Prop := ∀ k, k ≠ 4 → s1 k = s k
def agN (s s1 : Nat → Int) : Prop := ∀ k, k ≠ 4 → k ≠ 5 → k ≠ 6 → k ≠ 13 → s1 k = s k
theorem agM.N {s s1 : Nat → Int} (h : agM s s1) : agN s s1 := fun k h4 _ _ _ => h k h4
theorem agN.tr {s s1 s2 : Nat → Int} (h : agN s s1) (k : agN s1 s2) : agN s s2 := fun j a b c d => (k j a b c d).trans (h j a b c d)
def rep (s : Nat → Int) (c a : Int) : Nat → Int := if s 5 = 0 then upZ (upZ s 5 c) 6 a else s
theorem rep5 {s : Nat → Int} {c b : Int} : rep s c b 5 = (if s 5 = 0 then c else s 5) := by unfold rep; split <;> rfl
theorem rep6 {s : Nat → Int} {c b : Int} : rep s c b 6 = (if s 5 = 0 then b else s 6) := by unfold rep; split <;> rfl
theorem repk {s : Nat → Int} {c b : Int} {k : Nat} (h : k ≠ 5) (h2 : k ≠ 6) : rep s c b k = s k := by
  unfold rep; split
  · simp only [upZ]; rw [if_neg h2, if_neg h]
  · rfl
theorem repN {s : Nat → Int} {c b : Int} : agN s (rep s c b) := fun k _ h5 h6 _ => repk h5 h6
theorem PX.rep {T s : Nat → Int} {n p t : Nat} {c b : Int} (h : PX T s n p t) : PX T (rep s c b) n p t := ⟨h.1, (repk (by decide) (by decide)).trans h.2.1, (repk (by decide) (by decide)).trans h.2.2.1, h.2.2.2.1, h.2.2.2.2⟩
theorem sk_sk {T : Nat → Int} {n p : Nat} : sk T n (sk T n p) = sk T n p := rn_st rn_end
theorem PX.le {T s : Nat → Int} {n p t : Nat} (h : PX T s n p t) : t ≤ n := by rw [← h.2.2.2.2]; exact sk_le h.2.2.2.1
theorem PX.ge {T s : Nat → Int} {n p t : Nat} (h : PX T s n p t) : p ≤ t := by rw [← h.2.2.2.2]; exact rn_ge
theorem chr_rg {T : Nat → Int} {n k : Nat} (hT : TX T) (hn : n ≤ 600) : -1 ≤ chr T n k ∧ chr T n k < 256 := by
  unfold chr; split
  · have := hT k (by omega); omega
  · omega
theorem rn_all {c : Nat → Bool} {n p : Nat} : ∀ {m : Nat}, (∀ i, i < m → p + i < n ∧ c (p + i) = true) → rn c n p = rn c n (p + m)
  | 0, _ => rfl
  | m + 1, h => by rw [rn_all (m := m) (fun i hi => h i (by omega)), rn_go (h m (by omega))]; rfl
theorem wd_alt {T : Nat → Int} {n j t : Nat} (hj : j < 10) (ht : t ≤ n) : wd T n j t = true ↔ (∀ i, i < LN j → chr T n (t + i) = Wc j i) ∧ ¬ (97 ≤ chr T n (t + LN j) ∧ chr T n (t + LN j) ≤ 122) := by
  have hl := LN_rg j hj
  rw [wd_iff]
  constructor
  · rintro ⟨h1, h2, h3⟩
    have tl := tE_le (T := T) ht
    have q : ¬ n ≤ t := by omega
    unfold kd at h1
    unfold tE at h2 tl
    rw [if_neg q] at h1 h2 tl
    by_cases d : cD T t = true
    · rw [if_pos d] at h1; omega
    · rw [if_neg d] at h1 h2 tl
      by_cases l : cL T t = true
      · rw [if_pos l] at h2 tl
        refine ⟨fun i hi => ?_, ?_⟩
        · unfold chr; rw [if_pos (by omega)]; exact h3 i hi
        · intro z
          have e := rn_end (c := cL T) (n := n) (p := t)
          rw [h2] at e
          unfold chr at z
          by_cases w : t + LN j < n
          · rw [if_pos w] at z; exact e ⟨w, decide_eq_true z⟩
          · rw [if_neg w] at z; omega
      · rw [if_neg l] at h1; revert h1; split <;> (intro z; omega)
  · rintro ⟨h1, h2⟩
    have a : ∀ i, i < LN j → t + i < n ∧ T (t + i) = Wc j i := fun i hi => by
      have z := h1 i hi
      have w := Wc_rg j hj i hi
      unfold chr at z
      by_cases q : t + i < n
      · rw [if_pos q] at z; exact ⟨q, z⟩
      · rw [if_neg q] at z; omega
    have al : ∀ i, i < LN j → t + i < n ∧ cL T (t + i) = true := fun i hi => ⟨(a i hi).1, decide_eq_true (by have := (a i hi).2; have w := Wc_rg j hj i hi; omega)⟩
    have e : rn (cL T) n t = t + LN j := by
      rw [rn_all al, rn_st]
      rintro ⟨q1, q2⟩
      have q3 := of_decide_eq_true q2
      unfold chr at h2
      rw [if_pos q1] at h2
      exact h2 q3
    have a0 := al 0 (by omega)
    rw [Nat.add_zero] at a0
    have d : ¬ cD T t = true := fun q => by
      have q1 := of_decide_eq_true q
      have q2 := of_decide_eq_true a0.2
      omega
    refine ⟨?_, ?_, fun i hi => (a i hi).2⟩
    · unfold kd; rw [if_neg (by omega), if_neg d, if_pos a0.2]
    · unfold tE; rw [if_neg (by omega), if_neg d, if_pos a0.2]; exact e
theorem isD_chr {T : Nat → Int} {n t : Nat} : isD T n t = true ↔ 48 ≤ chr T n t ∧ chr T n t ≤ 57 := by
  rw [isD_iff]
  unfold chr
  by_cases q : t < n
  · rw [if_pos q]; exact ⟨fun z => of_decide_eq_true z.2, fun z => ⟨q, decide_eq_true z⟩⟩
  · rw [if_neg q]; omega
theorem sem_chr {T : Nat → Int} {n t : Nat} : kd T n t = 3 ↔ chr T n t = 59 := by
  unfold kd chr
  by_cases q : n ≤ t
  · rw [if_pos q, if_neg (by omega)]; omega
  · have c2 : (if t < n then T t else -1) = T t := if_pos (by omega)
    rw [if_neg q, c2]
    unfold cD cL
    by_cases q2 : 48 ≤ T t ∧ T t ≤ 57
    · rw [if_pos (decide_eq_true q2)]; omega
    · rw [if_neg (by rw [decide_eq_true_iff]; exact q2)]
      by_cases q3 : 97 ≤ T t ∧ T t ≤ 122
      · rw [if_pos (decide_eq_true q3)]; omega
      · rw [if_neg (by rw [decide_eq_true_iff]; exact q3)]
        by_cases q4 : T t = 59
        · rw [if_pos q4]; omega
        · rw [if_neg q4]; omega
theorem sN_3 {T : Nat → Int} {n t : Nat} (h : kd T n t = 3) : t < n ∧ sN T n t = sk T n (t + 1) := by
  have e : ¬ n ≤ t := fun q => by unfold kd at h; rw [if_pos q] at h; omega
  refine ⟨by omega, ?_⟩
  have c := sem_chr.mp h
  unfold chr at c
  rw [if_pos (by omega)] at c
  unfold sN tE
  rw [if_neg e, if_neg (by unfold cD; rw [decide_eq_true_iff]; omega), if_neg (by unfold cL; rw [decide_eq_true_iff]; omega)]
theorem XO.s0 {h : hp} {s : Nat → Int} (hO : XO h s) {z : Int} : XO (va_up h 112 (.inr (6, (modF s).set 0 (.int (I z))))) (upZ s 0 z) := by unfold XO; rw [vu_eq]; simp [modF, upZ]
theorem XO.s2 {h : hp} {s : Nat → Int} (hO : XO h s) {z : Int} : XO (va_up h 112 (.inr (6, (modF s).set 2 (.int (I z))))) (upZ s 2 z) := by unfold XO; rw [vu_eq]; simp [modF, upZ]
theorem XO.s3 {h : hp} {s : Nat → Int} (hO : XO h s) {z : Int} : XO (va_up h 112 (.inr (6, (modF s).set 3 (.int (I z))))) (upZ s 3 z) := by unfold XO; rw [vu_eq]; simp [modF, upZ]
theorem XO.s4 {h : hp} {s : Nat → Int} (hO : XO h s) {z : Int} : XO (va_up h 112 (.inr (6, (modF s).set 4 (.int (I z))))) (upZ s 4 z) := by unfold XO; rw [vu_eq]; simp [modF, upZ]
theorem XO.s5 {h : hp} {s : Nat → Int} (hO : XO h s) {z : Int} : XO (va_up h 112 (.inr (6, (modF s).set 5 (.int (I z))))) (upZ s 5 z) := by unfold XO; rw [vu_eq]; simp [modF, upZ]
theorem XO.s6 {h : hp} {s : Nat → Int} (hO : XO h s) {z : Int} : XO (va_up h 112 (.inr (6, (modF s).set 6 (.int (I z))))) (upZ s 6 z) := by unfold XO; rw [vu_eq]; simp [modF, upZ]
theorem XO.s7 {h : hp} {s : Nat → Int} (hO : XO h s) {z : Int} : XO (va_up h 112 (.inr (6, (modF s).set 7 (.int (I z))))) (upZ s 7 z) := by unfold XO; rw [vu_eq]; simp [modF, upZ]
theorem XO.s12 {h : hp} {s : Nat → Int} (hO : XO h s) {z : Int} : XO (va_up h 112 (.inr (6, (modF s).set 12 (.int (I z))))) (upZ s 12 z) := by unfold XO; rw [vu_eq]; simp [modF, upZ]
theorem XO.s13 {h : hp} {s : Nat → Int} (hO : XO h s) {z : Int} : XO (va_up h 112 (.inr (6, (modF s).set 13 (.int (I z))))) (upZ s 13 z) := by unfold XO; rw [vu_eq]; simp [modF, upZ]
theorem XO.s14 {h : hp} {s : Nat → Int} (hO : XO h s) {z : Int} : XO (va_up h 112 (.inr (6, (modF s).set 14 (.int (I z))))) (upZ s 14 z) := by unfold XO; rw [vu_eq]; simp [modF, upZ]
theorem XO.s15 {h : hp} {s : Nat → Int} (hO : XO h s) {z : Int} : XO (va_up h 112 (.inr (6, (modF s).set 15 (.int (I z))))) (upZ s 15 z) := by unfold XO; rw [vu_eq]; simp [modF, upZ]
section RM
variable {NC : Nat} {h : hp} {s T : Nat → Int} {n p t : Nat} {Q : qt}
theorem s6_byteAt (hN : 132 ≤ NC) (hO : XO h s) (hT : TX T) (hB : BT h T) (hP : PX T s n p t) {k : Nat} (hk : k < 100000) : Cl NC M_X6_byteAt [.ref 112, .int (I (k : Int))] h (fun v h1 => v = .int (I (chr T n k)) ∧ h1 = h) := by
  have hn := hP.1
  refine ax_iload_n dX6_byteAt_0 rfl ?_
  refine ax_aload_n dX6_byteAt_1 rfl ?_
  refine ax_getf dX6_byteAt_2 ck6 fl_X6_67 (by decide) (by omega) hO rfl ?_
  rw [hP.2.1]
  refine ax_icmp_ge (tgt := 17) dX6_byteAt_5 (by decide) (by omega) (by omega) (fun c5 => ?_) (fun c5 => ?_)
  · refine ax_iconst dX6_byteAt_17 ?_
    exact ax_iret dX6_byteAt_18 rfl ⟨by unfold chr; rw [if_neg (by omega)], rfl⟩
  · refine ax_aload_n dX6_byteAt_8 rfl ?_
    refine ax_getf dX6_byteAt_9 ck6 fl_X6_9 (by decide) (by omega) hO rfl ?_
    refine ax_iload_n dX6_byteAt_12 rfl ?_
    refine ax_ialr (j := k) (w := (T k : Int)) dX6_byteAt_13 (by omega) hB (by omega) (by omega) (by decide) rfl ?_
    refine ax_goto (tgt := 18) dX6_byteAt_14 (by decide) ?_
    exact ax_iret dX6_byteAt_18 rfl ⟨by unfold chr; rw [if_pos (by omega)], rfl⟩
theorem l6_ahead (hN : 132 ≤ NC) (hT : TX T) (hB : BT h T) (hn : n ≤ 600) {s0 : Nat → Int} (kk : ∀ g s, XO g s → agM s0 s → PX T s n t t → Y2 h g → Q (.int (I (chr T n t))) g) : ∀ (f p : Nat) (g : hp) (s : Nat → Int), p + f = n → XO g s → PX T s n p t → agM s0 s → Y2 h g → Ex NC none M_X6_ahead 0 [.ref 112] [] g Q := by
  intro f
  induction f with
  | zero =>
    intro p g s hp0 hO hP hA hY
    have hB1 : BT g T := hB.mv (hY 113 (by decide))
    have cr := chr_rg (k := p) hT hn
    refine ax_aload_n dX6_ahead_0 rfl ?_
    refine ax_aload_n dX6_ahead_1 rfl ?_
    refine ax_getf dX6_ahead_2 ck6 fl_X6_70 (by decide) (by omega) hO rfl ?_
    rw [hP.2.2.1]
    refine ax_cviP1 dX6_ahead_5 ln_X6_ahead_73 (Nat.le_of_ble_eq_true rfl) (Or.inl rfl) (by omega) hO rfl (s6_byteAt hN hO hT hB1 hP (k := p) (by omega)) ?_
    refine ax_bipush dX6_ahead_8 (by decide) ?_
    refine ax_icmp_ne (tgt := 26) dX6_ahead_10 (by decide) (by omega) (by omega) (fun c10 => ?_) (fun c10 => ?_)
    · refine ax_aload_n dX6_ahead_26 rfl ?_
      refine ax_aload_n dX6_ahead_27 rfl ?_
      refine ax_getf dX6_ahead_28 ck6 fl_X6_70 (by decide) (by omega) hO rfl ?_
      rw [hP.2.2.1]
      refine ax_cviP1 dX6_ahead_31 ln_X6_ahead_73 (Nat.le_of_ble_eq_true rfl) (Or.inl rfl) (by omega) hO rfl (s6_byteAt hN hO hT hB1 hP (k := p) (by omega)) ?_
      have et : t = p := by rw [← hP.2.2.2.2]; exact rn_st (by omega)
      rw [← et]
      rw [← et] at hP
      exact ax_iret dX6_ahead_34 rfl (kk g s hO hA hP hY)
    · exfalso
      unfold chr at c10
      rw [if_neg (by omega)] at c10
      omega
  | succ f ih =>
    intro p g s hp0 hO hP hA hY
    have hB1 : BT g T := hB.mv (hY 113 (by decide))
    have cr := chr_rg (k := p) hT hn
    refine ax_aload_n dX6_ahead_0 rfl ?_
    refine ax_aload_n dX6_ahead_1 rfl ?_
    refine ax_getf dX6_ahead_2 ck6 fl_X6_70 (by decide) (by omega) hO rfl ?_
    rw [hP.2.2.1]
    refine ax_cviP1 dX6_ahead_5 ln_X6_ahead_73 (Nat.le_of_ble_eq_true rfl) (Or.inl rfl) (by omega) hO rfl (s6_byteAt hN hO hT hB1 hP (k := p) (by omega)) ?_
    refine ax_bipush dX6_ahead_8 (by decide) ?_
    refine ax_icmp_ne (tgt := 26) dX6_ahead_10 (by decide) (by omega) (by omega) (fun c10 => ?_) (fun c10 => ?_)
    · refine ax_aload_n dX6_ahead_26 rfl ?_
      refine ax_aload_n dX6_ahead_27 rfl ?_
      refine ax_getf dX6_ahead_28 ck6 fl_X6_70 (by decide) (by omega) hO rfl ?_
      rw [hP.2.2.1]
      refine ax_cviP1 dX6_ahead_31 ln_X6_ahead_73 (Nat.le_of_ble_eq_true rfl) (Or.inl rfl) (by omega) hO rfl (s6_byteAt hN hO hT hB1 hP (k := p) (by omega)) ?_
      have et : t = p := by rw [← hP.2.2.2.2]; exact rn_st (fun w => c10 (by unfold chr; rw [if_pos w.1]; exact of_decide_eq_true w.2))
      rw [← et]
      rw [← et] at hP
      exact ax_iret dX6_ahead_34 rfl (kk g s hO hA hP hY)
    · have hlt : p < n ∧ cB T p = true := by (unfold chr at c10; by_cases w : p < n; (rw [if_pos w] at c10; exact ⟨w, decide_eq_true c10⟩); rw [if_neg w] at c10; omega)
      refine ax_aload_n dX6_ahead_13 rfl ?_
      refine ax_dup dX6_ahead_14 rfl ?_
      refine ax_getf dX6_ahead_15 ck6 fl_X6_70 (by decide) (by omega) hO rfl ?_
      refine ax_iconst dX6_ahead_18 ?_
      refine ax_iadd dX6_ahead_19 ?_
      rw [hP.2.2.1, show (p : Int) + 1 = ((p + 1 : Nat) : Int) by push_cast; rfl]
      refine ax_putf dX6_ahead_20 ck6 fl_X6_70 (by decide) (by omega) hO rfl (Or.inl rfl) (Nat.le_of_ble_eq_true rfl) rfl ?_
      refine ax_goto (tgt := 0) dX6_ahead_23 (by decide) ?_
      generalize hgg1 : va_up g 112 _ = g1
      obtain ⟨s1, hO1, es1⟩ : ∃ rr, XO g1 rr ∧ rr = upZ s 4 ((p + 1 : Nat) : Int) := ⟨_, by rw [← hgg1]; exact hO.s4, rfl⟩
      have y1 : Y2 h g1 := fun a ha => by rw [← hgg1]; exact (vu_ne ha).trans (hY a ha)
      exact ih (p + 1) g1 s1 (by omega) hO1 ⟨hn, by rw [es1]; exact hP.2.1, by rw [es1]; rfl, by omega, by rw [← hP.2.2.2.2]; exact (rn_go hlt).symm⟩ (fun k hk => by rw [es1]; exact (if_neg hk).trans (hA k hk)) y1
theorem s6_ahead (hN : 132 ≤ NC) (hO : XO h s) (hT : TX T) (hB : BT h T) (hP : PX T s n p t) : Cl NC M_X6_ahead [.ref 112] h (fun v h1 => v = .int (I (chr T n t)) ∧ ∃ s1, XO h1 s1 ∧ agM s s1 ∧ PX T s1 n t t ∧ Y2 h h1) := l6_ahead hN hT hB hP.1 (s0 := s) (fun g s1 hO1 hA hP1 hY => ⟨rfl, s1, hO1, hA, hP1, hY⟩) (n - p) p h s (by have := hP.2.2.2.1; omega) hO hP (fun _ _ => rfl) (fun _ _ => rfl)
theorem s6_isGood (hN : 132 ≤ NC) (hO : XO h s) (h5 : -1000 ≤ s 5 ∧ s 5 ≤ 1000) : Cl NC M_X6_isGood [.ref 112] h (fun v h1 => v = .int (I (if s 5 = 0 then 1 else 0)) ∧ h1 = h) := by
  refine ax_aload_n dX6_isGood_0 rfl ?_
  refine ax_getf dX6_isGood_1 ck6 fl_X6_76 (by decide) (by omega) hO rfl ?_
  refine ax_if_ne (tgt := 11) dX6_isGood_4 (by decide) (by omega) (fun c4 => ?_) (fun c4 => ?_)
  · refine ax_iconst dX6_isGood_11 ?_
    exact ax_zret dX6_isGood_12 rfl (by first | exact Or.inl rfl | exact Or.inr rfl) ⟨by rw [if_neg c4], rfl⟩
  · refine ax_iconst dX6_isGood_7 ?_
    refine ax_goto (tgt := 12) dX6_isGood_8 (by decide) ?_
    exact ax_zret dX6_isGood_12 rfl (by first | exact Or.inl rfl | exact Or.inr rfl) ⟨by rw [if_pos c4], rfl⟩
theorem s6_report (hN : 132 ≤ NC) (hO : XO h s) (h5 : -1000 ≤ s 5 ∧ s 5 ≤ 1000) {c b : Int} : Cl NC M_X6_report [.ref 112, .int (I c), .int (I b)] h (fun _ h1 => XO h1 (rep s c b) ∧ Y2 h h1) := by
  refine ax_aload_n dX6_report_0 rfl ?_
  refine ax_getf dX6_report_1 ck6 fl_X6_76 (by decide) (by omega) hO rfl ?_
  refine ax_if_eq (tgt := 8) dX6_report_4 (by decide) (by omega) (fun c4 => ?_) (fun c4 => ?_)
  · refine ax_aload_n dX6_report_8 rfl ?_
    refine ax_iload_n dX6_report_9 rfl ?_
    refine ax_putf dX6_report_10 ck6 fl_X6_76 (by decide) (by omega) hO rfl (Or.inl rfl) (Nat.le_of_ble_eq_true rfl) rfl ?_
    generalize hgg1 : va_up h 112 _ = g1
    obtain ⟨s1, hO1, es1⟩ : ∃ rr, XO g1 rr ∧ rr = upZ s 5 c := ⟨_, by rw [← hgg1]; exact hO.s5, rfl⟩
    have y1 : Y2 h g1 := fun a ha => by rw [← hgg1]; exact (vu_ne ha)
    refine ax_aload_n dX6_report_13 rfl ?_
    refine ax_iload_n dX6_report_14 rfl ?_
    refine ax_putf dX6_report_15 ck6 fl_X6_79 (by decide) (by omega) hO1 rfl (Or.inl rfl) (Nat.le_of_ble_eq_true rfl) rfl ?_
    generalize hgg2 : va_up g1 112 _ = g2
    obtain ⟨s2, hO2, es2⟩ : ∃ rr, XO g2 rr ∧ rr = upZ s1 6 b := ⟨_, by rw [← hgg2]; exact hO1.s6, rfl⟩
    have y2 : Y2 h g2 := fun a ha => by rw [← hgg2]; exact (vu_ne ha).trans (y1 a ha)
    exact ax_vret dX6_report_18 rfl ⟨by unfold rep; rw [if_pos c4, ← es1, ← es2]; exact hO2, y2⟩
  · exact ax_vret dX6_report_7 rfl ⟨by unfold rep; rw [if_neg c4]; exact hO, fun a ha => rfl⟩
theorem s6_isDigit {c : Int} (hc : -2147483648 ≤ c ∧ c < 2147483648) : Cl NC M_X6_isDigit [.int (I c)] h (fun v h1 => v = .int (I (if 48 ≤ c ∧ c ≤ 57 then 1 else 0)) ∧ h1 = h) := by
  refine ax_iload_n dX6_isDigit_0 rfl ?_
  refine ax_bipush dX6_isDigit_1 (by decide) ?_
  refine ax_bipush dX6_isDigit_3 (by decide) ?_
  refine ax_csiP3 dX6_isDigit_5 ln_X6_isDigit_54 (Nat.le_of_ble_eq_true rfl) (Or.inr rfl) (s6_in hc (by omega) (by omega)) ?_
  exact ax_zret dX6_isDigit_8 rfl (by split; exact Or.inr rfl; exact Or.inl rfl) ⟨rfl, rfl⟩
end RM
