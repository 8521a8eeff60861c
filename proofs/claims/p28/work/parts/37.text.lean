/-! the text: runs of bytes, tokens, numbers -/
def rnF (c : Nat → Bool) (n : Nat) : Nat → Nat → Nat
  | 0, p => p
  | f + 1, p => if p < n ∧ c p = true then rnF c n f (p + 1) else p
def rn (c : Nat → Bool) (n p : Nat) : Nat := rnF c n (n - p) p
theorem rn_go {c : Nat → Bool} {n p : Nat} (h : p < n ∧ c p = true) : rn c n p = rn c n (p + 1) := by
  unfold rn
  rw [show n - p = (n - (p + 1)) + 1 by omega]
  exact if_pos h
theorem rn_st {c : Nat → Bool} {n p : Nat} (h : ¬ (p < n ∧ c p = true)) : rn c n p = p := by
  unfold rn
  cases n - p with
  | zero => rfl
  | succ f => exact if_neg h
theorem rnF_ge {c : Nat → Bool} {n : Nat} : ∀ (f p : Nat), p ≤ rnF c n f p
  | 0, p => Nat.le_refl p
  | f + 1, p => by
    show p ≤ if p < n ∧ c p = true then rnF c n f (p + 1) else p
    split
    · have := rnF_ge (c := c) (n := n) f (p + 1); omega
    · exact Nat.le_refl p
theorem rn_ge {c : Nat → Bool} {n p : Nat} : p ≤ rn c n p := rnF_ge _ _
theorem rnF_le {c : Nat → Bool} {n : Nat} : ∀ (f p : Nat), p ≤ n → rnF c n f p ≤ n
  | 0, p, h => h
  | f + 1, p, h => by
    show (if p < n ∧ c p = true then rnF c n f (p + 1) else p) ≤ n
    split
    · exact rnF_le f (p + 1) (by omega)
    · exact h
theorem rn_le {c : Nat → Bool} {n p : Nat} (h : p ≤ n) : rn c n p ≤ n := rnF_le _ _ h
theorem rnF_in {c : Nat → Bool} {n : Nat} : ∀ (f p k : Nat), p ≤ k → k < rnF c n f p → k < n ∧ c k = true
  | 0, p, k, h1, h2 => absurd (show k < p from h2) (by omega)
  | f + 1, p, k, h1, h2 => by
    have h3 : k < if p < n ∧ c p = true then rnF c n f (p + 1) else p := h2
    by_cases q : p < n ∧ c p = true
    · rw [if_pos q] at h3
      by_cases e : k = p
      · rw [e]; exact q
      · exact rnF_in f (p + 1) k (by omega) h3
    · rw [if_neg q] at h3; omega
theorem rn_in {c : Nat → Bool} {n p k : Nat} (h1 : p ≤ k) (h2 : k < rn c n p) : k < n ∧ c k = true := rnF_in _ _ _ h1 h2
theorem rnF_end {c : Nat → Bool} {n : Nat} : ∀ (f p : Nat), n ≤ p + f → ¬ (rnF c n f p < n ∧ c (rnF c n f p) = true)
  | 0, p, h => fun q => by have : p < n := q.1; omega
  | f + 1, p, h => by
    show ¬ ((if p < n ∧ c p = true then rnF c n f (p + 1) else p) < n ∧ c (if p < n ∧ c p = true then rnF c n f (p + 1) else p) = true)
    by_cases q : p < n ∧ c p = true
    · rw [if_pos q]; exact rnF_end f (p + 1) (by omega)
    · rw [if_neg q]; exact q
theorem rn_end {c : Nat → Bool} {n p : Nat} : ¬ (rn c n p < n ∧ c (rn c n p) = true) := rnF_end _ _ (by omega)
def cB (T : Nat → Int) (k : Nat) : Bool := decide (T k = 32)
def cD (T : Nat → Int) (k : Nat) : Bool := decide (48 ≤ T k ∧ T k ≤ 57)
def cL (T : Nat → Int) (k : Nat) : Bool := decide (97 ≤ T k ∧ T k ≤ 122)
/-- from here to the next token -/
def sk (T : Nat → Int) (n p : Nat) : Nat := rn (cB T) n p
def kd (T : Nat → Int) (n s : Nat) : Int := if n ≤ s then 0 else if cD T s = true then 2 else if cL T s = true then 1 else if T s = 59 then 3 else 4
def tE (T : Nat → Int) (n s : Nat) : Nat := if n ≤ s then s else if cD T s = true then rn (cD T) n s else if cL T s = true then rn (cL T) n s else s + 1
theorem sk_le {T : Nat → Int} {n p : Nat} (h : p ≤ n) : sk T n p ≤ n := rn_le h
theorem tE_le {T : Nat → Int} {n s : Nat} (h : s ≤ n) : tE T n s ≤ n := by
  unfold tE
  split
  · exact h
  · split
    · exact rn_le h
    · split
      · exact rn_le h
      · omega
theorem tE_ge {T : Nat → Int} {n s : Nat} : s ≤ tE T n s := by
  unfold tE
  split
  · exact Nat.le_refl s
  · split
    · exact rn_ge
    · split
      · exact rn_ge
      · omega
def sb (t : Int) : Int := if 128 ≤ t then t - 256 else t
def TX (T : Nat → Int) : Prop := ∀ i, i < 600 → 0 ≤ T i ∧ T i < 256
theorem sb_rg {t : Int} (h : 0 ≤ t ∧ t < 256) : -128 ≤ sb t ∧ sb t < 128 := by unfold sb; split <;> omega
theorem sb_eq {t c : Int} (h : 0 ≤ t ∧ t < 256) (hc : 0 ≤ c ∧ c < 128) : sb t = c ↔ t = c := by unfold sb; split <;> omega
theorem sb_d {T : Nat → Int} {k : Nat} (h : 0 ≤ T k ∧ T k < 256) : cD T k = true ↔ 48 ≤ sb (T k) ∧ sb (T k) ≤ 57 := by
  unfold cD sb; rw [decide_eq_true_iff]; split <;> omega
theorem sb_l {T : Nat → Int} {k : Nat} (h : 0 ≤ T k ∧ T k < 256) : cL T k = true ↔ 97 ≤ sb (T k) ∧ sb (T k) ≤ 122 := by
  unfold cL sb; rw [decide_eq_true_iff]; split <;> omega
def LN (j : Nat) : Nat := txtN.getD j 0
def Wc (j i : Nat) : Int := ((txtB.getD j []).getD i 0).toInt
theorem Wc_rg : ∀ j, j < 10 → ∀ i, i < LN j → 97 ≤ Wc j i ∧ Wc j i ≤ 122 := by decide
theorem LN_rg : ∀ j, j < 10 → 1 ≤ LN j ∧ LN j ≤ 7 := by decide
/-- the token at s is the word j -/
def wd (T : Nat → Int) (n j s : Nat) : Bool := decide (kd T n s = 1 ∧ tE T n s = s + LN j ∧ ∀ i, i < LN j → T (s + i) = Wc j i)
theorem wd_iff {T : Nat → Int} {n j s : Nat} : wd T n j s = true ↔ kd T n s = 1 ∧ tE T n s = s + LN j ∧ ∀ i, i < LN j → T (s + i) = Wc j i := decide_eq_true_iff
/-- the value of k digits -/
def xv (T : Nat → Int) (s : Nat) : Nat → Int
  | 0 => 0
  | k + 1 => 10 * xv T s k + (T (s + k) - 48)
theorem xv_ge {T : Nat → Int} {s : Nat} : ∀ {k : Nat}, (∀ i, i < k → 48 ≤ T (s + i)) → 0 ≤ xv T s k
  | 0, _ => Int.le_refl 0
  | k + 1, h => by
    have h1 := xv_ge (T := T) (s := s) (k := k) (fun i hi => h i (by omega))
    have h2 := h k (by omega)
    show 0 ≤ 10 * xv T s k + (T (s + k) - 48)
    omega
theorem xv_min {T : Nat → Int} {s k : Nat} {c : Int} (hc : 0 ≤ c) (h : ∀ i, i < k + 1 → 48 ≤ T (s + i)) : min (10 * min (xv T s k) c + (T (s + k) - 48)) c = min (xv T s (k + 1)) c := by
  have h1 := xv_ge (T := T) (s := s) (k := k) (fun i hi => h i (by omega))
  have h2 := h k (by omega)
  show _ = min (10 * xv T s k + (T (s + k) - 48)) c
  omega
/-- what a number is: an error, or its value and the next token -/
def vN (T : Nat → Int) (n s : Nat) : Int := xv T s (rn (cD T) n s - s)
def isD (T : Nat → Int) (n s : Nat) : Bool := decide (s < n ∧ cD T s = true)
theorem isD_iff {T : Nat → Int} {n s : Nat} : isD T n s = true ↔ s < n ∧ cD T s = true := decide_eq_true_iff
/-! the class's reader: its fields -/
def rdF (r : Nat → Int) : List Value := [.ref 111, .int (I (r 1)), .int (I (r 2)), .int (I (r 3)), .int (I (r 4)), .int (I (r 5)), .int (I (r 6)), .int (I (r 7)), .int (I (r 8)), .int (I (r 9)), .int (I (r 10)), .int (I (r 11)), .int (I (r 12))]
def RO (h : hp) (r : Nat → Int) : Prop := h 110 = .inr (4, rdF r)
def TR (h : hp) (T : Nat → Int) : Prop := row 1 (h 111) 600 (fun i => sb (T i))
/-- the token that is looked at -/
def TK (T : Nat → Int) (n : Nat) (r : Nat → Int) (s : Nat) : Prop := n ≤ 600 ∧ s ≤ n ∧ r 2 = (n : Int) ∧ r 4 = (s : Int) ∧ r 3 = kd T n s ∧ r 5 = ((tE T n s : Nat) : Int)
def agr (r r1 : Nat → Int) : Prop := ∀ k, k ≠ 3 → k ≠ 4 → k ≠ 5 → r1 k = r k
def Y1 (h g : hp) : Prop := ∀ a, a ≠ 110 → g a = h a
theorem kd_rg {T : Nat → Int} {n s : Nat} : 0 ≤ kd T n s ∧ kd T n s ≤ 4 := by unfold kd; repeat' split
                                                                              all_goals omega
theorem kd_d {T : Nat → Int} {n s : Nat} : kd T n s = 2 ↔ isD T n s = true := by
  rw [isD_iff]
  unfold kd
  by_cases q : n ≤ s
  · rw [if_pos q]; exact ⟨fun z => by omega, fun z => by omega⟩
  · rw [if_neg q]
    by_cases d : cD T s = true
    · rw [if_pos d]; exact ⟨fun _ => ⟨by omega, d⟩, fun _ => rfl⟩
    · rw [if_neg d]
      refine ⟨fun z => ?_, fun z => absurd z.2 d⟩
      exfalso; revert z
      split
      · decide
      · split <;> decide
theorem tE_d {T : Nat → Int} {n s : Nat} (h : isD T n s = true) : tE T n s = rn (cD T) n s := by
  rw [isD_iff] at h
  unfold tE; rw [if_neg (by have := h.1; omega), if_pos h.2]
theorem RO.s1 {h : hp} {r : Nat → Int} (hO : RO h r) {z : Int} : RO (va_up h 110 (.inr (4, (rdF r).set 1 (.int (I z))))) (upZ r 1 z) := by unfold RO; rw [vu_eq]; simp [rdF, upZ]
theorem RO.s2 {h : hp} {r : Nat → Int} (hO : RO h r) {z : Int} : RO (va_up h 110 (.inr (4, (rdF r).set 2 (.int (I z))))) (upZ r 2 z) := by unfold RO; rw [vu_eq]; simp [rdF, upZ]
theorem RO.s3 {h : hp} {r : Nat → Int} (hO : RO h r) {z : Int} : RO (va_up h 110 (.inr (4, (rdF r).set 3 (.int (I z))))) (upZ r 3 z) := by unfold RO; rw [vu_eq]; simp [rdF, upZ]
theorem RO.s4 {h : hp} {r : Nat → Int} (hO : RO h r) {z : Int} : RO (va_up h 110 (.inr (4, (rdF r).set 4 (.int (I z))))) (upZ r 4 z) := by unfold RO; rw [vu_eq]; simp [rdF, upZ]
theorem RO.s5 {h : hp} {r : Nat → Int} (hO : RO h r) {z : Int} : RO (va_up h 110 (.inr (4, (rdF r).set 5 (.int (I z))))) (upZ r 5 z) := by unfold RO; rw [vu_eq]; simp [rdF, upZ]
theorem RO.s6 {h : hp} {r : Nat → Int} (hO : RO h r) {z : Int} : RO (va_up h 110 (.inr (4, (rdF r).set 6 (.int (I z))))) (upZ r 6 z) := by unfold RO; rw [vu_eq]; simp [rdF, upZ]
theorem RO.s7 {h : hp} {r : Nat → Int} (hO : RO h r) {z : Int} : RO (va_up h 110 (.inr (4, (rdF r).set 7 (.int (I z))))) (upZ r 7 z) := by unfold RO; rw [vu_eq]; simp [rdF, upZ]
theorem RO.s8 {h : hp} {r : Nat → Int} (hO : RO h r) {z : Int} : RO (va_up h 110 (.inr (4, (rdF r).set 8 (.int (I z))))) (upZ r 8 z) := by unfold RO; rw [vu_eq]; simp [rdF, upZ]
theorem RO.s9 {h : hp} {r : Nat → Int} (hO : RO h r) {z : Int} : RO (va_up h 110 (.inr (4, (rdF r).set 9 (.int (I z))))) (upZ r 9 z) := by unfold RO; rw [vu_eq]; simp [rdF, upZ]
theorem RO.s10 {h : hp} {r : Nat → Int} (hO : RO h r) {z : Int} : RO (va_up h 110 (.inr (4, (rdF r).set 10 (.int (I z))))) (upZ r 10 z) := by unfold RO; rw [vu_eq]; simp [rdF, upZ]
theorem RO.s11 {h : hp} {r : Nat → Int} (hO : RO h r) {z : Int} : RO (va_up h 110 (.inr (4, (rdF r).set 11 (.int (I z))))) (upZ r 11 z) := by unfold RO; rw [vu_eq]; simp [rdF, upZ]
theorem RO.s12 {h : hp} {r : Nat → Int} (hO : RO h r) {z : Int} : RO (va_up h 110 (.inr (4, (rdF r).set 12 (.int (I z))))) (upZ r 12 z) := by unfold RO; rw [vu_eq]; simp [rdF, upZ]
def flr (r : Nat → Int) (c a : Int) : Nat → Int := if r 6 = 0 then upZ (upZ r 6 c) 7 a else r
section RD
variable {NC : Nat} {h : hp} {r T : Nat → Int} {n s : Nat} {Q : qt}
theorem sp_isDigit (hN : 112 ≤ NC) (hO : RO h r) (hT : TX T) (hTr : TR h T) {k : Nat} (hk : k < 600) : Cl NC M_X4_isDigit [.ref 110, .int (I (k : Int))] h (fun v h1 => v = .int (I (if cD T k = true then 1 else 0)) ∧ h1 = h) := by
  have hd := sb_d (hT k hk)
  have hr := sb_rg (hT k hk)
  refine ax_aload_n dX4_isDigit_0 rfl ?_
  refine ax_getf dX4_isDigit_1 ck4 fl_X4_9 (by decide) (by omega) hO rfl ?_
  refine ax_iload_n dX4_isDigit_4 rfl ?_
  refine ax_balr (j := k) (w := (sb (T k) : Int)) dX4_isDigit_5 (by omega) hTr (by omega) (by omega) (by decide) rfl ?_
  refine ax_bipush dX4_isDigit_6 (by decide) ?_
  refine ax_icmp_lt (tgt := 26) dX4_isDigit_8 (by decide) (by omega) (by omega) (fun c8 => ?_) (fun c8 => ?_)
  · refine ax_iconst dX4_isDigit_26 ?_
    exact ax_zret dX4_isDigit_27 rfl (by first | exact Or.inl rfl | exact Or.inr rfl) ⟨by first | rw [if_pos (hd.mpr ⟨by omega, by omega⟩)] | rw [if_neg (fun q => by have := hd.mp q; omega)], rfl⟩
  · refine ax_aload_n dX4_isDigit_11 rfl ?_
    refine ax_getf dX4_isDigit_12 ck4 fl_X4_9 (by decide) (by omega) hO rfl ?_
    refine ax_iload_n dX4_isDigit_15 rfl ?_
    refine ax_balr (j := k) (w := (sb (T k) : Int)) dX4_isDigit_16 (by omega) hTr (by omega) (by omega) (by decide) rfl ?_
    refine ax_bipush dX4_isDigit_17 (by decide) ?_
    refine ax_icmp_gt (tgt := 26) dX4_isDigit_19 (by decide) (by omega) (by omega) (fun c19 => ?_) (fun c19 => ?_)
    · refine ax_iconst dX4_isDigit_26 ?_
      exact ax_zret dX4_isDigit_27 rfl (by first | exact Or.inl rfl | exact Or.inr rfl) ⟨by first | rw [if_pos (hd.mpr ⟨by omega, by omega⟩)] | rw [if_neg (fun q => by have := hd.mp q; omega)], rfl⟩
    · refine ax_iconst dX4_isDigit_22 ?_
      refine ax_goto (tgt := 27) dX4_isDigit_23 (by decide) ?_
      exact ax_zret dX4_isDigit_27 rfl (by first | exact Or.inl rfl | exact Or.inr rfl) ⟨by first | rw [if_pos (hd.mpr ⟨by omega, by omega⟩)] | rw [if_neg (fun q => by have := hd.mp q; omega)], rfl⟩
theorem sp_isLetter (hN : 112 ≤ NC) (hO : RO h r) (hT : TX T) (hTr : TR h T) {k : Nat} (hk : k < 600) : Cl NC M_X4_isLetter [.ref 110, .int (I (k : Int))] h (fun v h1 => v = .int (I (if cL T k = true then 1 else 0)) ∧ h1 = h) := by
  have hd := sb_l (hT k hk)
  have hr := sb_rg (hT k hk)
  refine ax_aload_n dX4_isLetter_0 rfl ?_
  refine ax_getf dX4_isLetter_1 ck4 fl_X4_9 (by decide) (by omega) hO rfl ?_
  refine ax_iload_n dX4_isLetter_4 rfl ?_
  refine ax_balr (j := k) (w := (sb (T k) : Int)) dX4_isLetter_5 (by omega) hTr (by omega) (by omega) (by decide) rfl ?_
  refine ax_bipush dX4_isLetter_6 (by decide) ?_
  refine ax_icmp_lt (tgt := 26) dX4_isLetter_8 (by decide) (by omega) (by omega) (fun c8 => ?_) (fun c8 => ?_)
  · refine ax_iconst dX4_isLetter_26 ?_
    exact ax_zret dX4_isLetter_27 rfl (by first | exact Or.inl rfl | exact Or.inr rfl) ⟨by first | rw [if_pos (hd.mpr ⟨by omega, by omega⟩)] | rw [if_neg (fun q => by have := hd.mp q; omega)], rfl⟩
  · refine ax_aload_n dX4_isLetter_11 rfl ?_
    refine ax_getf dX4_isLetter_12 ck4 fl_X4_9 (by decide) (by omega) hO rfl ?_
    refine ax_iload_n dX4_isLetter_15 rfl ?_
    refine ax_balr (j := k) (w := (sb (T k) : Int)) dX4_isLetter_16 (by omega) hTr (by omega) (by omega) (by decide) rfl ?_
    refine ax_bipush dX4_isLetter_17 (by decide) ?_
    refine ax_icmp_gt (tgt := 26) dX4_isLetter_19 (by decide) (by omega) (by omega) (fun c19 => ?_) (fun c19 => ?_)
    · refine ax_iconst dX4_isLetter_26 ?_
      exact ax_zret dX4_isLetter_27 rfl (by first | exact Or.inl rfl | exact Or.inr rfl) ⟨by first | rw [if_pos (hd.mpr ⟨by omega, by omega⟩)] | rw [if_neg (fun q => by have := hd.mp q; omega)], rfl⟩
    · refine ax_iconst dX4_isLetter_22 ?_
      refine ax_goto (tgt := 27) dX4_isLetter_23 (by decide) ?_
      exact ax_zret dX4_isLetter_27 rfl (by first | exact Or.inl rfl | exact Or.inr rfl) ⟨by first | rw [if_pos (hd.mpr ⟨by omega, by omega⟩)] | rw [if_neg (fun q => by have := hd.mp q; omega)], rfl⟩
theorem sp_digitAt (hN : 112 ≤ NC) (hO : RO h r) (hT : TX T) (hTr : TR h T) {k : Nat} (hk : k < 600) : Cl NC M_X4_digitAt [.ref 110, .int (I (k : Int))] h (fun v h1 => v = .int (I (sb (T k) - 48)) ∧ h1 = h) := by
  refine ax_aload_n dX4_digitAt_0 rfl ?_
  refine ax_getf dX4_digitAt_1 ck4 fl_X4_9 (by decide) (by omega) hO rfl ?_
  refine ax_iload_n dX4_digitAt_4 rfl ?_
  refine ax_balr (j := k) (w := (sb (T k) : Int)) dX4_digitAt_5 (by omega) hTr (by omega) (by omega) (by decide) rfl ?_
  refine ax_bipush dX4_digitAt_6 (by decide) ?_
  refine ax_isub dX4_digitAt_8 ?_
  exact ax_iret dX4_digitAt_9 rfl ⟨rfl, rfl⟩
theorem sp_fail (hN : 112 ≤ NC) (hO : RO h r) (h6 : -1000 ≤ r 6 ∧ r 6 ≤ 1000) {c b : Int} : Cl NC M_X4_fail [.ref 110, .int (I c), .int (I b)] h (fun _ h1 => RO h1 (flr r c b) ∧ Y1 h h1) := by
  refine ax_aload_n dX4_fail_0 rfl ?_
  refine ax_getf dX4_fail_1 ck4 fl_X4_31 (by decide) (by omega) hO rfl ?_
  refine ax_if_ne (tgt := 17) dX4_fail_4 (by decide) (by omega) (fun c4 => ?_) (fun c4 => ?_)
  · exact ax_vret dX4_fail_17 rfl ⟨by unfold flr; rw [if_neg c4]; exact hO, fun a ha => rfl⟩
  · refine ax_aload_n dX4_fail_7 rfl ?_
    refine ax_iload_n dX4_fail_8 rfl ?_
    refine ax_putf dX4_fail_9 ck4 fl_X4_31 (by decide) (by omega) hO rfl (Or.inl rfl) (Nat.le_of_ble_eq_true rfl) rfl ?_
    generalize hgg1 : va_up h 110 _ = g1
    obtain ⟨r1, hO1, er1⟩ : ∃ rr, RO g1 rr ∧ rr = upZ r 6 c := ⟨_, by rw [← hgg1]; exact hO.s6, rfl⟩
    have y1 : Y1 h g1 := fun a ha => by rw [← hgg1]; exact (vu_ne ha)
    refine ax_aload_n dX4_fail_12 rfl ?_
    refine ax_iload_n dX4_fail_13 rfl ?_
    refine ax_putf dX4_fail_14 ck4 fl_X4_34 (by decide) (by omega) hO1 rfl (Or.inl rfl) (Nat.le_of_ble_eq_true rfl) rfl ?_
    generalize hgg2 : va_up g1 110 _ = g2
    obtain ⟨r2, hO2, er2⟩ : ∃ rr, RO g2 rr ∧ rr = upZ r1 7 b := ⟨_, by rw [← hgg2]; exact hO1.s7, rfl⟩
    have y2 : Y1 h g2 := fun a ha => by rw [← hgg2]; exact (vu_ne ha).trans (y1 a ha)
    exact ax_vret dX4_fail_17 rfl ⟨by unfold flr; rw [if_pos c4, ← er1, ← er2]; exact hO2, y2⟩
theorem l_god (hN : 112 ≤ NC) (hT : TX T) (hTr : TR h T) (hn : n ≤ 600) {e : Nat} {r0 : Nat → Int} (kk : ∀ g r, RO g r → r 5 = (e : Int) → (∀ k, k ≠ 5 → r k = r0 k) → Y1 h g → Ex NC none M_X4_goOn 208 [.ref 110] [] g Q) : ∀ (f q : Nat) (g : hp) (r : Nat → Int), q + f = n → RO g r → r 2 = (n : Int) → r 5 = (q : Int) → rn (cD T) n q = e → (∀ k, k ≠ 5 → r k = r0 k) → Y1 h g → Ex NC none M_X4_goOn 89 [.ref 110] [] g Q := by
  intro f
  induction f with
  | zero =>
    intro q g r hq hO h2 h5 he hr hY
    have hTr1 : TR g T := hTr.mv (hY 111 (by decide))
    refine ax_aload_n dX4_goOn_89 rfl ?_
    refine ax_getf dX4_goOn_90 ck4 fl_X4_28 (by decide) (by omega) hO rfl ?_
    refine ax_aload_n dX4_goOn_93 rfl ?_
    refine ax_getf dX4_goOn_94 ck4 fl_X4_25 (by decide) (by omega) hO rfl ?_
    refine ax_icmp_ge (tgt := 208) dX4_goOn_97 (by decide) (by omega) (by omega) (fun c97 => ?_) (fun c97 => ?_)
    · exact kk g r hO (by rw [h5, ← he, rn_st (by omega)]) hr hY
    · exfalso
      omega
  | succ f ih =>
    intro q g r hq hO h2 h5 he hr hY
    have hTr1 : TR g T := hTr.mv (hY 111 (by decide))
    refine ax_aload_n dX4_goOn_89 rfl ?_
    refine ax_getf dX4_goOn_90 ck4 fl_X4_28 (by decide) (by omega) hO rfl ?_
    refine ax_aload_n dX4_goOn_93 rfl ?_
    refine ax_getf dX4_goOn_94 ck4 fl_X4_25 (by decide) (by omega) hO rfl ?_
    refine ax_icmp_ge (tgt := 208) dX4_goOn_97 (by decide) (by omega) (by omega) (fun c97 => ?_) (fun c97 => ?_)
    · exact kk g r hO (by rw [h5, ← he, rn_st (by omega)]) hr hY
    · refine ax_aload_n dX4_goOn_100 rfl ?_
      refine ax_aload_n dX4_goOn_101 rfl ?_
      refine ax_getf dX4_goOn_102 ck4 fl_X4_28 (by decide) (by omega) hO rfl ?_
      rw [h5]
      refine ax_cviP1 dX4_goOn_105 ln_X4_goOn_69 (Nat.le_of_ble_eq_true rfl) (Or.inr rfl) (by omega) hO rfl (sp_isDigit hN hO hT hTr1 (by omega)) ?_
      refine ax_if_eq (tgt := 208) dX4_goOn_108 (by decide) (by split <;> omega) (fun c108 => ?_) (fun c108 => ?_)
      · by_cases z : cD T q = true
        · rw [if_pos z] at c108; omega
        · exact kk g r hO (by rw [h5, ← he, rn_st (fun w => z w.2)]) hr hY
      · have z : cD T q = true := by (by_cases w : cD T q = true; exact w; rw [if_neg w] at c108; exact absurd rfl c108)
        refine ax_aload_n dX4_goOn_111 rfl ?_
        refine ax_dup dX4_goOn_112 rfl ?_
        refine ax_getf dX4_goOn_113 ck4 fl_X4_28 (by decide) (by omega) hO rfl ?_
        refine ax_iconst dX4_goOn_116 ?_
        refine ax_iadd dX4_goOn_117 ?_
        refine ax_putf dX4_goOn_118 ck4 fl_X4_28 (by decide) (by omega) hO rfl (Or.inl rfl) (Nat.le_of_ble_eq_true rfl) rfl ?_
        refine ax_goto (tgt := 89) dX4_goOn_121 (by decide) ?_
        generalize hgg1 : va_up g 110 _ = g1
        obtain ⟨r1, hO1, er1⟩ : ∃ rr, RO g1 rr ∧ rr = upZ r 5 (r 5 + 1) := ⟨_, by rw [← hgg1]; exact hO.s5, rfl⟩
        have y1 : Y1 h g1 := fun a ha => by rw [← hgg1]; exact (vu_ne ha).trans (hY a ha)
        exact ih (q + 1) g1 r1 (by omega) hO1 (by rw [er1]; exact h2) (by rw [er1]; show r 5 + 1 = _; omega) (by rw [← he]; exact (rn_go ⟨by omega, z⟩).symm) (fun k hk => by rw [er1]; simp only [upZ]; rw [if_neg hk]; exact hr k hk) y1
theorem l_gol (hN : 112 ≤ NC) (hT : TX T) (hTr : TR h T) (hn : n ≤ 600) {e : Nat} {r0 : Nat → Int} (kk : ∀ g r, RO g r → r 5 = (e : Int) → (∀ k, k ≠ 5 → r k = r0 k) → Y1 h g → Ex NC none M_X4_goOn 208 [.ref 110] [] g Q) : ∀ (f q : Nat) (g : hp) (r : Nat → Int), q + f = n → RO g r → r 2 = (n : Int) → r 5 = (q : Int) → rn (cL T) n q = e → (∀ k, k ≠ 5 → r k = r0 k) → Y1 h g → Ex NC none M_X4_goOn 140 [.ref 110] [] g Q := by
  intro f
  induction f with
  | zero =>
    intro q g r hq hO h2 h5 he hr hY
    have hTr1 : TR g T := hTr.mv (hY 111 (by decide))
    refine ax_aload_n dX4_goOn_140 rfl ?_
    refine ax_getf dX4_goOn_141 ck4 fl_X4_28 (by decide) (by omega) hO rfl ?_
    refine ax_aload_n dX4_goOn_144 rfl ?_
    refine ax_getf dX4_goOn_145 ck4 fl_X4_25 (by decide) (by omega) hO rfl ?_
    refine ax_icmp_ge (tgt := 208) dX4_goOn_148 (by decide) (by omega) (by omega) (fun c148 => ?_) (fun c148 => ?_)
    · exact kk g r hO (by rw [h5, ← he, rn_st (by omega)]) hr hY
    · exfalso
      omega
  | succ f ih =>
    intro q g r hq hO h2 h5 he hr hY
    have hTr1 : TR g T := hTr.mv (hY 111 (by decide))
    refine ax_aload_n dX4_goOn_140 rfl ?_
    refine ax_getf dX4_goOn_141 ck4 fl_X4_28 (by decide) (by omega) hO rfl ?_
    refine ax_aload_n dX4_goOn_144 rfl ?_
    refine ax_getf dX4_goOn_145 ck4 fl_X4_25 (by decide) (by omega) hO rfl ?_
    refine ax_icmp_ge (tgt := 208) dX4_goOn_148 (by decide) (by omega) (by omega) (fun c148 => ?_) (fun c148 => ?_)
    · exact kk g r hO (by rw [h5, ← he, rn_st (by omega)]) hr hY
    · refine ax_aload_n dX4_goOn_151 rfl ?_
      refine ax_aload_n dX4_goOn_152 rfl ?_
      refine ax_getf dX4_goOn_153 ck4 fl_X4_28 (by decide) (by omega) hO rfl ?_
      rw [h5]
      refine ax_cviP1 dX4_goOn_156 ln_X4_goOn_73 (Nat.le_of_ble_eq_true rfl) (Or.inr rfl) (by omega) hO rfl (sp_isLetter hN hO hT hTr1 (by omega)) ?_
      refine ax_if_eq (tgt := 208) dX4_goOn_159 (by decide) (by split <;> omega) (fun c159 => ?_) (fun c159 => ?_)
      · by_cases z : cL T q = true
        · rw [if_pos z] at c159; omega
        · exact kk g r hO (by rw [h5, ← he, rn_st (fun w => z w.2)]) hr hY
      · have z : cL T q = true := by (by_cases w : cL T q = true; exact w; rw [if_neg w] at c159; exact absurd rfl c159)
        refine ax_aload_n dX4_goOn_162 rfl ?_
        refine ax_dup dX4_goOn_163 rfl ?_
        refine ax_getf dX4_goOn_164 ck4 fl_X4_28 (by decide) (by omega) hO rfl ?_
        refine ax_iconst dX4_goOn_167 ?_
        refine ax_iadd dX4_goOn_168 ?_
        refine ax_putf dX4_goOn_169 ck4 fl_X4_28 (by decide) (by omega) hO rfl (Or.inl rfl) (Nat.le_of_ble_eq_true rfl) rfl ?_
        refine ax_goto (tgt := 140) dX4_goOn_172 (by decide) ?_
        generalize hgg1 : va_up g 110 _ = g1
        obtain ⟨r1, hO1, er1⟩ : ∃ rr, RO g1 rr ∧ rr = upZ r 5 (r 5 + 1) := ⟨_, by rw [← hgg1]; exact hO.s5, rfl⟩
        have y1 : Y1 h g1 := fun a ha => by rw [← hgg1]; exact (vu_ne ha).trans (hY a ha)
        exact ih (q + 1) g1 r1 (by omega) hO1 (by rw [er1]; exact h2) (by rw [er1]; show r 5 + 1 = _; omega) (by rw [← he]; exact (rn_go ⟨by omega, z⟩).symm) (fun k hk => by rw [er1]; simp only [upZ]; rw [if_neg hk]; exact hr k hk) y1
theorem l_gob (hN : 112 ≤ NC) (hT : TX T) (hTr : TR h T) (hn : n ≤ 600) {e : Nat} {r0 : Nat → Int} (kk : ∀ g r, RO g r → r 4 = (e : Int) → (∀ k, k ≠ 4 → r k = r0 k) → Y1 h g → Ex NC none M_X4_goOn 46 [.ref 110] [] g Q) : ∀ (f q : Nat) (g : hp) (r : Nat → Int), q + f = n → RO g r → r 2 = (n : Int) → r 4 = (q : Int) → sk T n q = e → (∀ k, k ≠ 4 → r k = r0 k) → Y1 h g → Ex NC none M_X4_goOn 8 [.ref 110] [] g Q := by
  intro f
  induction f with
  | zero =>
    intro q g r hq hO h2 h4 he hr hY
    have hTr1 : TR g T := hTr.mv (hY 111 (by decide))
    refine ax_aload_n dX4_goOn_8 rfl ?_
    refine ax_getf dX4_goOn_9 ck4 fl_X4_66 (by decide) (by omega) hO rfl ?_
    refine ax_aload_n dX4_goOn_12 rfl ?_
    refine ax_getf dX4_goOn_13 ck4 fl_X4_25 (by decide) (by omega) hO rfl ?_
    refine ax_icmp_ge (tgt := 46) dX4_goOn_16 (by decide) (by omega) (by omega) (fun c16 => ?_) (fun c16 => ?_)
    · exact kk g r hO (by rw [h4, ← he]; unfold sk; rw [rn_st (by omega)]) hr hY
    · exfalso
      omega
  | succ f ih =>
    intro q g r hq hO h2 h4 he hr hY
    have hTr1 : TR g T := hTr.mv (hY 111 (by decide))
    refine ax_aload_n dX4_goOn_8 rfl ?_
    refine ax_getf dX4_goOn_9 ck4 fl_X4_66 (by decide) (by omega) hO rfl ?_
    refine ax_aload_n dX4_goOn_12 rfl ?_
    refine ax_getf dX4_goOn_13 ck4 fl_X4_25 (by decide) (by omega) hO rfl ?_
    refine ax_icmp_ge (tgt := 46) dX4_goOn_16 (by decide) (by omega) (by omega) (fun c16 => ?_) (fun c16 => ?_)
    · exact kk g r hO (by rw [h4, ← he]; unfold sk; rw [rn_st (by omega)]) hr hY
    · refine ax_aload_n dX4_goOn_19 rfl ?_
      refine ax_getf dX4_goOn_20 ck4 fl_X4_9 (by decide) (by omega) hO rfl ?_
      refine ax_aload_n dX4_goOn_23 rfl ?_
      refine ax_getf dX4_goOn_24 ck4 fl_X4_66 (by decide) (by omega) hO rfl ?_
      refine ax_balr (j := q) (w := (sb (T q) : Int)) dX4_goOn_27 (by omega) hTr1 (by omega) (by omega) (by decide) rfl ?_
      have hs := sb_rg (hT q (by omega))
      have hq2 := sb_eq (hT q (by omega)) (c := 32) (by decide)
      refine ax_bipush dX4_goOn_28 (by decide) ?_
      refine ax_icmp_ne (tgt := 46) dX4_goOn_30 (by decide) (by omega) (by omega) (fun c30 => ?_) (fun c30 => ?_)
      · exact kk g r hO (by rw [h4, ← he]; unfold sk; rw [rn_st (fun w => c30 (hq2.mpr (of_decide_eq_true w.2)))]) hr hY
      · refine ax_aload_n dX4_goOn_33 rfl ?_
        refine ax_dup dX4_goOn_34 rfl ?_
        refine ax_getf dX4_goOn_35 ck4 fl_X4_66 (by decide) (by omega) hO rfl ?_
        refine ax_iconst dX4_goOn_38 ?_
        refine ax_iadd dX4_goOn_39 ?_
        refine ax_putf dX4_goOn_40 ck4 fl_X4_66 (by decide) (by omega) hO rfl (Or.inl rfl) (Nat.le_of_ble_eq_true rfl) rfl ?_
        refine ax_goto (tgt := 8) dX4_goOn_43 (by decide) ?_
        generalize hgg1 : va_up g 110 _ = g1
        obtain ⟨r1, hO1, er1⟩ : ∃ rr, RO g1 rr ∧ rr = upZ r 4 (r 4 + 1) := ⟨_, by rw [← hgg1]; exact hO.s4, rfl⟩
        have y1 : Y1 h g1 := fun a ha => by rw [← hgg1]; exact (vu_ne ha).trans (hY a ha)
        exact ih (q + 1) g1 r1 (by omega) hO1 (by rw [er1]; exact h2) (by rw [er1]; show r 4 + 1 = _; omega) (by rw [← he]; unfold sk; exact (rn_go ⟨by omega, decide_eq_true (hq2.mp c30)⟩).symm) (fun k hk => by rw [er1]; simp only [upZ]; rw [if_neg hk]; exact hr k hk) y1
end RD
