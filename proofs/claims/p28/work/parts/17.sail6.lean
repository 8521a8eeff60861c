/-! the sail of the class: its writes -/
def Fr (h h' : hp) (b : Nat) : Prop := ∀ a, a < b ∨ b + 10 ≤ a → h' a = h a
theorem Fr.rf {h : hp} {b : Nat} : Fr h h b := fun _ _ => rfl
theorem Fr.up {h h1 : hp} {b k : Nat} {e : va_E} (H : Fr h h1 b) (hk : k < 10) : Fr h (va_up h1 (b + k) e) b := fun a ha => by
  rw [show va_up h1 (b + k) e a = h1 a from if_neg (by omega)]
  exact H a ha
theorem Fr.tr {h h1 h2 : hp} {b : Nat} (H : Fr h h1 b) (H2 : Fr h1 h2 b) : Fr h h2 b := fun a ha => (H2 a ha).trans (H a ha)
theorem up_same (K : Nat → Nat) (i v : Nat) : upN K i v i = v := if_pos rfl
theorem up_ne {K : Nat → Nat} {i v j : Nat} (h : j ≠ i) : upN K i v j = K j := if_neg h
theorem sailF_up {K : Nat → Nat} {b i v : Nat} (h : 6 ≤ i) : sailF (upN K i v) b = sailF K b := by
  unfold sailF
  rw [up_ne (by omega : 0 ≠ i), up_ne (by omega : 1 ≠ i), up_ne (by omega : 2 ≠ i), up_ne (by omega : 3 ≠ i), up_ne (by omega : 4 ≠ i), up_ne (by omega : 5 ≠ i)]
theorem vu_ne {h : hp} {a c : Nat} {e : va_E} (n : c ≠ a) : va_up h a e c = h c := if_neg n
theorem vu_eq {h : hp} {a : Nat} {e : va_E} : va_up h a e a = e := if_pos rfl
section SW
variable {NC b : Nat} {h : hp} {K : Nat → Nat} {Q : qt}
theorem SA.w1 (hS : SA NC h b K) {j c : Nat} {e : va_E} (hj : j < 12) (he : row 0 e 12 (upZ (fun i => (K (6 + i) : Int)) j (c : Int))) : SA NC (va_up h (b + 1) e) b (upN K (6 + j) c) := by
  refine ⟨hS.1, by rw [vu_ne (by omega), sailF_up (by omega)]; exact hS.o, by
    rw [vu_eq]
    refine he.cong (fun i hi => ?_)
    unfold upZ
    by_cases q : i = j
    · subst q; rw [if_pos rfl, up_same]
    · rw [if_neg q, up_ne (by omega)],
    by rw [vu_ne (by omega)]; exact hS.cw.cong (fun i hi => by rw [up_ne (by omega)]),
    by rw [vu_ne (by omega)]; exact hS.mx.cong (fun i hi => by rw [up_ne (by omega)]),
    by rw [vu_ne (by omega)]; exact hS.pl.cong (fun i hi => by rw [up_ne (by omega)]),
    by rw [vu_ne (by omega)]; exact hS.pd.cong (fun i hi => by rw [up_ne (by omega)]),
    by rw [vu_ne (by omega)]; exact hS.pc.cong (fun i hi => by rw [up_ne (by omega)]),
    by rw [vu_ne (by omega)]; exact hS.co.cong (fun i hi => by rw [up_ne (by omega)]),
    by rw [vu_ne (by omega)]; exact hS.we.cong (fun i hi => by rw [up_ne (by omega)]),
    by rw [vu_ne (by omega)]; exact hS.sp.cong (fun i hi => by rw [up_ne (by omega)])⟩
theorem SA.w2 (hS : SA NC h b K) {j c : Nat} {e : va_E} (hj : j < 7) (he : row 0 e 7 (upZ (fun i => (K (18 + i) : Int)) j (c : Int))) : SA NC (va_up h (b + 2) e) b (upN K (18 + j) c) := by
  refine ⟨hS.1, by rw [vu_ne (by omega), sailF_up (by omega)]; exact hS.o, by rw [vu_ne (by omega)]; exact hS.re.cong (fun i hi => by rw [up_ne (by omega)]),
    by
    rw [vu_eq]
    refine he.cong (fun i hi => ?_)
    unfold upZ
    by_cases q : i = j
    · subst q; rw [if_pos rfl, up_same]
    · rw [if_neg q, up_ne (by omega)],
    by rw [vu_ne (by omega)]; exact hS.mx.cong (fun i hi => by rw [up_ne (by omega)]),
    by rw [vu_ne (by omega)]; exact hS.pl.cong (fun i hi => by rw [up_ne (by omega)]),
    by rw [vu_ne (by omega)]; exact hS.pd.cong (fun i hi => by rw [up_ne (by omega)]),
    by rw [vu_ne (by omega)]; exact hS.pc.cong (fun i hi => by rw [up_ne (by omega)]),
    by rw [vu_ne (by omega)]; exact hS.co.cong (fun i hi => by rw [up_ne (by omega)]),
    by rw [vu_ne (by omega)]; exact hS.we.cong (fun i hi => by rw [up_ne (by omega)]),
    by rw [vu_ne (by omega)]; exact hS.sp.cong (fun i hi => by rw [up_ne (by omega)])⟩
theorem SA.w3 (hS : SA NC h b K) {j c : Nat} {e : va_E} (hj : j < 49) (he : row 0 e 49 (upZ (fun i => (K (25 + i) : Int)) j (c : Int))) : SA NC (va_up h (b + 3) e) b (upN K (25 + j) c) := by
  refine ⟨hS.1, by rw [vu_ne (by omega), sailF_up (by omega)]; exact hS.o, by rw [vu_ne (by omega)]; exact hS.re.cong (fun i hi => by rw [up_ne (by omega)]),
    by rw [vu_ne (by omega)]; exact hS.cw.cong (fun i hi => by rw [up_ne (by omega)]),
    by
    rw [vu_eq]
    refine he.cong (fun i hi => ?_)
    unfold upZ
    by_cases q : i = j
    · subst q; rw [if_pos rfl, up_same]
    · rw [if_neg q, up_ne (by omega)],
    by rw [vu_ne (by omega)]; exact hS.pl.cong (fun i hi => by rw [up_ne (by omega)]),
    by rw [vu_ne (by omega)]; exact hS.pd.cong (fun i hi => by rw [up_ne (by omega)]),
    by rw [vu_ne (by omega)]; exact hS.pc.cong (fun i hi => by rw [up_ne (by omega)]),
    by rw [vu_ne (by omega)]; exact hS.co.cong (fun i hi => by rw [up_ne (by omega)]),
    by rw [vu_ne (by omega)]; exact hS.we.cong (fun i hi => by rw [up_ne (by omega)]),
    by rw [vu_ne (by omega)]; exact hS.sp.cong (fun i hi => by rw [up_ne (by omega)])⟩
theorem SA.w4 (hS : SA NC h b K) {j c : Nat} {e : va_E} (hj : j < 3) (he : row 0 e 3 (upZ (fun i => (K (615 + 44 * i) : Int)) j (c : Int))) : SA NC (va_up h (b + 4) e) b (upN K (615 + 44 * j) c) := by
  refine ⟨hS.1, by rw [vu_ne (by omega), sailF_up (by omega)]; exact hS.o, by rw [vu_ne (by omega)]; exact hS.re.cong (fun i hi => by rw [up_ne (by omega)]),
    by rw [vu_ne (by omega)]; exact hS.cw.cong (fun i hi => by rw [up_ne (by omega)]),
    by rw [vu_ne (by omega)]; exact hS.mx.cong (fun i hi => by rw [up_ne (by omega)]),
    by
    rw [vu_eq]
    refine he.cong (fun i hi => ?_)
    unfold upZ
    by_cases q : i = j
    · subst q; rw [if_pos rfl, up_same]
    · rw [if_neg q, up_ne (by omega)],
    by rw [vu_ne (by omega)]; exact hS.pd.cong (fun i hi => by rw [up_ne (by omega)]),
    by rw [vu_ne (by omega)]; exact hS.pc.cong (fun i hi => by rw [up_ne (by omega)]),
    by rw [vu_ne (by omega)]; exact hS.co.cong (fun i hi => by rw [up_ne (by omega)]),
    by rw [vu_ne (by omega)]; exact hS.we.cong (fun i hi => by rw [up_ne (by omega)]),
    by rw [vu_ne (by omega)]; exact hS.sp.cong (fun i hi => by rw [up_ne (by omega)])⟩
theorem SA.w5 (hS : SA NC h b K) {j c : Nat} {e : va_E} (hj : j < 3) (he : row 0 e 3 (upZ (fun i => (K (614 + 44 * i) : Int)) j (c : Int))) : SA NC (va_up h (b + 5) e) b (upN K (614 + 44 * j) c) := by
  refine ⟨hS.1, by rw [vu_ne (by omega), sailF_up (by omega)]; exact hS.o, by rw [vu_ne (by omega)]; exact hS.re.cong (fun i hi => by rw [up_ne (by omega)]),
    by rw [vu_ne (by omega)]; exact hS.cw.cong (fun i hi => by rw [up_ne (by omega)]),
    by rw [vu_ne (by omega)]; exact hS.mx.cong (fun i hi => by rw [up_ne (by omega)]),
    by rw [vu_ne (by omega)]; exact hS.pl.cong (fun i hi => by rw [up_ne (by omega)]),
    by
    rw [vu_eq]
    refine he.cong (fun i hi => ?_)
    unfold upZ
    by_cases q : i = j
    · subst q; rw [if_pos rfl, up_same]
    · rw [if_neg q, up_ne (by omega)],
    by rw [vu_ne (by omega)]; exact hS.pc.cong (fun i hi => by rw [up_ne (by omega)]),
    by rw [vu_ne (by omega)]; exact hS.co.cong (fun i hi => by rw [up_ne (by omega)]),
    by rw [vu_ne (by omega)]; exact hS.we.cong (fun i hi => by rw [up_ne (by omega)]),
    by rw [vu_ne (by omega)]; exact hS.sp.cong (fun i hi => by rw [up_ne (by omega)])⟩
theorem SA.w6 (hS : SA NC h b K) {j c : Nat} {e : va_E} (hj : j < 126) (he : row 0 e 126 (upZ (fun i => (K (616 + 44 * (i / 42) + i % 42) : Int)) j (c : Int))) : SA NC (va_up h (b + 6) e) b (upN K (616 + 44 * (j / 42) + j % 42) c) := by
  refine ⟨hS.1, by rw [vu_ne (by omega), sailF_up (by omega)]; exact hS.o, by rw [vu_ne (by omega)]; exact hS.re.cong (fun i hi => by rw [up_ne (by omega)]),
    by rw [vu_ne (by omega)]; exact hS.cw.cong (fun i hi => by rw [up_ne (by omega)]),
    by rw [vu_ne (by omega)]; exact hS.mx.cong (fun i hi => by rw [up_ne (by omega)]),
    by rw [vu_ne (by omega)]; exact hS.pl.cong (fun i hi => by rw [up_ne (by omega)]),
    by rw [vu_ne (by omega)]; exact hS.pd.cong (fun i hi => by rw [up_ne (by omega)]),
    by
    rw [vu_eq]
    refine he.cong (fun i hi => ?_)
    unfold upZ
    by_cases q : i = j
    · subst q; rw [if_pos rfl, up_same]
    · rw [if_neg q, up_ne (by omega)],
    by rw [vu_ne (by omega)]; exact hS.co.cong (fun i hi => by rw [up_ne (by omega)]),
    by rw [vu_ne (by omega)]; exact hS.we.cong (fun i hi => by rw [up_ne (by omega)]),
    by rw [vu_ne (by omega)]; exact hS.sp.cong (fun i hi => by rw [up_ne (by omega)])⟩
theorem SA.w7 (hS : SA NC h b K) {j c : Nat} {e : va_E} (hj : j < 180) (he : row 0 e 180 (upZ (fun i => (K (74 + i) : Int)) j (c : Int))) : SA NC (va_up h (b + 7) e) b (upN K (74 + j) c) := by
  refine ⟨hS.1, by rw [vu_ne (by omega), sailF_up (by omega)]; exact hS.o, by rw [vu_ne (by omega)]; exact hS.re.cong (fun i hi => by rw [up_ne (by omega)]),
    by rw [vu_ne (by omega)]; exact hS.cw.cong (fun i hi => by rw [up_ne (by omega)]),
    by rw [vu_ne (by omega)]; exact hS.mx.cong (fun i hi => by rw [up_ne (by omega)]),
    by rw [vu_ne (by omega)]; exact hS.pl.cong (fun i hi => by rw [up_ne (by omega)]),
    by rw [vu_ne (by omega)]; exact hS.pd.cong (fun i hi => by rw [up_ne (by omega)]),
    by rw [vu_ne (by omega)]; exact hS.pc.cong (fun i hi => by rw [up_ne (by omega)]),
    by
    rw [vu_eq]
    refine he.cong (fun i hi => ?_)
    unfold upZ
    by_cases q : i = j
    · subst q; rw [if_pos rfl, up_same]
    · rw [if_neg q, up_ne (by omega)],
    by rw [vu_ne (by omega)]; exact hS.we.cong (fun i hi => by rw [up_ne (by omega)]),
    by rw [vu_ne (by omega)]; exact hS.sp.cong (fun i hi => by rw [up_ne (by omega)])⟩
theorem SA.w8 (hS : SA NC h b K) {j c : Nat} {e : va_E} (hj : j < 180) (he : row 0 e 180 (upZ (fun i => (K (254 + i) : Int)) j (c : Int))) : SA NC (va_up h (b + 8) e) b (upN K (254 + j) c) := by
  refine ⟨hS.1, by rw [vu_ne (by omega), sailF_up (by omega)]; exact hS.o, by rw [vu_ne (by omega)]; exact hS.re.cong (fun i hi => by rw [up_ne (by omega)]),
    by rw [vu_ne (by omega)]; exact hS.cw.cong (fun i hi => by rw [up_ne (by omega)]),
    by rw [vu_ne (by omega)]; exact hS.mx.cong (fun i hi => by rw [up_ne (by omega)]),
    by rw [vu_ne (by omega)]; exact hS.pl.cong (fun i hi => by rw [up_ne (by omega)]),
    by rw [vu_ne (by omega)]; exact hS.pd.cong (fun i hi => by rw [up_ne (by omega)]),
    by rw [vu_ne (by omega)]; exact hS.pc.cong (fun i hi => by rw [up_ne (by omega)]),
    by rw [vu_ne (by omega)]; exact hS.co.cong (fun i hi => by rw [up_ne (by omega)]),
    by
    rw [vu_eq]
    refine he.cong (fun i hi => ?_)
    unfold upZ
    by_cases q : i = j
    · subst q; rw [if_pos rfl, up_same]
    · rw [if_neg q, up_ne (by omega)],
    by rw [vu_ne (by omega)]; exact hS.sp.cong (fun i hi => by rw [up_ne (by omega)])⟩
theorem SA.w9 (hS : SA NC h b K) {j c : Nat} {e : va_E} (hj : j < 180) (he : row 0 e 180 (upZ (fun i => (K (434 + i) : Int)) j (c : Int))) : SA NC (va_up h (b + 9) e) b (upN K (434 + j) c) := by
  refine ⟨hS.1, by rw [vu_ne (by omega), sailF_up (by omega)]; exact hS.o, by rw [vu_ne (by omega)]; exact hS.re.cong (fun i hi => by rw [up_ne (by omega)]),
    by rw [vu_ne (by omega)]; exact hS.cw.cong (fun i hi => by rw [up_ne (by omega)]),
    by rw [vu_ne (by omega)]; exact hS.mx.cong (fun i hi => by rw [up_ne (by omega)]),
    by rw [vu_ne (by omega)]; exact hS.pl.cong (fun i hi => by rw [up_ne (by omega)]),
    by rw [vu_ne (by omega)]; exact hS.pd.cong (fun i hi => by rw [up_ne (by omega)]),
    by rw [vu_ne (by omega)]; exact hS.pc.cong (fun i hi => by rw [up_ne (by omega)]),
    by rw [vu_ne (by omega)]; exact hS.co.cong (fun i hi => by rw [up_ne (by omega)]),
    by rw [vu_ne (by omega)]; exact hS.we.cong (fun i hi => by rw [up_ne (by omega)]),
    by
    rw [vu_eq]
    refine he.cong (fun i hi => ?_)
    unfold upZ
    by_cases q : i = j
    · subst q; rw [if_pos rfl, up_same]
    · rw [if_neg q, up_ne (by omega)]⟩
theorem SA.f0 (hS : SA NC h b K) {c : Nat} : SA NC (va_up h b (.inr (3, (sailF K b).set 0 (.int (I (c : Int)))))) b (upN K 0 c) := by
  refine ⟨hS.1, ?_, by rw [vu_ne (by omega)]; exact hS.re.cong (fun i hi => by rw [up_ne (by omega)]), by rw [vu_ne (by omega)]; exact hS.cw.cong (fun i hi => by rw [up_ne (by omega)]), by rw [vu_ne (by omega)]; exact hS.mx.cong (fun i hi => by rw [up_ne (by omega)]), by rw [vu_ne (by omega)]; exact hS.pl.cong (fun i hi => by rw [up_ne (by omega)]), by rw [vu_ne (by omega)]; exact hS.pd.cong (fun i hi => by rw [up_ne (by omega)]), by rw [vu_ne (by omega)]; exact hS.pc.cong (fun i hi => by rw [up_ne (by omega)]), by rw [vu_ne (by omega)]; exact hS.co.cong (fun i hi => by rw [up_ne (by omega)]), by rw [vu_ne (by omega)]; exact hS.we.cong (fun i hi => by rw [up_ne (by omega)]), by rw [vu_ne (by omega)]; exact hS.sp.cong (fun i hi => by rw [up_ne (by omega)])⟩
  rw [vu_eq]
  unfold sailF
  simp [upN]
theorem SA.f1 (hS : SA NC h b K) {c : Nat} : SA NC (va_up h b (.inr (3, (sailF K b).set 1 (.int (I (c : Int)))))) b (upN K 1 c) := by
  refine ⟨hS.1, ?_, by rw [vu_ne (by omega)]; exact hS.re.cong (fun i hi => by rw [up_ne (by omega)]), by rw [vu_ne (by omega)]; exact hS.cw.cong (fun i hi => by rw [up_ne (by omega)]), by rw [vu_ne (by omega)]; exact hS.mx.cong (fun i hi => by rw [up_ne (by omega)]), by rw [vu_ne (by omega)]; exact hS.pl.cong (fun i hi => by rw [up_ne (by omega)]), by rw [vu_ne (by omega)]; exact hS.pd.cong (fun i hi => by rw [up_ne (by omega)]), by rw [vu_ne (by omega)]; exact hS.pc.cong (fun i hi => by rw [up_ne (by omega)]), by rw [vu_ne (by omega)]; exact hS.co.cong (fun i hi => by rw [up_ne (by omega)]), by rw [vu_ne (by omega)]; exact hS.we.cong (fun i hi => by rw [up_ne (by omega)]), by rw [vu_ne (by omega)]; exact hS.sp.cong (fun i hi => by rw [up_ne (by omega)])⟩
  rw [vu_eq]
  unfold sailF
  simp [upN]
theorem SA.f2 (hS : SA NC h b K) {c : Nat} : SA NC (va_up h b (.inr (3, (sailF K b).set 2 (.int (I (c : Int)))))) b (upN K 2 c) := by
  refine ⟨hS.1, ?_, by rw [vu_ne (by omega)]; exact hS.re.cong (fun i hi => by rw [up_ne (by omega)]), by rw [vu_ne (by omega)]; exact hS.cw.cong (fun i hi => by rw [up_ne (by omega)]), by rw [vu_ne (by omega)]; exact hS.mx.cong (fun i hi => by rw [up_ne (by omega)]), by rw [vu_ne (by omega)]; exact hS.pl.cong (fun i hi => by rw [up_ne (by omega)]), by rw [vu_ne (by omega)]; exact hS.pd.cong (fun i hi => by rw [up_ne (by omega)]), by rw [vu_ne (by omega)]; exact hS.pc.cong (fun i hi => by rw [up_ne (by omega)]), by rw [vu_ne (by omega)]; exact hS.co.cong (fun i hi => by rw [up_ne (by omega)]), by rw [vu_ne (by omega)]; exact hS.we.cong (fun i hi => by rw [up_ne (by omega)]), by rw [vu_ne (by omega)]; exact hS.sp.cong (fun i hi => by rw [up_ne (by omega)])⟩
  rw [vu_eq]
  unfold sailF
  simp [upN]
theorem SA.f3 (hS : SA NC h b K) {c : Nat} : SA NC (va_up h b (.inr (3, (sailF K b).set 3 (.int (I (c : Int)))))) b (upN K 3 c) := by
  refine ⟨hS.1, ?_, by rw [vu_ne (by omega)]; exact hS.re.cong (fun i hi => by rw [up_ne (by omega)]), by rw [vu_ne (by omega)]; exact hS.cw.cong (fun i hi => by rw [up_ne (by omega)]), by rw [vu_ne (by omega)]; exact hS.mx.cong (fun i hi => by rw [up_ne (by omega)]), by rw [vu_ne (by omega)]; exact hS.pl.cong (fun i hi => by rw [up_ne (by omega)]), by rw [vu_ne (by omega)]; exact hS.pd.cong (fun i hi => by rw [up_ne (by omega)]), by rw [vu_ne (by omega)]; exact hS.pc.cong (fun i hi => by rw [up_ne (by omega)]), by rw [vu_ne (by omega)]; exact hS.co.cong (fun i hi => by rw [up_ne (by omega)]), by rw [vu_ne (by omega)]; exact hS.we.cong (fun i hi => by rw [up_ne (by omega)]), by rw [vu_ne (by omega)]; exact hS.sp.cong (fun i hi => by rw [up_ne (by omega)])⟩
  rw [vu_eq]
  unfold sailF
  simp [upN]
theorem SA.f4 (hS : SA NC h b K) {c : Nat} : SA NC (va_up h b (.inr (3, (sailF K b).set 4 (.int (I (c : Int)))))) b (upN K 4 c) := by
  refine ⟨hS.1, ?_, by rw [vu_ne (by omega)]; exact hS.re.cong (fun i hi => by rw [up_ne (by omega)]), by rw [vu_ne (by omega)]; exact hS.cw.cong (fun i hi => by rw [up_ne (by omega)]), by rw [vu_ne (by omega)]; exact hS.mx.cong (fun i hi => by rw [up_ne (by omega)]), by rw [vu_ne (by omega)]; exact hS.pl.cong (fun i hi => by rw [up_ne (by omega)]), by rw [vu_ne (by omega)]; exact hS.pd.cong (fun i hi => by rw [up_ne (by omega)]), by rw [vu_ne (by omega)]; exact hS.pc.cong (fun i hi => by rw [up_ne (by omega)]), by rw [vu_ne (by omega)]; exact hS.co.cong (fun i hi => by rw [up_ne (by omega)]), by rw [vu_ne (by omega)]; exact hS.we.cong (fun i hi => by rw [up_ne (by omega)]), by rw [vu_ne (by omega)]; exact hS.sp.cong (fun i hi => by rw [up_ne (by omega)])⟩
  rw [vu_eq]
  unfold sailF
  simp [upN]
theorem SA.f5 (hS : SA NC h b K) {c : Nat} : SA NC (va_up h b (.inr (3, (sailF K b).set 5 (.int (I (c : Int)))))) b (upN K 5 c) := by
  refine ⟨hS.1, ?_, by rw [vu_ne (by omega)]; exact hS.re.cong (fun i hi => by rw [up_ne (by omega)]), by rw [vu_ne (by omega)]; exact hS.cw.cong (fun i hi => by rw [up_ne (by omega)]), by rw [vu_ne (by omega)]; exact hS.mx.cong (fun i hi => by rw [up_ne (by omega)]), by rw [vu_ne (by omega)]; exact hS.pl.cong (fun i hi => by rw [up_ne (by omega)]), by rw [vu_ne (by omega)]; exact hS.pd.cong (fun i hi => by rw [up_ne (by omega)]), by rw [vu_ne (by omega)]; exact hS.pc.cong (fun i hi => by rw [up_ne (by omega)]), by rw [vu_ne (by omega)]; exact hS.co.cong (fun i hi => by rw [up_ne (by omega)]), by rw [vu_ne (by omega)]; exact hS.we.cong (fun i hi => by rw [up_ne (by omega)]), by rw [vu_ne (by omega)]; exact hS.sp.cong (fun i hi => by rw [up_ne (by omega)])⟩
  rw [vu_eq]
  unfold sailF
  simp [upN]
def setC (K : Nat → Nat) (i c w : Nat) : Nat → Nat := upN (upN K (74 + i) c) (254 + i) w
def putC (K : Nat → Nat) (x y : Int) (c w : Nat) (mi : Bool) : Nat → Nat := if onZ K x y = true then (if mi = true then setC (setC K (y.toNat * K 0 + x.toNat) c w) (y.toNat * K 0 + (K 0 - 1 - x.toNat)) c w else setC K (y.toNat * K 0 + x.toNat) c w) else K
def SW (NC : Nat) (h h1 : hp) (b : Nat) (K : Nat → Nat) : Prop := SA NC h1 b K ∧ Fr h h1 b
theorem sp_setCell (hS : SA NC h b K) {i c w : Nat} (hi : i < 180) : Cl NC M_X3_setCell [.ref b, .int (I (i : Int)), .int (I (c : Int)), .int (I (w : Int))] h (fun _ h1 => SW NC h h1 b (setC K i c w)) := by
  refine ax_aload_n dX3_setCell_0 rfl ?_
  refine ax_getf dX3_setCell_1 ck3 fl_X3_30 (by decide) hS.n0 hS.o rfl ?_
  refine ax_iload_n dX3_setCell_4 rfl ?_
  refine ax_iload_n dX3_setCell_5 rfl ?_
  refine ax_iasr (j := i) dX3_setCell_6 (hS.n 7 (by omega)) hS.co (by omega) (by omega) (by decide) (fun e6 he6 => ?_)
  have hS1 := hS.w7 hi he6
  refine ax_aload_n dX3_setCell_7 rfl ?_
  refine ax_getf dX3_setCell_8 ck3 fl_X3_33 (by decide) hS1.n0 hS1.o rfl ?_
  refine ax_iload_n dX3_setCell_11 rfl ?_
  refine ax_iload_n dX3_setCell_12 rfl ?_
  refine ax_iasr (j := i) dX3_setCell_13 (hS1.n 8 (by omega)) hS1.we (by omega) (by omega) (by decide) (fun e13 he13 => ?_)
  have hS2 := hS1.w8 hi he13
  exact ax_vret dX3_setCell_14 rfl ⟨hS2, Fr.up (Fr.up Fr.rf (by omega)) (by omega)⟩
/-- what a change of colours, wetness, spars leaves as it is -/
theorem on_up {K : Nat → Nat} {i v : Nat} (h : 18 ≤ i) (x y : Int) (hy : y < 12) : onZ (upN K i v) x y = onZ K x y := by
  unfold onZ
  by_cases h0 : 0 ≤ y
  · rw [up_ne (by omega : 0 ≠ i), up_ne (by omega : 1 ≠ i), up_ne (by omega : 6 + y.toNat ≠ i)]
  · simp [h0]
theorem onN_up {K : Nat → Nat} {i v : Nat} (hK : KI K) (h : 18 ≤ i) (j : Nat) (hj : j / K 0 < 12) : on (upN K i v) j = on K j := by
  unfold on
  rw [up_ne (by omega : 0 ≠ i), on_up h _ _ (by omega)]
theorem nC_up {K : Nat → Nat} {i v : Nat} (h : 18 ≤ i) : nC (upN K i v) = nC K := by
  unfold nC; rw [up_ne (by omega : 0 ≠ i), up_ne (by omega : 1 ≠ i)]
theorem div_12 {K : Nat → Nat} (hK : KI K) {j : Nat} (hj : j < nC K) : j / K 0 < 12 := by
  have k0 := hK.1
  have : j / K 0 < K 1 := (Nat.div_lt_iff_lt_mul (by omega)).mpr (by rw [Nat.mul_comm]; exact hj)
  omega
/-- a cell's colour, wetness or spar is set: the sail stays a sail -/
theorem KI.upC {K : Nat → Nat} (hK : KI K) {i v : Nat} (hi : i < nC K) (hon : on K i = true) (hv : v ≤ 6) : KI (upN K (74 + i) v) := by
  have n0 := nC_le hK
  obtain ⟨k0, k1, k2, k3, k4, k5, k6, k7, k8⟩ := hK
  have hK : KI K := ⟨k0, k1, k2, k3, k4, k5, k6, k7, k8⟩
  refine ⟨?_, fun y hy => ?_, fun c hc => ?_, fun j hj => ?_, fun j hj => ?_, fun j hj => ?_, fun j hj => ?_, fun j hj => ?_, fun p hp => ?_⟩
  · simp only [up_ne (show (0 : Nat) ≠ 74 + i by omega), up_ne (show (1 : Nat) ≠ 74 + i by omega), up_ne (show (3 : Nat) ≠ 74 + i by omega), up_ne (show (4 : Nat) ≠ 74 + i by omega), up_ne (show (5 : Nat) ≠ 74 + i by omega), up_ne (show (18 : Nat) ≠ 74 + i by omega)]
    exact k0
  · rw [up_ne (by omega), up_ne (by omega)]; exact k1 y hy
  · rw [up_ne (by omega)]; exact k2 c hc
  · rw [up_ne (by omega)]; exact k3 j hj
  · by_cases q : j = i
    · subst q; rw [up_same]; exact hv
    · rw [up_ne (by omega)]; exact k4 j hj
  · rw [up_ne (by omega)]; exact k5 j hj
  · rw [up_ne (by omega)]; exact k6 j hj
  · rw [nC_up (by omega)]
    by_cases q : j = i
    · subst q; left; exact ⟨hi, by rw [onN_up hK (by omega) _ (div_12 hK hi)]; exact hon⟩
    · rcases k7 j hj with ⟨z1, z2⟩ | z
      · left; exact ⟨z1, by rw [onN_up hK (by omega) _ (div_12 hK z1)]; exact z2⟩
      · right; rw [up_ne (by omega), up_ne (by omega), up_ne (by omega)]; exact z
  · rw [up_ne (by omega), up_ne (by omega)]
    exact ⟨(k8 p hp).1, (k8 p hp).2.1, fun j hj => by rw [up_ne (by omega)]; exact (k8 p hp).2.2 j hj⟩
theorem KI.upW {K : Nat → Nat} (hK : KI K) {i v : Nat} (hi : i < nC K) (hon : on K i = true) (hv : v ≤ 9) : KI (upN K (254 + i) v) := by
  have n0 := nC_le hK
  obtain ⟨k0, k1, k2, k3, k4, k5, k6, k7, k8⟩ := hK
  have hK : KI K := ⟨k0, k1, k2, k3, k4, k5, k6, k7, k8⟩
  refine ⟨?_, fun y hy => ?_, fun c hc => ?_, fun j hj => ?_, fun j hj => ?_, fun j hj => ?_, fun j hj => ?_, fun j hj => ?_, fun p hp => ?_⟩
  · simp only [up_ne (show (0 : Nat) ≠ 254 + i by omega), up_ne (show (1 : Nat) ≠ 254 + i by omega), up_ne (show (3 : Nat) ≠ 254 + i by omega), up_ne (show (4 : Nat) ≠ 254 + i by omega), up_ne (show (5 : Nat) ≠ 254 + i by omega), up_ne (show (18 : Nat) ≠ 254 + i by omega)]
    exact k0
  · rw [up_ne (by omega), up_ne (by omega)]; exact k1 y hy
  · rw [up_ne (by omega)]; exact k2 c hc
  · rw [up_ne (by omega)]; exact k3 j hj
  · rw [up_ne (by omega)]; exact k4 j hj
  · by_cases q : j = i
    · subst q; rw [up_same]; exact hv
    · rw [up_ne (by omega)]; exact k5 j hj
  · rw [up_ne (by omega)]; exact k6 j hj
  · rw [nC_up (by omega)]
    by_cases q : j = i
    · subst q; left; exact ⟨hi, by rw [onN_up hK (by omega) _ (div_12 hK hi)]; exact hon⟩
    · rcases k7 j hj with ⟨z1, z2⟩ | z
      · left; exact ⟨z1, by rw [onN_up hK (by omega) _ (div_12 hK z1)]; exact z2⟩
      · right; rw [up_ne (by omega), up_ne (by omega), up_ne (by omega)]; exact z
  · rw [up_ne (by omega), up_ne (by omega)]
    exact ⟨(k8 p hp).1, (k8 p hp).2.1, fun j hj => by rw [up_ne (by omega)]; exact (k8 p hp).2.2 j hj⟩
theorem KI.upS {K : Nat → Nat} (hK : KI K) {i v : Nat} (hi : i < nC K) (hon : on K i = true) (hv : v ≤ 1) : KI (upN K (434 + i) v) := by
  have n0 := nC_le hK
  obtain ⟨k0, k1, k2, k3, k4, k5, k6, k7, k8⟩ := hK
  have hK : KI K := ⟨k0, k1, k2, k3, k4, k5, k6, k7, k8⟩
  refine ⟨?_, fun y hy => ?_, fun c hc => ?_, fun j hj => ?_, fun j hj => ?_, fun j hj => ?_, fun j hj => ?_, fun j hj => ?_, fun p hp => ?_⟩
  · simp only [up_ne (show (0 : Nat) ≠ 434 + i by omega), up_ne (show (1 : Nat) ≠ 434 + i by omega), up_ne (show (3 : Nat) ≠ 434 + i by omega), up_ne (show (4 : Nat) ≠ 434 + i by omega), up_ne (show (5 : Nat) ≠ 434 + i by omega), up_ne (show (18 : Nat) ≠ 434 + i by omega)]
    exact k0
  · rw [up_ne (by omega), up_ne (by omega)]; exact k1 y hy
  · rw [up_ne (by omega)]; exact k2 c hc
  · rw [up_ne (by omega)]; exact k3 j hj
  · rw [up_ne (by omega)]; exact k4 j hj
  · rw [up_ne (by omega)]; exact k5 j hj
  · by_cases q : j = i
    · subst q; rw [up_same]; exact hv
    · rw [up_ne (by omega)]; exact k6 j hj
  · rw [nC_up (by omega)]
    by_cases q : j = i
    · subst q; left; exact ⟨hi, by rw [onN_up hK (by omega) _ (div_12 hK hi)]; exact hon⟩
    · rcases k7 j hj with ⟨z1, z2⟩ | z
      · left; exact ⟨z1, by rw [onN_up hK (by omega) _ (div_12 hK z1)]; exact z2⟩
      · right; rw [up_ne (by omega), up_ne (by omega), up_ne (by omega)]; exact z
  · rw [up_ne (by omega), up_ne (by omega)]
    exact ⟨(k8 p hp).1, (k8 p hp).2.1, fun j hj => by rw [up_ne (by omega)]; exact (k8 p hp).2.2 j hj⟩
theorem setC_0 {K : Nat → Nat} {i c w j : Nat} (hj : j < 74) : setC K i c w j = K j := by
  unfold setC; rw [up_ne (by omega), up_ne (by omega)]
theorem KI.setC {K : Nat → Nat} (hK : KI K) {i c w : Nat} (hi : i < nC K) (hon : on K i = true) (hc : c ≤ 6) (hw : w ≤ 9) : KI (setC K i c w) := by
  have h1 := hK.upC hi hon hc
  refine h1.upW ?_ ?_ hw
  · rw [nC_up (by omega)]; exact hi
  · rw [onN_up hK (by omega) _ (div_12 hK hi)]; exact hon
theorem on_setC {K : Nat → Nat} {i c w : Nat} (x y : Int) (hy : y < 12) : onZ (setC K i c w) x y = onZ K x y := by
  unfold setC; rw [on_up (by omega) _ _ hy, on_up (by omega) _ _ hy]
theorem onN_setC {K : Nat → Nat} (hK : KI K) {i c w j : Nat} (hj : j < nC K) : on (setC K i c w) j = on K j := by
  unfold on
  rw [setC_0 (by omega), on_setC _ _ (by have := div_12 hK hj; omega)]
theorem nC_setC {K : Nat → Nat} {i c w : Nat} : nC (setC K i c w) = nC K := by
  unfold nC; rw [setC_0 (by omega), setC_0 (by omega)]
/-- the mirror of a cell of the sail is one -/
theorem mir_on {K : Nat → Nat} (hK : KI K) {x y : Nat} (hx : x < K 0) (hon : onZ K (x : Int) (y : Int) = true) : onZ K ((K 0 - 1 - x : Nat) : Int) (y : Int) = true := by
  have k0 := hK.1
  rw [onZ_iff] at hon ⊢
  omega
theorem KI.pC {K : Nat → Nat} (hK : KI K) {x y : Int} {c w : Nat} {mi : Bool} (hc : c ≤ 6) (hw : w ≤ 9) : KI (putC K x y c w mi) := by
  unfold putC
  split
  · rename_i hon
    obtain ⟨u, v, rfl, rfl, h1, h2, h3, h4, -⟩ := onZ_nat hK hon
    simp only [Int.toNat_natCast]
    have hu : on K (v * K 0 + u) = true := by rw [on_at h1]; exact hon
    have hm := mir_on hK h1 hon
    have hm2 : on K (v * K 0 + (K 0 - 1 - u)) = true := by rw [on_at (by omega)]; exact hm
    have hl := ci_lt (K := K) (x := K 0 - 1 - u) (y := v) h2 (by omega)
    split
    · refine (hK.setC h3 hu hc hw).setC ?_ ?_ hc hw
      · rw [nC_setC]; exact hl
      · rw [onN_setC hK hl]; exact hm2
    · exact hK.setC h3 hu hc hw
  · exact hK
theorem putC_0 {K : Nat → Nat} {x y : Int} {c w : Nat} {mi : Bool} {j : Nat} (hj : j < 74) : putC K x y c w mi j = K j := by
  unfold putC
  split
  · split
    · rw [setC_0 hj, setC_0 hj]
    · rw [setC_0 hj]
  · rfl
theorem sp_putColour (hS : SA NC h b K) (hK : KI K) {x y : Int} (hx : -2147483648 ≤ x ∧ x < 2147483648) (hy : -2147483648 ≤ y ∧ y < 2147483648) {c w : Nat} {mi : Bool} : Cl NC M_X3_putColour [.ref b, .int (I x), .int (I y), .int (I (c : Int)), .int (I (w : Int)), .int (I (if mi = true then 1 else 0))] h (fun _ h1 => SW NC h h1 b (putC K x y c w mi)) := by
  refine ax_aload_n dX3_putColour_0 rfl ?_
  refine ax_iload_n dX3_putColour_1 rfl ?_
  refine ax_iload_n dX3_putColour_2 rfl ?_
  refine ax_cviP2 dX3_putColour_3 ln_X3_putColour_124 (Nat.le_of_ble_eq_true rfl) (Or.inr rfl) hS.n0 hS.o rfl (sp_holds hS hK hx hy) ?_
  refine ax_if_ne (tgt := 10) dX3_putColour_6 (by decide) (by split <;> omega) (fun c6 => ?_) (fun c6 => ?_)
  · have hon : onZ K x y = true := by by_cases z : onZ K x y = true; exact z; rw [if_neg z] at c6; omega
    obtain ⟨u, v, rfl, rfl, u1, v1, n1, n2, -⟩ := onZ_nat hK hon
    have k0 := hK.1
    have n3 := ci_lt (K := K) (x := K 0 - 1 - u) (y := v) v1 (by omega)
    refine ax_aload_n dX3_putColour_10 rfl ?_
    refine ax_aload_n dX3_putColour_11 rfl ?_
    refine ax_iload_n dX3_putColour_12 rfl ?_
    refine ax_iload_n dX3_putColour_13 rfl ?_
    refine ax_cviP2 dX3_putColour_14 ln_X3_putColour_99 (Nat.le_of_ble_eq_true rfl) (Or.inl rfl) hS.n0 hS.o rfl (sp_numberOf hS) ?_
    rw [show ((v : Int) * (K 0 : Int) + (u : Int)) = ((v * K 0 + u : Nat) : Int) by push_cast; omega]
    refine ax_iload_n dX3_putColour_17 rfl ?_
    refine ax_iload dX3_putColour_18 rfl ?_
    refine ax_cvv3 dX3_putColour_20 ln_X3_putColour_128 (Nat.le_of_ble_eq_true rfl) rfl hS.n0 hS.o rfl (sp_setCell hS (i := v * K 0 + u) (c := c) (w := w) (by omega)) (fun h1 hq1 => ?_)
    obtain ⟨hS1, hF1⟩ := hq1
    refine ax_iload dX3_putColour_23 rfl ?_
    refine ax_if_eq (tgt := 45) dX3_putColour_25 (by decide) (by cases mi <;> decide) (fun c25 => ?_) (fun c25 => ?_)
    · cases mi with
      | true => simp at c25
      | false => exact ax_vret dX3_putColour_45 rfl ⟨by unfold putC; rw [if_pos hon, if_neg (by decide)]; simp only [Int.toNat_natCast]; exact hS1, hF1⟩
    · cases mi with
      | false => simp at c25
      | true =>
      refine ax_aload_n dX3_putColour_28 rfl ?_
      refine ax_aload_n dX3_putColour_29 rfl ?_
      refine ax_aload_n dX3_putColour_30 rfl ?_
      refine ax_iload_n dX3_putColour_31 rfl ?_
      refine ax_cviP1 dX3_putColour_32 ln_X3_putColour_102 (Nat.le_of_ble_eq_true rfl) (Or.inl rfl) hS1.n0 hS1.o rfl (sp_mirrorX hS1) ?_
      rw [setC_0 (by omega)]
      refine ax_iload_n dX3_putColour_35 rfl ?_
      refine ax_cviP2 dX3_putColour_36 ln_X3_putColour_99 (Nat.le_of_ble_eq_true rfl) (Or.inl rfl) hS1.n0 hS1.o rfl (sp_numberOf hS1) ?_
      rw [setC_0 (by omega), show ((v : Int) * (K 0 : Int) + ((K 0 : Int) - 1 - (u : Int))) = ((v * K 0 + (K 0 - 1 - u) : Nat) : Int) by push_cast; omega]
      refine ax_iload_n dX3_putColour_39 rfl ?_
      refine ax_iload dX3_putColour_40 rfl ?_
      refine ax_cvv3 dX3_putColour_42 ln_X3_putColour_128 (Nat.le_of_ble_eq_true rfl) rfl hS1.n0 hS1.o rfl (sp_setCell hS1 (i := v * K 0 + (K 0 - 1 - u)) (c := c) (w := w) (by omega)) (fun h2 hq2 => ?_)
      obtain ⟨hS2, hF2⟩ := hq2
      exact ax_vret dX3_putColour_45 rfl ⟨by unfold putC; rw [if_pos hon, if_pos rfl]; simp only [Int.toNat_natCast]; exact hS2, hF1.tr hF2⟩
  · exact ax_vret dX3_putColour_9 rfl ⟨by unfold putC; rw [if_neg (by intro z; rw [if_pos z] at c6; omega)]; exact hS, Fr.rf⟩
def telM (K : Nat → Nat) (a c m : Nat) : Nat → Nat := upN (upN K (25 + (a * 7 + c)) m) (25 + (c * 7 + a)) m
theorem sp_tellMix (hS : SA NC h b K) {a c m : Nat} (ha : a < 7) (hc : c < 7) : Cl NC M_X3_tellMix [.ref b, .int (I (a : Int)), .int (I (c : Int)), .int (I (m : Int))] h (fun _ h1 => SW NC h h1 b (telM K a c m)) := by
  refine ax_aload_n dX3_tellMix_0 rfl ?_
  refine ax_getf dX3_tellMix_1 ck3 fl_X3_18 (by decide) hS.n0 hS.o rfl ?_
  refine ax_iload_n dX3_tellMix_4 rfl ?_
  refine ax_bipush dX3_tellMix_5 (by decide) ?_
  refine ax_imul dX3_tellMix_7 ?_
  refine ax_iload_n dX3_tellMix_8 rfl ?_
  refine ax_iadd dX3_tellMix_9 ?_
  refine ax_iload_n dX3_tellMix_10 rfl ?_
  refine ax_iasr (j := (a * 7 + c)) dX3_tellMix_11 (hS.n 3 (by omega)) hS.mx (by omega) (by omega) (by decide) (fun e11 he11 => ?_)
  have hS1 := hS.w3 (by omega) he11
  refine ax_aload_n dX3_tellMix_12 rfl ?_
  refine ax_getf dX3_tellMix_13 ck3 fl_X3_18 (by decide) hS1.n0 hS1.o rfl ?_
  refine ax_iload_n dX3_tellMix_16 rfl ?_
  refine ax_bipush dX3_tellMix_17 (by decide) ?_
  refine ax_imul dX3_tellMix_19 ?_
  refine ax_iload_n dX3_tellMix_20 rfl ?_
  refine ax_iadd dX3_tellMix_21 ?_
  refine ax_iload_n dX3_tellMix_22 rfl ?_
  refine ax_iasr (j := (c * 7 + a)) dX3_tellMix_23 (hS1.n 3 (by omega)) hS1.mx (by omega) (by omega) (by decide) (fun e23 he23 => ?_)
  have hS2 := hS1.w3 (by omega) he23
  exact ax_vret dX3_tellMix_24 rfl ⟨hS2, Fr.up (Fr.up Fr.rf (by omega)) (by omega)⟩
theorem sp_setPatternColour (hS : SA NC h b K) {p l d c : Nat} (hp : p < 3) (hl : l < 6) (hd : d < 7) : Cl NC M_X3_setPatternColour [.ref b, .int (I (p : Int)), .int (I (l : Int)), .int (I (d : Int)), .int (I (c : Int))] h (fun _ h1 => SW NC h h1 b (upN K (616 + 44 * p + (7 * l + d)) c)) := by
  refine ax_aload_n dX3_setPatternColour_0 rfl ?_
  refine ax_getf dX3_setPatternColour_1 ck3 fl_X3_27 (by decide) hS.n0 hS.o rfl ?_
  refine ax_iload_n dX3_setPatternColour_4 rfl ?_
  refine ax_bipush dX3_setPatternColour_5 (by decide) ?_
  refine ax_imul dX3_setPatternColour_7 ?_
  refine ax_iload_n dX3_setPatternColour_8 rfl ?_
  refine ax_iadd dX3_setPatternColour_9 ?_
  refine ax_bipush dX3_setPatternColour_10 (by decide) ?_
  refine ax_imul dX3_setPatternColour_12 ?_
  refine ax_iload_n dX3_setPatternColour_13 rfl ?_
  refine ax_iadd dX3_setPatternColour_14 ?_
  refine ax_iload dX3_setPatternColour_15 rfl ?_
  refine ax_iasr (j := ((p * 6 + l) * 7 + d)) dX3_setPatternColour_17 (hS.n 6 (by omega)) hS.pc (by omega) (by omega) (by decide) (fun e17 he17 => ?_)
  have hS1 := hS.w6 (by omega) he17
  rw [show 616 + 44 * (((p * 6 + l) * 7 + d) / 42) + ((p * 6 + l) * 7 + d) % 42 = 616 + 44 * p + (7 * l + d) by omega] at hS1
  exact ax_vret dX3_setPatternColour_18 rfl ⟨hS1, Fr.up Fr.rf (by omega)⟩
end SW
