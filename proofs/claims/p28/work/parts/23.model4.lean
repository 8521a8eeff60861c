/-! the reference: a tick, to its end -/
def sh (t : Nat) (e : va_E) (n : Nat) : Prop := ∃ f, row t e n f
theorem sh.mv {t n : Nat} {e e' : va_E} (h : sh t e n) (q : e' = e) : sh t e' n := q ▸ h
theorem tikP_lo {K : Nat → Nat} {c j : Nat} (hj : j < 74) : tikP K c j = K j := by
  unfold tikP; rw [if_neg (by omega), if_neg (by omega)]
theorem tikP_c {K : Nat → Nat} {c : Nat} (hc : c < 180) : tikP K c (74 + c) = K (74 + c) := by
  unfold tikP; rw [if_neg (by omega), if_neg (by omega)]
theorem tikP_w {K : Nat → Nat} {c : Nat} (hc : c < 180) : tikP K c (254 + c) = K (254 + c) := by
  unfold tikP; rw [if_neg (by omega), if_neg (by omega)]
theorem nC_tikP {K : Nat → Nat} {c : Nat} : nC (tikP K c) = nC K := by
  unfold nC; rw [tikP_lo (by omega), tikP_lo (by omega)]
theorem tik_st1 {K : Nat → Nat} {c : Nat} (hc : c < 180) (hb : blT K c < 0) : ∀ i, i < 746 → upZ (fun i => (tikP K c i : Int)) (254 + c) (wetT K c) i = (tikP K (c + 1) i : Int) := by
  intro i hi
  simp only [upZ]
  by_cases q : i = 254 + c
  · rw [if_pos q, q]
    unfold tikP
    rw [if_neg (by omega), if_pos (by omega), show 254 + c - 254 = c by omega]
  · rw [if_neg q]
    by_cases q2 : i = 74 + c
    · rw [q2, tikP_c hc]
      unfold tikP
      rw [if_pos (by omega), show 74 + c - 74 = c by omega]
      unfold colT
      rw [if_neg (by omega)]
    · unfold tikP
      by_cases z1 : 74 ≤ i ∧ i < 74 + c
      · rw [if_pos z1, if_pos (by omega)]
      · rw [if_neg z1, if_neg (by omega : ¬ (74 ≤ i ∧ i < 74 + (c + 1)))]
        by_cases z2 : 254 ≤ i ∧ i < 254 + c
        · rw [if_pos z2, if_pos (by omega)]
        · rw [if_neg z2, if_neg (by omega : ¬ (254 ≤ i ∧ i < 254 + (c + 1)))]
theorem tik_st2 {K : Nat → Nat} {c : Nat} {v2 : Int} (hc : c < 180) : ∀ i, i < 746 → upZ (upZ (upZ (fun i => (tikP K c i : Int)) (74 + c) (colT K c)) (254 + c) v2) (254 + c) (wetT K c) i = (tikP K (c + 1) i : Int) := by
  intro i hi
  simp only [upZ]
  by_cases q : i = 254 + c
  · rw [if_pos q, q]
    unfold tikP
    rw [if_neg (by omega), if_pos (by omega), show 254 + c - 254 = c by omega]
  · rw [if_neg q, if_neg q]
    by_cases q2 : i = 74 + c
    · rw [if_pos q2, q2]
      unfold tikP
      rw [if_pos (by omega), show 74 + c - 74 = c by omega]
    · rw [if_neg q2]
      unfold tikP
      by_cases z1 : 74 ≤ i ∧ i < 74 + c
      · rw [if_pos z1, if_pos (by omega)]
      · rw [if_neg z1, if_neg (by omega : ¬ (74 ≤ i ∧ i < 74 + (c + 1)))]
        by_cases z2 : 254 ≤ i ∧ i < 254 + c
        · rw [if_pos z2, if_pos (by omega)]
        · rw [if_neg z2, if_neg (by omega : ¬ (254 ≤ i ∧ i < 254 + (c + 1)))]
theorem off_big {K : Nat → Nat} (hK : KI K) {i : Nat} (hi : nC K ≤ i) : on K i = false := by
  have k0 := hK.1
  cases e : on K i with
  | false => rfl
  | true =>
    exfalso
    unfold on at e
    rw [onZ_iff] at e
    have h1 : K 1 ≤ i / K 0 := (Nat.le_div_iff_mul_le (by omega)).mpr (by rw [Nat.mul_comm]; exact hi)
    have h2 := e.2.1
    have h3 : ((K 1 : Nat) : Int) ≤ ((i / K 0 : Nat) : Int) := Int.ofNat_le.mpr h1
    omega
theorem blT_off {K : Nat → Nat} {i : Nat} (h : on K i = false) : blT K i = -1 := by
  unfold blT; rw [if_neg (by rw [h]; decide)]
theorem tik_end {K : Nat → Nat} (hK : KI K) : ∀ i, i < 746 → upZ (fun i => (tikP K (nC K) i : Int)) 2 ((K 2 : Int) + 1) i = (tikN K i : Int) := by
  intro i hi
  have n0 := nC_le hK
  simp only [upZ, tikN]
  by_cases q : i = 2
  · rw [if_pos q, if_pos q]; push_cast; rfl
  · rw [if_neg q, if_neg q]
    unfold tikP
    by_cases z1 : 74 ≤ i ∧ i < 254
    · rw [if_pos z1]
      by_cases z2 : i < 74 + nC K
      · rw [if_pos (by omega)]
      · have hb := blT_off (off_big hK (i := i - 74) (by omega))
        rw [if_neg (by omega), if_neg (by omega)]
        unfold colT
        rw [if_neg (by omega), show 74 + (i - 74) = i by omega]
    · rw [if_neg z1, if_neg (by omega)]
      by_cases z2 : 254 ≤ i ∧ i < 434
      · rw [if_pos z2]
        by_cases z3 : i < 254 + nC K
        · rw [if_pos (by omega)]
        · have hb := blT_off (off_big hK (i := i - 254) (by omega))
          rw [if_neg (by omega)]
          unfold wetT
          rw [if_neg (by omega), show 254 + (i - 254) = i by omega]
          rcases hK.2.2.2.2.2.2.2.1 (i - 254) (by omega) with y | y
          · omega
          · rw [show 254 + (i - 254) = i by omega] at y; omega
      · rw [if_neg z2, if_neg (by omega)]
section MT
variable {NC : Nat} {h : hp} {s : Nat → Int} {K : Nat → Nat} {Q : qt}
end MT
