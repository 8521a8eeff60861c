/-! the reference: its object at 112, its rows at 113 .. 130; s: the object's numbers by their places -/
def modF (s : Nat → Int) : List Value := [.int (I (s 0)), .ref 113, .int (I (s 2)), .int (I (s 3)), .int (I (s 4)), .int (I (s 5)), .int (I (s 6)), .int (I (s 7)), .ref 114, .ref 115, .ref 116, .ref 117, .int (I (s 12)), .int (I (s 13)), .int (I (s 14)), .int (I (s 15)), .ref 126, .ref 127, .ref 128, .ref 129, .ref 130]
def MD (h : hp) (s : Nat → Int) (K : Nat → Nat) : Prop := h 112 = .inr (6, modF s) ∧ row 0 (h 114) 746 (fun i => (K i : Int))
theorem abs_I {z : Int} (hz : -2147483648 < z ∧ z < 2147483648) : (if 0 ≤ I z then I z else -(I z)) = I (max z (-z)) := by
  rw [I_0, I_neg]
  simp only [I_le (show -2147483648 ≤ (0 : Int) ∧ (0 : Int) < 2147483648 by omega) (show -2147483648 ≤ z ∧ z < 2147483648 by omega)]
  by_cases h : 0 ≤ z
  · rw [if_pos h]; congr 1; omega
  · rw [if_neg h]; congr 1; omega
theorem sgn_I {z : Int} (hz : -2147483648 ≤ z ∧ z < 2147483648) : (if I z < 0 then (-1 : Int32) else if I z = 0 then 0 else 1) = I (sgz z) := by
  have := cmp_sgz hz (show -2147483648 ≤ (0 : Int) ∧ (0 : Int) < 2147483648 by omega)
  rw [← I_0, Int.sub_zero] at this
  exact this
def KS (K : Nat → Nat) : Prop := (K 0 % 2 = 1 ∧ K 0 ≤ 15 ∧ 1 ≤ K 1 ∧ K 1 ≤ 12) ∧ ∀ y, y < 12 → K (6 + y) ≤ K 0 / 2
theorem KI.ks {K : Nat → Nat} (hK : KI K) : KS K := ⟨by have := hK.1; omega, hK.2.1⟩
def blC (K : Nat → Nat) (c : Nat) : Int := blN K (c % K 0) (c / K 0)
theorem cd_eq {K : Nat → Nat} (c : Nat) : c / K 0 * K 0 + c % K 0 = c := by rw [Nat.mul_comm]; exact Nat.div_add_mod c (K 0)
section MM
variable {NC : Nat} {h : hp} {s : Nat → Int} {K : Nat → Nat} {Q : qt}
end MM
