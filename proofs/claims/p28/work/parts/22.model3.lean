/-! the reference: a tick -/
theorem src_rg {K : Nat → Nat} (hK : KI K) (x y : Nat) : -1 ≤ srcN K x y ∧ srcN K x y < 180 := by
  unfold srcN
  exact pk_rg hK (pk_rg hK (pk_rg hK (pk_rg hK (by omega))))
theorem bl_rg {K : Nat → Nat} (hK : KI K) (x y : Nat) : -3 ≤ blN K x y ∧ blN K x y < 180 := by
  have := src_rg hK x y
  unfold blN
  split
  · omega
  · split <;> omega
theorem blT_rg {K : Nat → Nat} (hK : KI K) (i : Nat) : -3 ≤ blT K i ∧ blT K i < 180 := by
  have := bl_rg hK (i % K 0) (i / K 0)
  unfold blT blC
  split <;> omega
theorem src6 {K : Nat → Nat} (hK : KI K) {c : Nat} : pkN K c (pkN K c (pkN K c (pkN K c (-1) (((c % K 0 : Nat) : Int) + dxW 0) (((c / K 0 : Nat) : Int) + dyW 0)) (((c % K 0 : Nat) : Int) + dxW 1) (((c / K 0 : Nat) : Int) + dyW 1)) (((c % K 0 : Nat) : Int) + dxW 2) (((c / K 0 : Nat) : Int) + dyW 2)) (((c % K 0 : Nat) : Int) + dxW 3) (((c / K 0 : Nat) : Int) + dyW 3) = srcN K (c % K 0) (c / K 0) := by
  have e := cd_eq (K := K) c
  unfold srcN
  rw [e, pk_comm hK (b := pkN K c (-1) _ _), pk_comm hK (b := pkN K c (pkN K c (-1) _ _) _ _)]
  have z0 : dxW 0 = 0 := rfl
  have z1 : dyW 0 = -1 := rfl
  have z2 : dxW 1 = 0 := rfl
  have z3 : dyW 1 = 1 := rfl
  have z4 : dxW 2 = -1 := rfl
  have z5 : dyW 2 = 0 := rfl
  have z6 : dxW 3 = 1 := rfl
  have z7 : dyW 3 = 0 := rfl
  rw [z0, z1, z2, z3, z4, z5, z6, z7]
  simp only [Int.add_zero]
  rfl
section MT
variable {NC : Nat} {h : hp} {s : Nat → Int} {K : Nat → Nat} {Q : qt}
end MT
