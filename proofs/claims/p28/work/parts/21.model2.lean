/-! the reference: what bleeds, a tick -/
def EqX (X : List Nat) (h g : hp) : Prop := ∀ a, a ∉ X → g a = h a
theorem EqX.rf {X : List Nat} {h : hp} : EqX X h h := fun _ _ => rfl
theorem EqX.tr {X : List Nat} {h g k : hp} (H1 : EqX X h g) (H2 : EqX X g k) : EqX X h k := fun a ha => (H2 a ha).trans (H1 a ha)
theorem EqX.up {X : List Nat} {h g : hp} {b : Nat} {e : va_E} (H : EqX X h g) (hb : b ∈ X) : EqX X h (va_up g b e) := fun a ha => by
  have n : a ≠ b := fun q => ha (by rw [q]; exact hb)
  rw [vu_ne n]
  exact H a ha
theorem EqX.wk {X Y : List Nat} {h g : hp} (H : EqX X h g) (hs : ∀ a ∈ X, a ∈ Y) : EqX Y h g := fun a ha => H a (fun q => ha (hs a q))
theorem MD.eq {h g : hp} {s : Nat → Int} {K : Nat → Nat} (hM : MD h s K) (h1 : g 112 = h 112) (h2 : g 114 = h 114) : MD g s K := ⟨h1.trans hM.1, hM.2.mv h2⟩
def dxW (j : Nat) : Int := if j = 2 then -1 else if j = 3 then 1 else 0
def dyW (j : Nat) : Int := if j = 0 then -1 else if j = 1 then 1 else 0
def blT (K : Nat → Nat) (i : Nat) : Int := if on K i = true then blC K i else -1
def colT (K : Nat → Nat) (i : Nat) : Nat := if 0 ≤ blT K i then (if K (74 + i) = 0 then K (74 + (blT K i).toNat) else mixN K (K (74 + i)) (K (74 + (blT K i).toNat))) else K (74 + i)
def halT (K : Nat → Nat) (i : Nat) : Nat := (K (254 + i) + K (254 + (blT K i).toNat)) / 2
def wetT (K : Nat → Nat) (i : Nat) : Nat := (if 0 ≤ blT K i then halT K i else K (254 + i)) - 1
def cfB (K : Nat → Nat) : Nat → Int := fun i => if 0 ≤ blT K i then 1 else 0
def bleC (K : Nat → Nat) : Int := si (cfB K) (nC K)
def tikP (K : Nat → Nat) (c : Nat) : Nat → Nat := fun j => if 74 ≤ j ∧ j < 74 + c then colT K (j - 74) else if 254 ≤ j ∧ j < 254 + c then wetT K (j - 254) else K j
def tikN (K : Nat → Nat) : Nat → Nat := fun j => if j = 2 then K 2 + 1 else if 74 ≤ j ∧ j < 254 then colT K (j - 74) else if 254 ≤ j ∧ j < 434 then wetT K (j - 254) else K j
theorem pick_comm {p q : Prop} [Decidable p] [Decidable q] {b A C : Int} {f : Nat → Nat} (a1 : p → 0 ≤ A) (a2 : q → 0 ≤ C) (a3 : p → q → f A.toNat = f C.toNat → A = C) :
    (if q ∧ ((if p ∧ (b < 0 ∨ f b.toNat < f A.toNat) then A else b) < 0 ∨ f (if p ∧ (b < 0 ∨ f b.toNat < f A.toNat) then A else b).toNat < f C.toNat) then C else (if p ∧ (b < 0 ∨ f b.toNat < f A.toNat) then A else b))
    = (if p ∧ ((if q ∧ (b < 0 ∨ f b.toNat < f C.toNat) then C else b) < 0 ∨ f (if q ∧ (b < 0 ∨ f b.toNat < f C.toNat) then C else b).toNat < f A.toNat) then A else (if q ∧ (b < 0 ∨ f b.toNat < f C.toNat) then C else b)) := by
  by_cases hp : p
  · by_cases hq : q
    · have b1 := a1 hp
      have b2 := a2 hq
      have b3 := a3 hp hq
      by_cases h1 : b < 0 ∨ f b.toNat < f A.toNat <;> by_cases h2 : b < 0 ∨ f b.toNat < f C.toNat
      · simp only [hp, hq, h1, h2, and_self, if_true, true_and]
        by_cases z1 : f A.toNat < f C.toNat
        · rw [if_pos (Or.inr z1), if_neg (by omega)]
        · by_cases z2 : f C.toNat < f A.toNat
          · rw [if_neg (by omega), if_pos (Or.inr z2)]
          · rw [if_neg (by omega), if_neg (by omega)]; exact b3 (by omega)
      · simp only [hp, hq, h1, h2, and_self, and_false, if_true, if_false, true_and]
        rw [if_neg (by omega)]
      · simp only [hp, hq, h1, h2, and_self, and_false, if_true, if_false, true_and]
        rw [if_neg (by omega)]
      · simp only [hp, hq, h1, h2, and_self, and_false, if_true, if_false, true_and]
    · simp only [hq, false_and, if_false]
  · simp only [hp, false_and, if_false]
/-- the better one of two candidates, in any order -/
theorem pk_comm {K : Nat → Nat} (hK : KI K) {i : Nat} {b ax ay cx cy : Int} : pkN K i (pkN K i b ax ay) cx cy = pkN K i (pkN K i b cx cy) ax ay := by
  have inj : ∀ {x y x2 y2 : Int}, onZ K x y = true → onZ K x2 y2 = true → scN K (y * (K 0 : Int) + x).toNat = scN K (y2 * (K 0 : Int) + x2).toNat → y * (K 0 : Int) + x = y2 * (K 0 : Int) + x2 := by
    intro x y x2 y2 h1 h2 h3
    obtain ⟨u, v, rfl, rfl, u1, v1, n1, n2, -⟩ := onZ_nat hK h1
    obtain ⟨u', v', rfl, rfl, u1', v1', n1', -, -⟩ := onZ_nat hK h2
    have e1 : ((v : Int) * (K 0 : Int) + (u : Int)) = ((v * K 0 + u : Nat) : Int) := by push_cast; omega
    have e2 : ((v' : Int) * (K 0 : Int) + (u' : Int)) = ((v' * K 0 + u' : Nat) : Int) := by push_cast; omega
    rw [e1, e2, Int.toNat_natCast, Int.toNat_natCast] at h3
    have c1 := hK.2.2.2.2.1 (v * K 0 + u) (by omega)
    have c2 := hK.2.2.2.2.1 (v' * K 0 + u') (by omega)
    rw [e1, e2]
    unfold scN at h3
    omega
  have pos : ∀ {x y : Int}, onZ K x y = true → 0 ≤ y * (K 0 : Int) + x := by
    intro x y h1
    obtain ⟨u, v, rfl, rfl, u1, v1, n1, n2, -⟩ := onZ_nat hK h1
    have e1 : ((v : Int) * (K 0 : Int) + (u : Int)) = ((v * K 0 + u : Nat) : Int) := by push_cast; omega
    omega
  have hA0 : ∀ A, ay * (K 0 : Int) + ax = A → (onZ K ax ay = true ∧ K (434 + A.toNat) = 0 ∧ K (254 + i) + 2 ≤ K (254 + A.toNat)) → 0 ≤ A := fun A e p => e ▸ pos p.1
  have hC0 : ∀ C, cy * (K 0 : Int) + cx = C → (onZ K cx cy = true ∧ K (434 + C.toNat) = 0 ∧ K (254 + i) + 2 ≤ K (254 + C.toNat)) → 0 ≤ C := fun C e p => e ▸ pos p.1
  have hAC : ∀ A C, ay * (K 0 : Int) + ax = A → cy * (K 0 : Int) + cx = C → (onZ K ax ay = true ∧ K (434 + A.toNat) = 0 ∧ K (254 + i) + 2 ≤ K (254 + A.toNat)) → (onZ K cx cy = true ∧ K (434 + C.toNat) = 0 ∧ K (254 + i) + 2 ≤ K (254 + C.toNat)) → scN K A.toNat = scN K C.toNat → A = C := fun A C e1 e2 p q => by
    subst e1; subst e2; exact inj p.1 q.1
  unfold pkN
  generalize hA : ay * (K 0 : Int) + ax = A
  generalize hC : cy * (K 0 : Int) + cx = C
  have a1 := hA0 A hA
  have a2 := hC0 C hC
  have a3 := hAC A C hA hC
  exact pick_comm a1 a2 a3
section MT
variable {NC : Nat} {h : hp} {s : Nat → Int} {K : Nat → Nat} {Q : qt}
end MT
