/-! the reference: what bleeds, a tick -/
def EqX (X : List Nat) (h g : hp) : Prop := ∀ a, a ∉ X → g a = h a
theorem EqX.rf {X : List Nat} {h : hp} : EqX X h h := fun _ _ => rfl
theorem EqX.tr {X : List Nat} {h g k : hp} (H1 : EqX X h g) (H2 : EqX X g k) : EqX X h k := fun a ha => (H2 a ha).trans (H1 a ha)
theorem EqX.up {X : List Nat} {h g : hp} {b : Nat} {e : va_E} (H : EqX X h g) (hb : b ∈ X) : EqX X h (va_up g b e) := fun a ha => by
  have n : a ≠ b := fun q => ha (by rw [q]; exact hb)
  rw [vu_ne n]
  exact H a ha
theorem EqX.wk {X Y : List Nat} {h g : hp} (H : EqX X h g) (hs : ∀ a ∈ X, a ∈ Y) : EqX Y h g := fun a ha => H a (fun q => ha (hs a q))
theorem MD.eq {h g : hp} {s : Nat → Int} {K : Nat → Nat} (hM : MD h s K) (h1 : g 112 = h 112) (h2 : g 114 = h 114) : MD g s K := ⟨h1.trans hM.1, hM.2.mv h2⟩
def dxW (j : Nat) : Int := if j = 2 then -1 else if j = 3 then 1 else 0
def dyW (j : Nat) : Int := if j = 0 then -1 else if j = 1 then 1 else 0
def blT (K : Nat → Nat) (i : Nat) : Int := if on K i = true then blC K i else -1
def colT (K : Nat → Nat) (i : Nat) : Nat := if 0 ≤ blT K i then (if K (74 + i) = 0 then K (74 + (blT K i).toNat) else mixN K (K (74 + i)) (K (74 + (blT K i).toNat))) else K (74 + i)
def halT (K : Nat → Nat) (i : Nat) : Nat := (K (254 + i) + K (254 + (blT K i).toNat)) / 2
def wetT (K : Nat → Nat) (i : Nat) : Nat := (if 0 ≤ blT K i then halT K i else K (254 + i)) - 1
def cfB (K : Nat → Nat) : Nat → Int := fun i => if 0 ≤ blT K i then 1 else 0
def bleC (K : Nat → Nat) : Int := si (cfB K) (nC K)
def tikP (K : Nat → Nat) (c : Nat) : Nat → Nat := fun j => if 74 ≤ j ∧ j < 74 + c then colT K (j - 74) else if 254 ≤ j ∧ j < 254 + c then wetT K (j - 254) else K j
def tikN (K : Nat → Nat) : Nat → Nat := fun j => if j = 2 then K 2 + 1 else if 74 ≤ j ∧ j < 254 then colT K (j - 74) else if 254 ≤ j ∧ j < 434 then wetT K (j - 254) else K j
theorem pick_comm {p q : Prop} [Decidable p] [Decidable q] {b A C : Int} {f : Nat → Nat} (a1 : p → 0 ≤ A) (a2 : q → 0 ≤ C) (a3 : p → q → f A.toNat = f C.toNat → A = C) :
    (if q ∧ ((if p ∧ (b < 0 ∨ f b.toNat < f A.toNat) then A else b) < 0 ∨ f (if p ∧ (b < 0 ∨ f b.toNat < f A.toNat) then A else b).toNat < f C.toNat) then C else (if p ∧ (b < 0 ∨ f b.toNat < f A.toNat) then A else b))
    = (if p ∧ ((if q ∧ (b < 0 ∨ f b.toNat < f C.toNat) then C else b) < 0 ∨ f (if q ∧ (b < 0 ∨ f b.toNat < f C.toNat) then C else b).toNat < f A.toNat) then A else (if q ∧ (b < 0 ∨ f b.toNat < f C.toNat) then C else b)) := by
  by_cases hp : p
  · by_cases hq : q
    · have b1 := a1 hp
      have b2 := a2 hq
      have b3 := a3 hp hq
      by_cases h1 : b < 0 ∨ f b.toNat < f A.toNat <;> by_cases h2 : b < 0 ∨ f b.toNat < f C.toNat
      · simp only [hp, hq, h1, h2, and_self, if_true, true_and]
        by_cases z1 : f A.toNat < f C.toNat
        · rw [if_pos (Or.inr z1), if_neg (by omega)]
        · by_cases z2 : f C.toNat < f A.toNat
          · rw [if_neg (by omega), if_pos (Or.inr z2)]
          · rw [if_neg (by omega), if_neg (by omega)]; exact b3 (by omega)
      · simp only [hp, hq, h1, h2, and_self, and_false, if_true, if_false, true_and]
        rw [if_neg (by omega)]
      · simp only [hp, hq, h1, h2, and_self, and_false, if_true, if_false, true_and]
        rw [if_neg (by omega)]
      · simp only [hp, hq, h1, h2, and_self, and_false, if_true, if_false, true_and]
    · simp only [hq, false_and, if_false]
  · simp only [hp, false_and, if_false]
/-- the better one of two candidates, in any order -/
theorem pk_comm {K : Nat → Nat} (hK : KI K) {i : Nat} {b ax ay cx cy : Int} : pkN K i (pkN K i b ax ay) cx cy = pkN K i (pkN K i b cx cy) ax ay := by
  have inj : ∀ {x y x2 y2 : Int}, onZ K x y = true → onZ K x2 y2 = true → scN K (y * (K 0 : Int) + x).toNat = scN K (y2 * (K 0 : Int) + x2).toNat → y * (K 0 : Int) + x = y2 * (K 0 : Int) + x2 := by
    intro x y x2 y2 h1 h2 h3
    obtain ⟨u, v, rfl, rfl, u1, v1, n1, n2, -⟩ := onZ_nat hK h1
    obtain ⟨u', v', rfl, rfl, u1', v1', n1', -, -⟩ := onZ_nat hK h2
    have e1 : ((v : Int) * (K 0 : Int) + (u : Int)) = ((v * K 0 + u : Nat) : Int) := by push_cast; omega
    have e2 : ((v' : Int) * (K 0 : Int) + (u' : Int)) = ((v' * K 0 + u' : Nat) : Int) := by push_cast; omega
    rw [e1, e2, Int.toNat_natCast, Int.toNat_natCast] at h3
    have c1 := hK.2.2.2.2.1 (v * K 0 + u) (by omega)
    have c2 := hK.2.2.2.2.1 (v' * K 0 + u') (by omega)
    rw [e1, e2]
    unfold scN at h3
    omega
  have pos : ∀ {x y : Int}, onZ K x y = true → 0 ≤ y * (K 0 : Int) + x := by
    intro x y h1
    obtain ⟨u, v, rfl, rfl, u1, v1, n1, n2, -⟩ := onZ_nat hK h1
    have e1 : ((v : Int) * (K 0 : Int) + (u : Int)) = ((v * K 0 + u : Nat) : Int) := by push_cast; omega
    omega
  have hA0 : ∀ A, ay * (K 0 : Int) + ax = A → (onZ K ax ay = true ∧ K (434 + A.toNat) = 0 ∧ K (254 + i) + 2 ≤ K (254 + A.toNat)) → 0 ≤ A := fun A e p => e ▸ pos p.1
  have hC0 : ∀ C, cy * (K 0 : Int) + cx = C → (onZ K cx cy = true ∧ K (434 + C.toNat) = 0 ∧ K (254 + i) + 2 ≤ K (254 + C.toNat)) → 0 ≤ C := fun C e p => e ▸ pos p.1
  have hAC : ∀ A C, ay * (K 0 : Int) + ax = A → cy * (K 0 : Int) + cx = C → (onZ K ax ay = true ∧ K (434 + A.toNat) = 0 ∧ K (254 + i) + 2 ≤ K (254 + A.toNat)) → (onZ K cx cy = true ∧ K (434 + C.toNat) = 0 ∧ K (254 + i) + 2 ≤ K (254 + C.toNat)) → scN K A.toNat = scN K C.toNat → A = C := fun A C e1 e2 p q => by
    subst e1; subst e2; exact inj p.1 q.1
  unfold pkN
  generalize hA : ay * (K 0 : Int) + ax = A
  generalize hC : cy * (K 0 : Int) + cx = C
  have a1 := hA0 A hA
  have a2 := hC0 C hC
  have a3 := hAC A C hA hC
  exact pick_comm a1 a2 a3
section MT
variable {NC : Nat} {h : hp} {s : Nat → Int} {K : Nat → Nat} {Q : qt}
theorem s6_cells0 (hN : 132 ≤ NC) (hM : MD h s K) : Cl NC M_X6_cells [.ref 112] h (fun v h1 => v = .int (I (nC K : Int)) ∧ h1 = h) := by
  refine ax_aload_n dX6_cells_0 rfl ?_
  refine ax_getf dX6_cells_1 ck6 fl_X6_17 (by decide) (by omega) hM.1 rfl ?_
  refine ax_iconst dX6_cells_4 ?_
  refine ax_ialr (j := 0) (w := (K (0) : Int)) dX6_cells_5 (by omega) hM.2 (by omega) (by omega) (by decide) rfl ?_
  refine ax_aload_n dX6_cells_6 rfl ?_
  refine ax_getf dX6_cells_7 ck6 fl_X6_17 (by decide) (by omega) hM.1 rfl ?_
  refine ax_iconst dX6_cells_10 ?_
  refine ax_ialr (j := 1) (w := (K (1) : Int)) dX6_cells_11 (by omega) hM.2 (by omega) (by omega) (by decide) rfl ?_
  refine ax_imul dX6_cells_12 ?_
  exact ax_iret dX6_cells_13 rfl ⟨iq (by unfold nC; push_cast; rfl), rfl⟩
theorem s6_beside (hN : 132 ≤ NC) (hM : MD h s K) (hK : KI K) {c j : Nat} (hc : c < 180) (hj : j < 4) : Cl NC M_X6_beside [.ref 112, .int (I (c : Int)), .int (I (j : Int))] h (fun v h1 => v = .int (I (if onZ K (((c % K 0 : Nat) : Int) + dxW j) (((c / K 0 : Nat) : Int) + dyW j) = true then (((c / K 0 : Nat) : Int) + dyW j) * (K 0 : Int) + (((c % K 0 : Nat) : Int) + dxW j) else -1)) ∧ h1 = h) := by
  have k0 := hK.1
  have d1 : c % K 0 < 180 := Nat.lt_of_le_of_lt (Nat.mod_le _ _) hc
  have d2 : c / K 0 < 180 := Nat.lt_of_le_of_lt (Nat.div_le_self _ _) hc
  have sx := s6_xOf hN hM hK hc
  have sy := s6_yOf hN hM hK hc
  generalize c % K 0 = u at *
  generalize c / K 0 = v at *
  have dx1 : -1 ≤ dxW j ∧ dxW j ≤ 1 := by unfold dxW; split; omega; split <;> omega
  have dy1 : -1 ≤ dyW j ∧ dyW j ≤ 1 := by unfold dyW; split; omega; split <;> omega
  have fin : ∀ dx dy : Int, dx = dxW j → dy = dyW j → Ex NC none M_X6_beside 52 [.ref 112, .int (I (c : Int)), .int (I (j : Int)), .int (I ((u : Int) + dx)), .int (I ((v : Int) + dy))] [] h (fun w h1 => w = .int (I (if onZ K ((u : Int) + dxW j) ((v : Int) + dyW j) = true then ((v : Int) + dyW j) * (K 0 : Int) + ((u : Int) + dxW j) else -1)) ∧ h1 = h) := by
    intro dx dy e1 e2
    subst e1
    subst e2
    refine ax_aload_n dX6_beside_52 rfl ?_
    refine ax_iload_n dX6_beside_53 rfl ?_
    refine ax_iload dX6_beside_54 rfl ?_
    refine ax_cviP2 dX6_beside_56 ln_X6_beside_198 (Nat.le_of_ble_eq_true rfl) (Or.inr rfl) (by omega) hM.1 rfl (s6_isOf hN hM hK (by omega) (by omega)) ?_
    refine ax_if_eq (tgt := 76) dX6_beside_59 (by decide) (by split <;> omega) (fun c59 => ?_) (fun c59 => ?_)
    · have hon : ¬ onZ K ((u : Int) + dxW j) ((v : Int) + dyW j) = true := fun z => by rw [if_pos z] at c59; omega
      refine ax_iconst dX6_beside_76 ?_
      exact ax_iret dX6_beside_77 rfl ⟨iq (by first | (rw [if_pos hon]; done) | (rw [if_neg hon]; done)), rfl⟩
    · have hon : onZ K ((u : Int) + dxW j) ((v : Int) + dyW j) = true := by by_cases z : onZ K ((u : Int) + dxW j) ((v : Int) + dyW j) = true; exact z; rw [if_neg z] at c59; omega
      refine ax_iload dX6_beside_62 rfl ?_
      refine ax_aload_n dX6_beside_64 rfl ?_
      refine ax_getf dX6_beside_65 ck6 fl_X6_17 (by decide) (by omega) hM.1 rfl ?_
      refine ax_iconst dX6_beside_68 ?_
      refine ax_ialr (j := 0) (w := (K (0) : Int)) dX6_beside_69 (by omega) hM.2 (by omega) (by omega) (by decide) rfl ?_
      refine ax_imul dX6_beside_70 ?_
      refine ax_iload_n dX6_beside_71 rfl ?_
      refine ax_iadd dX6_beside_72 ?_
      refine ax_goto (tgt := 77) dX6_beside_73 (by decide) ?_
      exact ax_iret dX6_beside_77 rfl ⟨iq (by first | (rw [if_pos hon]; done) | (rw [if_neg hon]; done)), rfl⟩
  refine ax_aload_n dX6_beside_0 rfl ?_
  refine ax_iload_n dX6_beside_1 rfl ?_
  refine ax_cviP1 dX6_beside_2 ln_X6_beside_192 (Nat.le_of_ble_eq_true rfl) (Or.inl rfl) (by omega) hM.1 rfl sx ?_
  refine ax_iload_n dX6_beside_5 rfl ?_
  refine ax_iconst dX6_beside_6 ?_
  refine ax_icmp_ne (tgt := 14) dX6_beside_7 (by decide) (by omega) (by omega) (fun c7 => ?_) (fun c7 => ?_)
  · refine ax_iload_n dX6_beside_14 rfl ?_
    refine ax_iconst dX6_beside_15 ?_
    refine ax_icmp_ne (tgt := 23) dX6_beside_16 (by decide) (by omega) (by omega) (fun c16 => ?_) (fun c16 => ?_)
    · refine ax_iconst dX6_beside_23 ?_
      refine ax_iadd dX6_beside_24 ?_
      refine ax_istore_n dX6_beside_25 rfl (by decide) ?_
      refine ax_aload_n dX6_beside_26 rfl ?_
      refine ax_iload_n dX6_beside_27 rfl ?_
      refine ax_cviP1 dX6_beside_28 ln_X6_beside_195 (Nat.le_of_ble_eq_true rfl) (Or.inl rfl) (by omega) hM.1 rfl sy ?_
      refine ax_iload_n dX6_beside_31 rfl ?_
      refine ax_if_ne (tgt := 39) dX6_beside_32 (by decide) (by omega) (fun c32 => ?_) (fun c32 => ?_)
      · refine ax_iload_n dX6_beside_39 rfl ?_
        refine ax_iconst dX6_beside_40 ?_
        refine ax_icmp_ne (tgt := 48) dX6_beside_41 (by decide) (by omega) (by omega) (fun c41 => ?_) (fun c41 => ?_)
        · refine ax_iconst dX6_beside_48 ?_
          refine ax_iadd dX6_beside_49 ?_
          refine ax_istore dX6_beside_50 rfl (by decide) ?_
          exact fin _ _ (by unfold dxW; first | (rw [if_pos (by omega)]; done) | (rw [if_neg (by omega)]; first | (rw [if_pos (by omega)]; done) | (rw [if_neg (by omega)]; done))) (by unfold dyW; first | (rw [if_pos (by omega)]; done) | (rw [if_neg (by omega)]; first | (rw [if_pos (by omega)]; done) | (rw [if_neg (by omega)]; done)))
        · refine ax_iconst dX6_beside_44 ?_
          refine ax_goto (tgt := 49) dX6_beside_45 (by decide) ?_
          refine ax_iadd dX6_beside_49 ?_
          refine ax_istore dX6_beside_50 rfl (by decide) ?_
          exact fin _ _ (by unfold dxW; first | (rw [if_pos (by omega)]; done) | (rw [if_neg (by omega)]; first | (rw [if_pos (by omega)]; done) | (rw [if_neg (by omega)]; done))) (by unfold dyW; first | (rw [if_pos (by omega)]; done) | (rw [if_neg (by omega)]; first | (rw [if_pos (by omega)]; done) | (rw [if_neg (by omega)]; done)))
      · refine ax_iconst dX6_beside_35 ?_
        refine ax_goto (tgt := 49) dX6_beside_36 (by decide) ?_
        refine ax_iadd dX6_beside_49 ?_
        refine ax_istore dX6_beside_50 rfl (by decide) ?_
        exact fin _ _ (by unfold dxW; first | (rw [if_pos (by omega)]; done) | (rw [if_neg (by omega)]; first | (rw [if_pos (by omega)]; done) | (rw [if_neg (by omega)]; done))) (by unfold dyW; first | (rw [if_pos (by omega)]; done) | (rw [if_neg (by omega)]; first | (rw [if_pos (by omega)]; done) | (rw [if_neg (by omega)]; done)))
    · refine ax_iconst dX6_beside_19 ?_
      refine ax_goto (tgt := 24) dX6_beside_20 (by decide) ?_
      refine ax_iadd dX6_beside_24 ?_
      refine ax_istore_n dX6_beside_25 rfl (by decide) ?_
      refine ax_aload_n dX6_beside_26 rfl ?_
      refine ax_iload_n dX6_beside_27 rfl ?_
      refine ax_cviP1 dX6_beside_28 ln_X6_beside_195 (Nat.le_of_ble_eq_true rfl) (Or.inl rfl) (by omega) hM.1 rfl sy ?_
      refine ax_iload_n dX6_beside_31 rfl ?_
      refine ax_if_ne (tgt := 39) dX6_beside_32 (by decide) (by omega) (fun c32 => ?_) (fun c32 => ?_)
      · refine ax_iload_n dX6_beside_39 rfl ?_
        refine ax_iconst dX6_beside_40 ?_
        refine ax_icmp_ne (tgt := 48) dX6_beside_41 (by decide) (by omega) (by omega) (fun c41 => ?_) (fun c41 => ?_)
        · refine ax_iconst dX6_beside_48 ?_
          refine ax_iadd dX6_beside_49 ?_
          refine ax_istore dX6_beside_50 rfl (by decide) ?_
          exact fin _ _ (by unfold dxW; first | (rw [if_pos (by omega)]; done) | (rw [if_neg (by omega)]; first | (rw [if_pos (by omega)]; done) | (rw [if_neg (by omega)]; done))) (by unfold dyW; first | (rw [if_pos (by omega)]; done) | (rw [if_neg (by omega)]; first | (rw [if_pos (by omega)]; done) | (rw [if_neg (by omega)]; done)))
        · refine ax_iconst dX6_beside_44 ?_
          refine ax_goto (tgt := 49) dX6_beside_45 (by decide) ?_
          refine ax_iadd dX6_beside_49 ?_
          refine ax_istore dX6_beside_50 rfl (by decide) ?_
          exact fin _ _ (by unfold dxW; first | (rw [if_pos (by omega)]; done) | (rw [if_neg (by omega)]; first | (rw [if_pos (by omega)]; done) | (rw [if_neg (by omega)]; done))) (by unfold dyW; first | (rw [if_pos (by omega)]; done) | (rw [if_neg (by omega)]; first | (rw [if_pos (by omega)]; done) | (rw [if_neg (by omega)]; done)))
      · refine ax_iconst dX6_beside_35 ?_
        refine ax_goto (tgt := 49) dX6_beside_36 (by decide) ?_
        refine ax_iadd dX6_beside_49 ?_
        refine ax_istore dX6_beside_50 rfl (by decide) ?_
        exact fin _ _ (by unfold dxW; first | (rw [if_pos (by omega)]; done) | (rw [if_neg (by omega)]; first | (rw [if_pos (by omega)]; done) | (rw [if_neg (by omega)]; done))) (by unfold dyW; first | (rw [if_pos (by omega)]; done) | (rw [if_neg (by omega)]; first | (rw [if_pos (by omega)]; done) | (rw [if_neg (by omega)]; done)))
  · refine ax_iconst dX6_beside_10 ?_
    refine ax_goto (tgt := 24) dX6_beside_11 (by decide) ?_
    refine ax_iadd dX6_beside_24 ?_
    refine ax_istore_n dX6_beside_25 rfl (by decide) ?_
    refine ax_aload_n dX6_beside_26 rfl ?_
    refine ax_iload_n dX6_beside_27 rfl ?_
    refine ax_cviP1 dX6_beside_28 ln_X6_beside_195 (Nat.le_of_ble_eq_true rfl) (Or.inl rfl) (by omega) hM.1 rfl sy ?_
    refine ax_iload_n dX6_beside_31 rfl ?_
    refine ax_if_ne (tgt := 39) dX6_beside_32 (by decide) (by omega) (fun c32 => ?_) (fun c32 => ?_)
    · refine ax_iload_n dX6_beside_39 rfl ?_
      refine ax_iconst dX6_beside_40 ?_
      refine ax_icmp_ne (tgt := 48) dX6_beside_41 (by decide) (by omega) (by omega) (fun c41 => ?_) (fun c41 => ?_)
      · refine ax_iconst dX6_beside_48 ?_
        refine ax_iadd dX6_beside_49 ?_
        refine ax_istore dX6_beside_50 rfl (by decide) ?_
        exact fin _ _ (by unfold dxW; first | (rw [if_pos (by omega)]; done) | (rw [if_neg (by omega)]; first | (rw [if_pos (by omega)]; done) | (rw [if_neg (by omega)]; done))) (by unfold dyW; first | (rw [if_pos (by omega)]; done) | (rw [if_neg (by omega)]; first | (rw [if_pos (by omega)]; done) | (rw [if_neg (by omega)]; done)))
      · refine ax_iconst dX6_beside_44 ?_
        refine ax_goto (tgt := 49) dX6_beside_45 (by decide) ?_
        refine ax_iadd dX6_beside_49 ?_
        refine ax_istore dX6_beside_50 rfl (by decide) ?_
        exact fin _ _ (by unfold dxW; first | (rw [if_pos (by omega)]; done) | (rw [if_neg (by omega)]; first | (rw [if_pos (by omega)]; done) | (rw [if_neg (by omega)]; done))) (by unfold dyW; first | (rw [if_pos (by omega)]; done) | (rw [if_neg (by omega)]; first | (rw [if_pos (by omega)]; done) | (rw [if_neg (by omega)]; done)))
    · refine ax_iconst dX6_beside_35 ?_
      refine ax_goto (tgt := 49) dX6_beside_36 (by decide) ?_
      refine ax_iadd dX6_beside_49 ?_
      refine ax_istore dX6_beside_50 rfl (by decide) ?_
      exact fin _ _ (by unfold dxW; first | (rw [if_pos (by omega)]; done) | (rw [if_neg (by omega)]; first | (rw [if_pos (by omega)]; done) | (rw [if_neg (by omega)]; done))) (by unfold dyW; first | (rw [if_pos (by omega)]; done) | (rw [if_neg (by omega)]; first | (rw [if_pos (by omega)]; done) | (rw [if_neg (by omega)]; done)))
theorem src6_step (hN : 132 ≤ NC) (hM : MD h s K) (hK : KI K) {c : Nat} (hc : c < 180) {j : Nat} (hj : j < 4) {best : Int} (hb : -1 ≤ best ∧ best < 180)
    (kk : ∀ best' : Int, best' = pkN K c best (((c % K 0 : Nat) : Int) + dxW j) (((c / K 0 : Nat) : Int) + dyW j) → ∀ w4 w5 : Value, Ex NC none M_X6_source 4 [.ref 112, .int (I (c : Int)), .int (I best'), .int (I ((j : Int) + 1)), w4, w5] [] h Q) (w4 w5 : Value) : Ex NC none M_X6_source 4 [.ref 112, .int (I (c : Int)), .int (I best), .int (I (j : Int)), w4, w5] [] h Q := by
  have k0 := hK.1
  have sb := s6_beside hN hM hK hc hj
  generalize ((c % K 0 : Nat) : Int) + dxW j = nx at *
  generalize ((c / K 0 : Nat) : Int) + dyW j = ny at *
  refine ax_iload_n dX6_source_4 rfl ?_
  refine ax_iconst dX6_source_5 ?_
  refine ax_icmp_ge (tgt := 149) dX6_source_6 (by decide) (by omega) (by omega) (fun c6 => ?_) (fun c6 => ?_)
  · exfalso
    omega
  · refine ax_aload_n dX6_source_9 rfl ?_
    refine ax_iload_n dX6_source_10 rfl ?_
    refine ax_iload_n dX6_source_11 rfl ?_
    refine ax_cviP2 dX6_source_12 ln_X6_source_225 (Nat.le_of_ble_eq_true rfl) (Or.inl rfl) (by omega) hM.1 rfl sb ?_
    refine ax_istore dX6_source_15 rfl (by decide) ?_
    refine ax_iload dX6_source_17 rfl ?_
    refine ax_iconst dX6_source_19 ?_
    refine ax_icmp_eq (tgt := 143) dX6_source_20 (by decide) (by split; obtain ⟨u, v, rfl, rfl, u1, v1, n1, n2, -⟩ := onZ_nat hK (by assumption); have e1 : ((v : Int) * (K 0 : Int) + (u : Int)) = ((v * K 0 + u : Nat) : Int) := (by push_cast; omega); omega; omega) (by omega) (fun c20 => ?_) (fun c20 => ?_)
    · have hno : ¬ onZ K nx ny = true := fun z => by
        rw [if_pos z] at c20
        obtain ⟨u, v, rfl, rfl, u1, v1, n1, n2, -⟩ := onZ_nat hK z
        have e1 : ((v : Int) * (K 0 : Int) + (u : Int)) = ((v * K 0 + u : Nat) : Int) := by push_cast; omega
        omega
      refine ax_iinc dX6_source_143 rfl rfl (by decide) ?_
      refine ax_goto (tgt := 4) dX6_source_146 (by decide) ?_
      exact kk _ (by unfold pkN; rw [if_neg (by first | (rintro ⟨⟨z1, -, -⟩, -⟩; exact hno z1) | (rintro ⟨⟨-, z2, z3⟩, z4⟩; rw [etn] at z2 z3 z4; first | omega | (rw [Int.toNat_natCast] at z4; unfold scN at z4; omega)))]) _ _
    · have hon : onZ K nx ny = true := by by_cases z : onZ K nx ny = true; exact z; rw [if_neg z] at c20; omega
      obtain ⟨u, v, rfl, rfl, u1, v1, n1, n2, -⟩ := onZ_nat hK hon
      have e1 : ((v : Int) * (K 0 : Int) + (u : Int)) = ((v * K 0 + u : Nat) : Int) := by push_cast; omega
      have etn : ((v : Int) * (K 0 : Int) + (u : Int)).toNat = v * K 0 + u := by rw [e1]; exact Int.toNat_natCast _
      rw [if_pos hon, e1]
      have w8a := hK.2.2.2.2.2.1 (v * K 0 + u) (by omega)
      have w8b := hK.2.2.2.2.2.1 c (by omega)
      have w8c := hK.2.2.2.2.2.2.1 (v * K 0 + u) (by omega)
      have w8d := hK.2.2.2.2.1 (v * K 0 + u) (by omega)
      refine ax_aload_n dX6_source_23 rfl ?_
      refine ax_getf dX6_source_24 ck6 fl_X6_17 (by decide) (by omega) hM.1 rfl ?_
      refine ax_sipush dX6_source_27 (by decide) ?_
      refine ax_iload dX6_source_30 rfl ?_
      refine ax_iadd dX6_source_32 ?_
      refine ax_ialr (j := (434 + (v * K 0 + u))) (w := (K ((434 + (v * K 0 + u))) : Int)) dX6_source_33 (by omega) hM.2 (by omega) (by omega) (by decide) rfl ?_
      refine ax_iconst dX6_source_34 ?_
      refine ax_icmp_eq (tgt := 143) dX6_source_35 (by decide) (by omega) (by omega) (fun c35 => ?_) (fun c35 => ?_)
      · refine ax_iinc dX6_source_143 rfl rfl (by decide) ?_
        refine ax_goto (tgt := 4) dX6_source_146 (by decide) ?_
        exact kk _ (by unfold pkN; rw [if_neg (by first | (rintro ⟨⟨z1, -, -⟩, -⟩; exact hno z1) | (rintro ⟨⟨-, z2, z3⟩, z4⟩; rw [etn] at z2 z3 z4; first | omega | (rw [Int.toNat_natCast] at z4; unfold scN at z4; omega)))]) _ _
      · refine ax_aload_n dX6_source_38 rfl ?_
        refine ax_getf dX6_source_39 ck6 fl_X6_17 (by decide) (by omega) hM.1 rfl ?_
        refine ax_sipush dX6_source_42 (by decide) ?_
        refine ax_iload dX6_source_45 rfl ?_
        refine ax_iadd dX6_source_47 ?_
        refine ax_ialr (j := (254 + (v * K 0 + u))) (w := (K ((254 + (v * K 0 + u))) : Int)) dX6_source_48 (by omega) hM.2 (by omega) (by omega) (by decide) rfl ?_
        refine ax_aload_n dX6_source_49 rfl ?_
        refine ax_getf dX6_source_50 ck6 fl_X6_17 (by decide) (by omega) hM.1 rfl ?_
        refine ax_sipush dX6_source_53 (by decide) ?_
        refine ax_iload_n dX6_source_56 rfl ?_
        refine ax_iadd dX6_source_57 ?_
        refine ax_ialr (j := (254 + c)) (w := (K ((254 + c)) : Int)) dX6_source_58 (by omega) hM.2 (by omega) (by omega) (by decide) rfl ?_
        refine ax_iconst dX6_source_59 ?_
        refine ax_iadd dX6_source_60 ?_
        refine ax_icmp_ge (tgt := 67) dX6_source_61 (by decide) (by omega) (by omega) (fun c61 => ?_) (fun c61 => ?_)
        · refine ax_iload_n dX6_source_67 rfl ?_
          refine ax_iconst dX6_source_68 ?_
          refine ax_icmp_ne (tgt := 76) dX6_source_69 (by decide) (by omega) (by omega) (fun c69 => ?_) (fun c69 => ?_)
          · obtain ⟨q, rfl⟩ : ∃ q : Nat, best = (q : Int) := ⟨best.toNat, by omega⟩
            have w9a := hK.2.2.2.2.2.1 q (by omega)
            have w9d := hK.2.2.2.2.1 q (by omega)
            refine ax_bipush dX6_source_76 (by decide) ?_
            refine ax_aload_n dX6_source_78 rfl ?_
            refine ax_getf dX6_source_79 ck6 fl_X6_17 (by decide) (by omega) hM.1 rfl ?_
            refine ax_sipush dX6_source_82 (by decide) ?_
            refine ax_iload dX6_source_85 rfl ?_
            refine ax_iadd dX6_source_87 ?_
            refine ax_ialr (j := (254 + (v * K 0 + u))) (w := (K ((254 + (v * K 0 + u))) : Int)) dX6_source_88 (by omega) hM.2 (by omega) (by omega) (by decide) rfl ?_
            refine ax_aload_n dX6_source_89 rfl ?_
            refine ax_getf dX6_source_90 ck6 fl_X6_17 (by decide) (by omega) hM.1 rfl ?_
            refine ax_sipush dX6_source_93 (by decide) ?_
            refine ax_iload_n dX6_source_96 rfl ?_
            refine ax_iadd dX6_source_97 ?_
            refine ax_ialr (j := (254 + q)) (w := (K ((254 + q)) : Int)) dX6_source_98 (by omega) hM.2 (by omega) (by omega) (by decide) rfl ?_
            refine ax_isub dX6_source_99 ?_
            refine ax_imul dX6_source_100 ?_
            refine ax_aload_n dX6_source_101 rfl ?_
            refine ax_getf dX6_source_102 ck6 fl_X6_17 (by decide) (by omega) hM.1 rfl ?_
            refine ax_bipush dX6_source_105 (by decide) ?_
            refine ax_iload dX6_source_107 rfl ?_
            refine ax_iadd dX6_source_109 ?_
            refine ax_ialr (j := (74 + (v * K 0 + u))) (w := (K ((74 + (v * K 0 + u))) : Int)) dX6_source_110 (by omega) hM.2 (by omega) (by omega) (by decide) rfl ?_
            refine ax_iadd dX6_source_111 ?_
            refine ax_aload_n dX6_source_112 rfl ?_
            refine ax_getf dX6_source_113 ck6 fl_X6_17 (by decide) (by omega) hM.1 rfl ?_
            refine ax_bipush dX6_source_116 (by decide) ?_
            refine ax_iload_n dX6_source_118 rfl ?_
            refine ax_iadd dX6_source_119 ?_
            refine ax_ialr (j := (74 + q)) (w := (K ((74 + q)) : Int)) dX6_source_120 (by omega) hM.2 (by omega) (by omega) (by decide) rfl ?_
            refine ax_isub dX6_source_121 ?_
            refine ax_istore dX6_source_122 rfl (by decide) ?_
            refine ax_iload dX6_source_124 rfl ?_
            refine ax_if_gt (tgt := 140) dX6_source_126 (by decide) (by omega) (fun c126 => ?_) (fun c126 => ?_)
            · refine ax_iload dX6_source_140 rfl ?_
              refine ax_istore_n dX6_source_142 rfl (by decide) ?_
              refine ax_iinc dX6_source_143 rfl rfl (by decide) ?_
              refine ax_goto (tgt := 4) dX6_source_146 (by decide) ?_
              exact kk _ (by unfold pkN; rw [if_pos ⟨⟨hon, by rw [etn]; omega, by rw [etn]; omega⟩, by rw [etn]; first | exact Or.inl (by omega) | exact Or.inr (by rw [Int.toNat_natCast]; unfold scN; omega)⟩]; push_cast; rfl) _ _
            · refine ax_iload dX6_source_129 rfl ?_
              refine ax_if_ne (tgt := 143) dX6_source_131 (by decide) (by omega) (fun c131 => ?_) (fun c131 => ?_)
              · refine ax_iinc dX6_source_143 rfl rfl (by decide) ?_
                refine ax_goto (tgt := 4) dX6_source_146 (by decide) ?_
                exact kk _ (by unfold pkN; rw [if_neg (by first | (rintro ⟨⟨z1, -, -⟩, -⟩; exact hno z1) | (rintro ⟨⟨-, z2, z3⟩, z4⟩; rw [etn] at z2 z3 z4; first | omega | (rw [Int.toNat_natCast] at z4; unfold scN at z4; omega)))]) _ _
              · refine ax_iload dX6_source_134 rfl ?_
                refine ax_iload_n dX6_source_136 rfl ?_
                refine ax_icmp_ge (tgt := 143) dX6_source_137 (by decide) (by omega) (by omega) (fun c137 => ?_) (fun c137 => ?_)
                · refine ax_iinc dX6_source_143 rfl rfl (by decide) ?_
                  refine ax_goto (tgt := 4) dX6_source_146 (by decide) ?_
                  exact kk _ (by unfold pkN; rw [if_neg (by first | (rintro ⟨⟨z1, -, -⟩, -⟩; exact hno z1) | (rintro ⟨⟨-, z2, z3⟩, z4⟩; rw [etn] at z2 z3 z4; first | omega | (rw [Int.toNat_natCast] at z4; unfold scN at z4; omega)))]) _ _
                · refine ax_iload dX6_source_140 rfl ?_
                  refine ax_istore_n dX6_source_142 rfl (by decide) ?_
                  refine ax_iinc dX6_source_143 rfl rfl (by decide) ?_
                  refine ax_goto (tgt := 4) dX6_source_146 (by decide) ?_
                  exact kk _ (by unfold pkN; rw [if_pos ⟨⟨hon, by rw [etn]; omega, by rw [etn]; omega⟩, by rw [etn]; first | exact Or.inl (by omega) | exact Or.inr (by rw [Int.toNat_natCast]; unfold scN; omega)⟩]; push_cast; rfl) _ _
          · refine ax_iconst dX6_source_72 ?_
            refine ax_goto (tgt := 122) dX6_source_73 (by decide) ?_
            refine ax_istore dX6_source_122 rfl (by decide) ?_
            refine ax_iload dX6_source_124 rfl ?_
            refine ax_if_gt (tgt := 140) dX6_source_126 (by decide) (by omega) (fun c126 => ?_) (fun c126 => ?_)
            · refine ax_iload dX6_source_140 rfl ?_
              refine ax_istore_n dX6_source_142 rfl (by decide) ?_
              refine ax_iinc dX6_source_143 rfl rfl (by decide) ?_
              refine ax_goto (tgt := 4) dX6_source_146 (by decide) ?_
              exact kk _ (by unfold pkN; rw [if_pos ⟨⟨hon, by rw [etn]; omega, by rw [etn]; omega⟩, by rw [etn]; first | exact Or.inl (by omega) | exact Or.inr (by rw [Int.toNat_natCast]; unfold scN; omega)⟩]; push_cast; rfl) _ _
            · exfalso
              omega
        · refine ax_goto (tgt := 143) dX6_source_64 (by decide) ?_
          refine ax_iinc dX6_source_143 rfl rfl (by decide) ?_
          refine ax_goto (tgt := 4) dX6_source_146 (by decide) ?_
          exact kk _ (by unfold pkN; rw [if_neg (by first | (rintro ⟨⟨z1, -, -⟩, -⟩; exact hno z1) | (rintro ⟨⟨-, z2, z3⟩, z4⟩; rw [etn] at z2 z3 z4; first | omega | (rw [Int.toNat_natCast] at z4; unfold scN at z4; omega)))]) _ _
end MT
