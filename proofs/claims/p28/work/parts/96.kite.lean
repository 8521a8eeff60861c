/-! THE KITE of the law: its places, its small methods -/
def kiteF (K : Nat → Nat) (w m p cl : Nat) : List Value := [.int (I (K 0)), .int (I (K 1)), .int (I (K 2)), .int (I (K 3)), .int (I (K 4)), .ref w, .ref m, .ref p, .ref cl]
def cellF (K : Nat → Nat) (i : Nat) : List Value := [.int (I ((i % K 0 : Nat) : Int)), .int (I ((i / K 0 : Nat) : Int)), .int (I (K (74 + i) : Int)), .int (I (K (254 + i) : Int)), .int (I (K (434 + i) : Int))]
/-- a Kite at k: its rows w, m, p, its row of cells cl, its cells ce i -/
def KT (h : hg) (k w m p cl : Nat) (ce : Nat → Nat) (K : Nat → Nat) : Prop :=
  h k = some (.inr (7, kiteF K w m p cl)) ∧ rwQ 6 (h cl) (nC K) (fun i => if on K i = true then some (ce i) else none) ∧ ∀ i, i < nC K → on K i = true → h (ce i) = some (.inr (6, cellF K i))
/-- a text made by the law -/
def STR (h : hg) (a n : Nat) (f : Nat → Int) : Prop := ∃ (va : Nat) (hs hz : Int32), h a = some (.inr (9, [.ref va, .int 0, .int hs, .int hz])) ∧ rwI 1 (h va) n f
def PL (h : hg) (q : Nat) (K : Nat → Nat) (j : Nat) : Prop := ∃ st : Nat → Nat, rwQ 8 (h q) (K (615 + 44 * j)) (fun l => some (st l)) ∧ ∀ l, l < K (615 + 44 * j) → STR h (st l) (K (614 + 44 * j)) (fun d => 48 + (K (616 + 44 * j + (7 * l + d)) : Int))
/-- what all copies of a Kite share -/
def SHR (h : hg) (w m p : Nat) (K : Nat → Nat) : Prop :=
  rwI 0 (h w) 7 (fun i => (K (18 + i) : Int)) ∧ (∃ mr : Nat → Nat, rwQ 4 (h m) 7 (fun a => some (mr a)) ∧ ∀ a, a < 7 → rwI 0 (h (mr a)) 7 (fun b => (K (25 + (a * 7 + b)) : Int))) ∧ ∃ pr : Nat → Nat, rwQ 9 (h p) (K 5) (fun j => some (pr j)) ∧ ∀ j, j < K 5 → PL h (pr j) K j
def atR (K : Nat → Nat) (ce : Nat → Nat) (x y : Int) : Option Nat := if onZ K x y = true then some (ce (y.toNat * K 0 + x.toNat)) else none
theorem onZ_out {K : Nat → Nat} (hK : KI K) {x y : Int} (h : ¬ (0 ≤ x ∧ 0 ≤ y ∧ x < K 0 ∧ y < K 1)) : onZ K x y = false := by
  cases hz : onZ K x y with
  | false => rfl
  | true =>
    obtain ⟨a, b, rfl, rfl, h1, h2, -⟩ := onZ_nat hK hz
    exact absurd ⟨by omega, by omega, by omega, by omega⟩ h
theorem atR_out {K : Nat → Nat} (hK : KI K) {ce : Nat → Nat} {x y : Int} (h : ¬ (0 ≤ x ∧ 0 ≤ y ∧ x < K 0 ∧ y < K 1)) : atR K ce x y = none := by
  unfold atR
  rw [onZ_out hK h]
  rfl
theorem atR_in {K : Nat → Nat} {ce : Nat → Nat} {a b : Nat} (ha : a < K 0) : atR K ce (a : Int) (b : Int) = if on K (b * K 0 + a) = true then some (ce (b * K 0 + a)) else none := by
  unfold atR
  rw [on_at ha]
  rfl
section KA
variable {ad : Nat → Nat} {sc : Nat × (Nat → Int32)} {u : hp} {h : hg} {Q : qg} {k w m p cl : Nat} {ce : Nat → Nat} {K : Nat → Nat} {c sl : Nat}
theorem kt_null (hK : KI K) {x y : Int} (ho : ¬ (0 ≤ x ∧ 0 ≤ y ∧ x < K 0 ∧ y < K 1)) : Gx ad sc M_X7_at 24 [.ref k, .int (I x), .int (I y)] [] c sl u h (fun v u1 h1 => v = va_rf (atR K ce x y) ∧ u1 = u ∧ h1 = h) := by
  refine gx_null dX7_at_24 ?_
  refine bx_goto (tgt := 41) dX7_at_25 (by decide) ?_
  exact bx_aretq (r := none) dX7_at_41 rfl ⟨by rw [atR_out hK ho], rfl, rfl⟩
theorem kt_at (hT : KT h k w m p cl ce K) (hK : KI K) {x y : Int} (hx : -2147483648 ≤ x ∧ x < 2147483648) (hy : -2147483648 ≤ y ∧ y < 2147483648) : Gl ad sc c sl M_X7_at [.ref k, .int (I x), .int (I y)] u h (fun v u1 h1 => v = va_rf (atR K ce x y) ∧ u1 = u ∧ h1 = h) := by
  have k0 := hK.1
  refine bx_iload_n dX7_at_0 rfl ?_
  refine bx_if_lt (tgt := 24) dX7_at_1 (by decide) (by omega) (fun q1 => ?_) (fun q1 => ?_)
  · exact kt_null hK (by omega)
  · refine bx_iload_n dX7_at_4 rfl ?_
    refine bx_if_lt (tgt := 24) dX7_at_5 (by decide) (by omega) (fun q2 => ?_) (fun q2 => ?_)
    · exact kt_null hK (by omega)
    · refine bx_iload_n dX7_at_8 rfl ?_
      refine bx_aload_n dX7_at_9 rfl ?_
      refine bx_getf dX7_at_10 ck7 fg_KitePainterLaw_Kite_7 (by decide) hT.1 rfl ?_
      refine bx_icmp_ge (tgt := 24) dX7_at_13 (by decide) (by omega) (by omega) (fun q3 => ?_) (fun q3 => ?_)
      · exact kt_null hK (by omega)
      · refine bx_iload_n dX7_at_16 rfl ?_
        refine bx_aload_n dX7_at_17 rfl ?_
        refine bx_getf dX7_at_18 ck7 fg_KitePainterLaw_Kite_13 (by decide) hT.1 rfl ?_
        refine bx_icmp_lt (tgt := 28) dX7_at_21 (by decide) (by omega) (by omega) (fun q4 => ?_) (fun q4 => ?_)
        · obtain ⟨a, rfl⟩ : ∃ a : Nat, x = (a : Int) := ⟨x.toNat, by omega⟩
          obtain ⟨b, rfl⟩ : ∃ b : Nat, y = (b : Int) := ⟨y.toNat, by omega⟩
          have hn9 := nC_le hK
          refine bx_aload_n dX7_at_28 rfl ?_
          refine bx_getf dX7_at_29 ck7 fg_KitePainterLaw_Kite_39 (by decide) hT.1 rfl ?_
          refine bx_iload_n dX7_at_32 rfl ?_
          refine bx_aload_n dX7_at_33 rfl ?_
          refine bx_getf dX7_at_34 ck7 fg_KitePainterLaw_Kite_7 (by decide) hT.1 rfl ?_
          refine bx_imul dX7_at_37 ?_
          refine bx_iload_n dX7_at_38 rfl ?_
          refine bx_iadd dX7_at_39 ?_
          refine bx_aalq (j := b * K 0 + a) (r := atR K ce (a : Int) (b : Int)) dX7_at_40 hT.2.1 (by decide) (by rw [Int.natCast_add, Int.natCast_mul]) (ci_lt (by omega) (by omega)) (by omega) (atR_in (by omega)).symm ?_
          exact bx_aretq dX7_at_41 rfl ⟨rfl, rfl, rfl⟩
        · exact kt_null hK (by omega)
theorem kt_numberOf (hT : KT h k w m p cl ce K) (hK : KI K) {a i : Nat} (hc : h a = some (.inr (6, cellF K i))) : Gl ad sc c sl M_X7_numberOf [.ref k, .ref a] u h (fun v u1 h1 => v = .int (I (i : Int)) ∧ u1 = u ∧ h1 = h) := by
  have e : ((i / K 0 : Nat) : Int) * (K 0 : Int) + ((i % K 0 : Nat) : Int) = (i : Int) := by
    rw [← Int.natCast_mul, ← Int.natCast_add, Nat.mul_comm, Nat.div_add_mod]
  refine bx_aload_n dX7_numberOf_0 rfl ?_
  refine bx_getf dX7_numberOf_1 ck6 fg_KitePainterLaw_Kite_60 (by decide) hc rfl ?_
  refine bx_aload_n dX7_numberOf_4 rfl ?_
  refine bx_getf dX7_numberOf_5 ck7 fg_KitePainterLaw_Kite_7 (by decide) hT.1 rfl ?_
  refine bx_imul dX7_numberOf_8 ?_
  refine bx_aload_n dX7_numberOf_9 rfl ?_
  refine bx_getf dX7_numberOf_10 ck6 fg_KitePainterLaw_Kite_63 (by decide) hc rfl ?_
  refine bx_iadd dX7_numberOf_13 ?_
  exact bx_iret dX7_numberOf_14 rfl ⟨by rw [e], rfl, rfl⟩
theorem kt_mirror (hT : KT h k w m p cl ce K) (hK : KI K) {a i : Nat} (hc : h a = some (.inr (6, cellF K i))) (hi : i < nC K) : Gl ad sc c sl M_X7_mirror [.ref k, .ref a] u h (fun v u1 h1 => v = va_rf (atR K ce ((K 0 : Int) - 1 - ((i % K 0 : Nat) : Int)) ((i / K 0 : Nat) : Int)) ∧ u1 = u ∧ h1 = h) := by
  have k0 := hK.1
  have k1 := Nat.mod_lt i (show 0 < K 0 by omega)
  have k2 := div_12 hK hi
  have k3 : (0 : Int) ≤ ((i / K 0 : Nat) : Int) := Int.natCast_nonneg _
  refine bx_aload_n dX7_mirror_0 rfl ?_
  refine bx_aload_n dX7_mirror_1 rfl ?_
  refine bx_getf dX7_mirror_2 ck7 fg_KitePainterLaw_Kite_7 (by decide) hT.1 rfl ?_
  refine bx_iconst dX7_mirror_5 ?_
  refine bx_isub dX7_mirror_6 ?_
  refine bx_aload_n dX7_mirror_7 rfl ?_
  refine bx_getf dX7_mirror_8 ck6 fg_KitePainterLaw_Kite_63 (by decide) hc rfl ?_
  refine bx_isub dX7_mirror_11 ?_
  refine bx_aload_n dX7_mirror_12 rfl ?_
  refine bx_getf dX7_mirror_13 ck6 fg_KitePainterLaw_Kite_60 (by decide) hc rfl ?_
  refine bx_cvP2 dX7_mirror_16 ln_X7_mirror_66 (Nat.le_of_ble_eq_true rfl) (by decide) hT.1 rfl (kt_at hT hK (by omega) (by omega)) ?_
  exact bx_aretq dX7_mirror_19 rfl ⟨rfl, rfl, rfl⟩
theorem kt_beside (hT : KT h k w m p cl ce K) (hK : KI K) {a i j : Nat} (hc : h a = some (.inr (6, cellF K i))) (hi : i < nC K) (hj : j < 4) : Gl ad sc c sl M_X7_beside [.ref k, .ref a, .int (I (j : Int))] u h (fun v u1 h1 => v = va_rf (atR K ce (((i % K 0 : Nat) : Int) + dxW j) (((i / K 0 : Nat) : Int) + dyW j)) ∧ u1 = u ∧ h1 = h) := by
  have k0 := hK.1
  have k1 := Nat.mod_lt i (show 0 < K 0 by omega)
  have k2 := div_12 hK hi
  have k3 : (0 : Int) ≤ ((i / K 0 : Nat) : Int) := Int.natCast_nonneg _
  have key : ∀ {x y : Int}, x = ((i % K 0 : Nat) : Int) + dxW j → y = ((i / K 0 : Nat) : Int) + dyW j → (-2147483648 ≤ x ∧ x < 2147483648) → (-2147483648 ≤ y ∧ y < 2147483648) → Gl ad sc 0 0 M_X7_at [.ref k, .int (I x), .int (I y)] u h (fun v u1 h1 => v = va_rf (atR K ce (((i % K 0 : Nat) : Int) + dxW j) (((i / K 0 : Nat) : Int) + dyW j)) ∧ u1 = u ∧ h1 = h) := by
    intro x y e1 e2 h1 h2
    rw [← e1, ← e2]
    exact kt_at hT hK h1 h2
  refine bx_iload_n dX7_beside_0 rfl ?_
  refine bx_if_ne (tgt := 21) dX7_beside_1 (by decide) (by omega) (fun q1 => ?_) (fun q1 => ?_)
  · refine bx_iload_n dX7_beside_21 rfl ?_
    refine bx_iconst dX7_beside_22 ?_
    refine bx_icmp_ne (tgt := 43) dX7_beside_23 (by decide) (by omega) (by omega) (fun q2 => ?_) (fun q2 => ?_)
    · refine bx_iload_n dX7_beside_43 rfl ?_
      refine bx_iconst dX7_beside_44 ?_
      refine bx_icmp_ne (tgt := 65) dX7_beside_45 (by decide) (by omega) (by omega) (fun q3 => ?_) (fun q3 => ?_)
      · obtain rfl : j = 3 := by omega
        refine bx_aload_n dX7_beside_65 rfl ?_
        refine bx_aload_n dX7_beside_66 rfl ?_
        refine bx_getf dX7_beside_67 ck6 fg_KitePainterLaw_Kite_63 (by decide) hc rfl ?_
        refine bx_iconst dX7_beside_70 ?_
        refine bx_iadd dX7_beside_71 ?_
        refine bx_aload_n dX7_beside_72 rfl ?_
        refine bx_getf dX7_beside_73 ck6 fg_KitePainterLaw_Kite_60 (by decide) hc rfl ?_
        refine bx_cvP2 dX7_beside_76 ln_X7_beside_66 (Nat.le_of_ble_eq_true rfl) (by decide) hT.1 rfl (key (by simp [dxW]) (by simp [dyW]) (by omega) (by omega)) ?_
        exact bx_aretq dX7_beside_79 rfl ⟨rfl, rfl, rfl⟩
      · obtain rfl : j = 2 := by omega
        refine bx_aload_n dX7_beside_48 rfl ?_
        refine bx_aload_n dX7_beside_49 rfl ?_
        refine bx_getf dX7_beside_50 ck6 fg_KitePainterLaw_Kite_63 (by decide) hc rfl ?_
        refine bx_iconst dX7_beside_53 ?_
        refine bx_isub dX7_beside_54 ?_
        refine bx_aload_n dX7_beside_55 rfl ?_
        refine bx_getf dX7_beside_56 ck6 fg_KitePainterLaw_Kite_60 (by decide) hc rfl ?_
        refine bx_cvP2 dX7_beside_59 ln_X7_beside_66 (Nat.le_of_ble_eq_true rfl) (by decide) hT.1 rfl (key (by simp [dxW]; omega) (by simp [dyW]) (by omega) (by omega)) ?_
        refine bx_goto (tgt := 79) dX7_beside_62 (by decide) ?_
        exact bx_aretq dX7_beside_79 rfl ⟨rfl, rfl, rfl⟩
    · obtain rfl : j = 1 := by omega
      refine bx_aload_n dX7_beside_26 rfl ?_
      refine bx_aload_n dX7_beside_27 rfl ?_
      refine bx_getf dX7_beside_28 ck6 fg_KitePainterLaw_Kite_63 (by decide) hc rfl ?_
      refine bx_aload_n dX7_beside_31 rfl ?_
      refine bx_getf dX7_beside_32 ck6 fg_KitePainterLaw_Kite_60 (by decide) hc rfl ?_
      refine bx_iconst dX7_beside_35 ?_
      refine bx_iadd dX7_beside_36 ?_
      refine bx_cvP2 dX7_beside_37 ln_X7_beside_66 (Nat.le_of_ble_eq_true rfl) (by decide) hT.1 rfl (key (by simp [dxW]) (by simp [dyW]) (by omega) (by omega)) ?_
      refine bx_goto (tgt := 79) dX7_beside_40 (by decide) ?_
      exact bx_aretq dX7_beside_79 rfl ⟨rfl, rfl, rfl⟩
  · obtain rfl : j = 0 := by omega
    refine bx_aload_n dX7_beside_4 rfl ?_
    refine bx_aload_n dX7_beside_5 rfl ?_
    refine bx_getf dX7_beside_6 ck6 fg_KitePainterLaw_Kite_63 (by decide) hc rfl ?_
    refine bx_aload_n dX7_beside_9 rfl ?_
    refine bx_getf dX7_beside_10 ck6 fg_KitePainterLaw_Kite_60 (by decide) hc rfl ?_
    refine bx_iconst dX7_beside_13 ?_
    refine bx_isub dX7_beside_14 ?_
    refine bx_cvP2 dX7_beside_15 ln_X7_beside_66 (Nat.le_of_ble_eq_true rfl) (by decide) hT.1 rfl (key (by simp [dxW]) (by simp [dyW]; omega) (by omega) (by omega)) ?_
    refine bx_goto (tgt := 79) dX7_beside_18 (by decide) ?_
    exact bx_aretq dX7_beside_79 rfl ⟨rfl, rfl, rfl⟩
theorem kt_mix (hT : KT h k w m p cl ce K) (hK : KI K) (hR : SHR h w m p K) {a b : Nat} (ha : a < 7) (hb : b < 7) : Gl ad sc c sl M_X7_mix [.ref k, .int (I (a : Int)), .int (I (b : Int))] u h (fun v u1 h1 => v = .int (I (mixN K a b : Int)) ∧ u1 = u ∧ h1 = h) := by
  obtain ⟨mr, hm1, hm2⟩ := hR.2.1
  have h6 := hK.2.2.2.1 (a * 7 + b) (by omega)
  refine bx_iload_n dX7_mix_0 rfl ?_
  refine bx_iload_n dX7_mix_1 rfl ?_
  refine bx_icmp_ne (tgt := 9) dX7_mix_2 (by decide) (by omega) (by omega) (fun q1 => ?_) (fun q1 => ?_)
  · refine bx_aload_n dX7_mix_9 rfl ?_
    refine bx_getf dX7_mix_10 ck7 fg_KitePainterLaw_Kite_28 (by decide) hT.1 rfl ?_
    refine bx_iload_n dX7_mix_13 rfl ?_
    refine bx_aals (j := a) (q := mr a) dX7_mix_14 hm1 (by decide) rfl ha (by omega) rfl ?_
    refine bx_iload_n dX7_mix_15 rfl ?_
    refine bx_ialr (j := b) (w := (K (25 + (a * 7 + b)) : Int)) dX7_mix_16 (hm2 a ha) rfl hb (by omega) rfl ?_
    refine bx_if_le (tgt := 31) dX7_mix_17 (by decide) (by omega) (fun q2 => ?_) (fun q2 => ?_)
    · refine bx_iload_n dX7_mix_31 rfl ?_
      refine bx_iload_n dX7_mix_32 rfl ?_
      refine bx_max dX7_mix_33 ln_X7_mix_70 ⟨by decide, by decide⟩ (Nat.le_of_ble_eq_true rfl) (by omega) (by omega) ?_
      exact bx_iret dX7_mix_36 rfl ⟨by apply iq; unfold mixN; split <;> (try split) <;> omega, rfl, rfl⟩
    · refine bx_aload_n dX7_mix_20 rfl ?_
      refine bx_getf dX7_mix_21 ck7 fg_KitePainterLaw_Kite_28 (by decide) hT.1 rfl ?_
      refine bx_iload_n dX7_mix_24 rfl ?_
      refine bx_aals (j := a) (q := mr a) dX7_mix_25 hm1 (by decide) rfl ha (by omega) rfl ?_
      refine bx_iload_n dX7_mix_26 rfl ?_
      refine bx_ialr (j := b) (w := (K (25 + (a * 7 + b)) : Int)) dX7_mix_27 (hm2 a ha) rfl hb (by omega) rfl ?_
      refine bx_goto (tgt := 36) dX7_mix_28 (by decide) ?_
      exact bx_iret dX7_mix_36 rfl ⟨by apply iq; unfold mixN; split <;> (try split) <;> omega, rfl, rfl⟩
  · refine bx_iload_n dX7_mix_5 rfl ?_
    refine bx_goto (tgt := 36) dX7_mix_6 (by decide) ?_
    exact bx_iret dX7_mix_36 rfl ⟨by apply iq; unfold mixN; split <;> (try split) <;> omega, rfl, rfl⟩
theorem kt_weight (hT : KT h k w m p cl ce K) (hK : KI K) (hR : SHR h w m p K) {a i : Nat} (hc : h a = some (.inr (6, cellF K i))) (hi : i < 180) : Gl ad sc c sl M_X7_weight [.ref k, .ref a] u h (fun v u1 h1 => v = .int (I (wgN K i : Int)) ∧ u1 = u ∧ h1 = h) := by
  have h6 := hK.2.2.2.2.1 i hi
  have h7 := hK.2.2.2.2.2.2.1 i hi
  refine bx_aload_n dX7_weight_0 rfl ?_
  refine bx_getf dX7_weight_1 ck7 fg_KitePainterLaw_Kite_16 (by decide) hT.1 rfl ?_
  refine bx_aload_n dX7_weight_4 rfl ?_
  refine bx_getf dX7_weight_5 ck7 fg_KitePainterLaw_Kite_22 (by decide) hT.1 rfl ?_
  refine bx_aload_n dX7_weight_8 rfl ?_
  refine bx_getf dX7_weight_9 ck6 fg_KitePainterLaw_Kite_74 (by decide) hc rfl ?_
  refine bx_ialr (j := K (74 + i)) (w := (K (18 + K (74 + i)) : Int)) dX7_weight_12 hR.1 rfl (by omega) (by omega) rfl ?_
  refine bx_iadd dX7_weight_13 ?_
  refine bx_aload_n dX7_weight_14 rfl ?_
  refine bx_getf dX7_weight_15 ck6 fg_KitePainterLaw_Kite_77 (by decide) hc rfl ?_
  refine bx_if_eq (tgt := 28) dX7_weight_18 (by decide) (by omega) (fun q1 => ?_) (fun q1 => ?_)
  · refine bx_iconst dX7_weight_28 ?_
    refine bx_iadd dX7_weight_29 ?_
    exact bx_iret dX7_weight_30 rfl ⟨by unfold wgN; first | (rw [show K (434 + i) = 0 by omega]; apply iq; omega) | (rw [show K (434 + i) = 1 by omega]; apply iq; omega), rfl, rfl⟩
  · refine bx_aload_n dX7_weight_21 rfl ?_
    refine bx_getf dX7_weight_22 ck7 fg_KitePainterLaw_Kite_19 (by decide) hT.1 rfl ?_
    refine bx_goto (tgt := 29) dX7_weight_25 (by decide) ?_
    refine bx_iadd dX7_weight_29 ?_
    exact bx_iret dX7_weight_30 rfl ⟨by unfold wgN; first | (rw [show K (434 + i) = 0 by omega]; apply iq; omega) | (rw [show K (434 + i) = 1 by omega]; apply iq; omega), rfl, rfl⟩
end KA
