/-! the reference: stamp, wash -/
theorem putC_off {K : Nat → Nat} {x y : Int} {c w : Nat} {mi : Bool} (h : ¬ onZ K x y = true) : putC K x y c w mi = K := if_neg h
theorem conn_lt {K : Nat → Nat} (hK : KI K) {i j : Nat} (h : conn K i j) (hi : i < nC K) : j < nC K := h (fun a => a < nC K) hi (fun a b _ h2 => by obtain ⟨w, -, e, -⟩ := h2; exact (nb_on hK e).1)
def wshP (K : Nat → Nat) (N : Nat → Int) (c : Nat) : Nat → Nat := fun j => if (74 ≤ j ∧ j < 74 + c ∧ N (j - 74) = 1) ∨ (254 ≤ j ∧ j < 254 + c ∧ N (j - 254) = 1) then 0 else K j
theorem wshP_lo {K : Nat → Nat} {N : Nat → Int} {c j : Nat} (hj : j < 74) : wshP K N c j = K j := if_neg (by omega)
theorem wshP_t {K : Nat → Nat} {N : Nat → Int} {c : Nat} (hc : c < 180) (h : N c = 1) : setC (wshP K N c) c 0 0 = wshP K N (c + 1) := by
  funext j
  unfold setC upN wshP
  by_cases q1 : j = 254 + c
  · subst q1
    rw [if_pos rfl, if_pos (Or.inr ⟨by omega, by omega, by rw [show 254 + c - 254 = c by omega]; exact h⟩)]
  · rw [if_neg q1]
    by_cases q2 : j = 74 + c
    · subst q2
      rw [if_pos rfl, if_pos (Or.inl ⟨by omega, by omega, by rw [show 74 + c - 74 = c by omega]; exact h⟩)]
    · rw [if_neg q2]
      by_cases q3 : (74 ≤ j ∧ j < 74 + c ∧ N (j - 74) = 1) ∨ (254 ≤ j ∧ j < 254 + c ∧ N (j - 254) = 1)
      · rw [if_pos q3, if_pos (by rcases q3 with z | z; exact Or.inl ⟨z.1, by omega, z.2.2⟩; exact Or.inr ⟨z.1, by omega, z.2.2⟩)]
      · rw [if_neg q3, if_neg (by rintro (z | z); exact q3 (Or.inl ⟨z.1, by omega, z.2.2⟩); exact q3 (Or.inr ⟨z.1, by omega, z.2.2⟩))]
theorem wshP_f {K : Nat → Nat} {N : Nat → Int} {c : Nat} (h : ¬ N c = 1) : wshP K N (c + 1) = wshP K N c := by
  funext j
  unfold wshP
  by_cases q3 : (74 ≤ j ∧ j < 74 + c ∧ N (j - 74) = 1) ∨ (254 ≤ j ∧ j < 254 + c ∧ N (j - 254) = 1)
  · rw [if_pos q3, if_pos (by rcases q3 with z | z; exact Or.inl ⟨z.1, by omega, z.2.2⟩; exact Or.inr ⟨z.1, by omega, z.2.2⟩)]
  · rw [if_neg q3, if_neg]
    rintro (z | z)
    · rcases (by omega : j - 74 = c ∨ j < 74 + c) with q | q
      · rw [q] at z; exact h z.2.2
      · exact q3 (Or.inl ⟨z.1, q, z.2.2⟩)
    · rcases (by omega : j - 254 = c ∨ j < 254 + c) with q | q
      · rw [q] at z; exact h z.2.2
      · exact q3 (Or.inr ⟨z.1, q, z.2.2⟩)
theorem wshP_end {K : Nat → Nat} {N : Nat → Int} {c : Nat} (hc : c ≤ 180) (h : ∀ j, j < 180 → N j = 1 → j < c) : wshP K N c = wshK K N := by
  funext j
  unfold wshP wshK
  by_cases q3 : (74 ≤ j ∧ j < 74 + c ∧ N (j - 74) = 1) ∨ (254 ≤ j ∧ j < 254 + c ∧ N (j - 254) = 1)
  · rw [if_pos q3, if_pos (by rcases q3 with z | z; exact Or.inl ⟨z.1, by omega, z.2.2⟩; exact Or.inr ⟨z.1, by omega, z.2.2⟩)]
  · rw [if_neg q3, if_neg]
    rintro (z | z)
    · have := h (j - 74) (by omega) z.2.2
      exact q3 (Or.inl ⟨z.1, by omega, z.2.2⟩)
    · have := h (j - 254) (by omega) z.2.2
      exact q3 (Or.inr ⟨z.1, by omega, z.2.2⟩)
section MW
variable {NC : Nat} {h : hp} {s : Nat → Int} {K : Nat → Nat} {H : Nat → Nat → Nat} {d : Nat} {Q : qt}
theorem l6_wash (hN : 132 ≤ NC) (hK : KI K) {N : Nat → Int} (h01 : mk01 N) {x0 y0 v3 : Value} (kk : ∀ (g : hp), MD g s (wshP K N (nC K)) → EqX [114] h g → Ex NC none M_X6_wash 101 [.ref 112, x0, y0, v3, .int (I (nC K : Int))] [] g Q) : ∀ (n : Nat) (c : Nat) (g : hp), c + n = nC K → MD g s (wshP K N c) → row 2 (g 129) 180 N → EqX [114] h g → Ex NC none M_X6_wash 68 [.ref 112, x0, y0, v3, .int (I (c : Int))] [] g Q := by
  intro n
  induction n with
  | zero =>
    intro c g hi hMg hR hX
    have n0 := nC_le hK
    refine ax_iload dX6_wash_68 rfl ?_
    refine ax_aload_n dX6_wash_70 rfl ?_
    refine ax_cviP0 dX6_wash_71 ln_X6_wash_205 (Nat.le_of_ble_eq_true rfl) (Or.inl rfl) (by omega) hMg.1 rfl (s6_cells0 hN hMg) ?_
    rw [show nC (wshP K N c) = nC K by unfold nC; rw [wshP_lo (by decide), wshP_lo (by decide)]]
    refine ax_icmp_ge (tgt := 101) dX6_wash_74 (by decide) (by omega) (by omega) (fun c74 => ?_) (fun c74 => ?_)
    · have e : c = nC K := by omega
      subst e
      exact kk g hMg hX
    · exfalso
      omega
  | succ n ih =>
    intro c g hi hMg hR hX
    have n0 := nC_le hK
    refine ax_iload dX6_wash_68 rfl ?_
    refine ax_aload_n dX6_wash_70 rfl ?_
    refine ax_cviP0 dX6_wash_71 ln_X6_wash_205 (Nat.le_of_ble_eq_true rfl) (Or.inl rfl) (by omega) hMg.1 rfl (s6_cells0 hN hMg) ?_
    rw [show nC (wshP K N c) = nC K by unfold nC; rw [wshP_lo (by decide), wshP_lo (by decide)]]
    refine ax_icmp_ge (tgt := 101) dX6_wash_74 (by decide) (by omega) (by omega) (fun c74 => ?_) (fun c74 => ?_)
    · exfalso
      omega
    · refine ax_aload_n dX6_wash_77 rfl ?_
      refine ax_getf dX6_wash_78 ck6 fl_X6_40 (by decide) (by omega) hMg.1 rfl ?_
      refine ax_iload dX6_wash_81 rfl ?_
      refine ax_zalr (j := c) (w := (N c : Int)) dX6_wash_83 (by omega) hR (by omega) (by omega) (by decide) rfl ?_
      refine ax_if_eq (tgt := 95) dX6_wash_84 (by decide) (by have := h01 c (by omega); omega) (fun c84 => ?_) (fun c84 => ?_)
      · have e1 := wshP_f (K := K) (N := N) (c := c) (by omega)
        refine ax_iinc dX6_wash_95 rfl rfl (by decide) ?_
        refine ax_goto (tgt := 68) dX6_wash_98 (by decide) ?_
        exact ih (c + 1) g (by omega) (by rw [e1]; exact hMg) hR hX
      · refine ax_aload_n dX6_wash_87 rfl ?_
        refine ax_iload dX6_wash_88 rfl ?_
        refine ax_iconst dX6_wash_90 ?_
        refine ax_iconst dX6_wash_91 ?_
        refine ax_cvv3 dX6_wash_92 ln_X6_wash_295 (Nat.le_of_ble_eq_true rfl) rfl (by omega) hMg.1 rfl (s6_put hN hMg (i := c) (c := 0) (w := 0) (by omega)) (fun g2 hq => ?_)
        obtain ⟨hM2, x2⟩ := hq
        rw [wshP_t (by omega) (by have := h01 c (by omega); omega)] at hM2
        refine ax_iinc dX6_wash_95 rfl rfl (by decide) ?_
        refine ax_goto (tgt := 68) dX6_wash_98 (by decide) ?_
        exact ih (c + 1) g2 (by omega) hM2 (hR.mv (x2 129 (by decide))) (hX.tr x2)
theorem s6_wash (hN : 132 ≤ NC) (hM : MD h s K) (hK : KI K) (hs : s 12 = (d : Int)) (hH : MH h H d) (t9 : sh 2 (h 129) 180) (t10 : sh 0 (h 130) 180) {x : Int} (gx : -2147483648 ≤ x ∧ x < 2147483648) {y : Int} (gy : -2147483648 ≤ y ∧ y < 2147483648) (ho : onZ K x y = true) (hs9 : K (74 + (y.toNat * K 0 + x.toNat)) ≠ 0) : Cl NC M_X6_wash [.ref 112, .int (I x), .int (I y)] h (fun v h1 => ∃ (n : Nat) (N F : Nat → Int), v = .int (I (n : Int)) ∧ (∀ j, j < 180 → F j = 0) ∧ (n : Int) = si N 180 - si F 180 ∧ mkEnd K (y.toNat * K 0 + x.toNat) F N ∧ MD h1 (upZ (upZ s 0 0) 12 ((min (d + 1) 8 : Nat) : Int)) (wshK K N) ∧ MH h1 (psh K H) (min (d + 1) 8) ∧ sh 2 (h1 129) 180 ∧ sh 0 (h1 130) 180 ∧ ∀ a, a ≠ 112 → a ≠ 114 → ¬ (118 ≤ a ∧ a ≤ 125) → a ≠ 129 → a ≠ 130 → h1 a = h a) := by
  obtain ⟨u, v, rfl, rfl, hu, hv, hl, n0, -⟩ := onZ_nat hK ho
  have ed : ((v : Int) * (K 0 : Int) + (u : Int)) = ((v * K 0 + u : Nat) : Int) := by push_cast; omega
  have hon : on K (v * K 0 + u) = true := by rw [on_at hu]; exact ho
  have s9 := hK.2.2.2.2.1 (v * K 0 + u) (by omega)
  refine ax_aload_n dX6_wash_0 rfl ?_
  refine ax_iconst dX6_wash_1 ?_
  refine ax_putf dX6_wash_2 ck6 fl_X6_51 (by decide) (by omega) hM.1 rfl (Or.inl rfl) (Nat.le_of_ble_eq_true rfl) rfl ?_
  generalize hg0 : va_up h 112 _ = g0
  have hM0 : MD g0 (upZ s 0 0) K := by rw [← hg0]; exact hM.s0
  have y0 : Y2 h g0 := fun a ha => by rw [← hg0]; exact vu_ne ha
  have z0 : upZ s 0 0 0 = 0 := rfl
  refine ax_aload_n dX6_wash_5 rfl ?_
  refine ax_iload_n dX6_wash_6 rfl ?_
  refine ax_iload_n dX6_wash_7 rfl ?_
  refine ax_cviP2 dX6_wash_8 ln_X6_wash_258 (Nat.le_of_ble_eq_true rfl) (Or.inr rfl) (by omega) hM0.1 rfl (s6_noCellF hN hM0 hK z0 gx gy ho) ?_
  refine ax_if_ne (tgt := 44) dX6_wash_11 (by decide) (by omega) (fun c11 => ?_) (fun c11 => ?_)
  · exfalso
    omega
  · refine ax_aload_n dX6_wash_14 rfl ?_
    refine ax_aload_n dX6_wash_15 rfl ?_
    refine ax_getf dX6_wash_16 ck6 fl_X6_17 (by decide) (by omega) hM0.1 rfl ?_
    refine ax_bipush dX6_wash_19 (by decide) ?_
    refine ax_aload_n dX6_wash_21 rfl ?_
    refine ax_iload_n dX6_wash_22 rfl ?_
    refine ax_iload_n dX6_wash_23 rfl ?_
    refine ax_cviP2 dX6_wash_24 ln_X6_wash_261 (Nat.le_of_ble_eq_true rfl) (Or.inl rfl) (by omega) hM0.1 rfl (s6_at hN hM0) ?_
    rw [ed]
    refine ax_iadd dX6_wash_27 ?_
    refine ax_ialr (j := (74 + (v * K 0 + u))) (w := (K (74 + (v * K 0 + u)) : Int)) dX6_wash_28 (by omega) hM0.2 (by omega) (by omega) (by decide) rfl ?_
    refine ax_if_ne (tgt := 36) dX6_wash_29 (by decide) (by omega) (fun c29 => ?_) (fun c29 => ?_)
    · refine ax_iconst dX6_wash_36 ?_
      refine ax_iconst dX6_wash_37 ?_
      refine ax_cviP2 dX6_wash_38 ln_X6_wash_173 (Nat.le_of_ble_eq_true rfl) (Or.inr rfl) (by omega) hM0.1 rfl (s6_failsF hN hM0.1 z0) ?_
      refine ax_if_eq (tgt := 46) dX6_wash_41 (by decide) (by omega) (fun c41 => ?_) (fun c41 => ?_)
      · refine ax_aload_n dX6_wash_46 rfl ?_
        refine ax_cvv0 dX6_wash_47 ln_X6_wash_182 (Nat.le_of_ble_eq_true rfl) rfl (by omega) hM0.1 rfl (s6_remember hN hM0 (show upZ s 0 0 12 = (d : Int) from hs) (hH.mv (fun a a1 a2 => y0 a (by omega)))) (fun g1 hq => ?_)
        obtain ⟨hM1, hH1, x1⟩ := hq
        refine ax_aload_n dX6_wash_50 rfl ?_
        refine ax_cvv0 dX6_wash_51 ln_X6_wash_270 (Nat.le_of_ble_eq_true rfl) rfl (by omega) hM1.1 rfl (s6_clearMarks hN hM1 (t9.mv ((x1 129 (by decide)).trans (y0 129 (by decide))))) (fun g2 hq => ?_)
        obtain ⟨hM2, ⟨F, hF, iF⟩, x2⟩ := hq
        refine ax_aload_n dX6_wash_54 rfl ?_
        refine ax_aload_n dX6_wash_55 rfl ?_
        refine ax_iload_n dX6_wash_56 rfl ?_
        refine ax_iload_n dX6_wash_57 rfl ?_
        refine ax_cviP2 dX6_wash_58 ln_X6_wash_261 (Nat.le_of_ble_eq_true rfl) (Or.inl rfl) (by omega) hM2.1 rfl (s6_at hN hM2) ?_
        rw [ed]
        refine ax_cvi1 dX6_wash_61 ln_X6_wash_273 (Nat.le_of_ble_eq_true rfl) (Or.inl rfl) (by omega) hM2.1 rfl (s6_mark hN hM2 hK hl hon hF (fun j hj => Or.inl (iF j hj)) (fun a b ha h1 => by rw [iF a ha] at h1; exact absurd h1 (by decide)) (iF _ (by omega)) (t10.mv ((x2 130 (by decide)).trans ((x1 130 (by decide)).trans (y0 130 (by decide)))))) (fun r g3 hq => ?_)
        obtain ⟨n, N, hv3, hn, hM3, hN3, hE3, hs3, x3⟩ := hq
        cases hv3
        have hlt : ∀ j, j < 180 → N j = 1 → j < nC K := by
          intro j hj h1
          rcases (hE3.2.2 j hj).mp h1 with z | z
          · rw [iF j hj] at z; exact absurd z (by decide)
          · exact conn_lt hK z hl
        refine ax_istore_n dX6_wash_64 rfl (by decide) ?_
        refine ax_iconst dX6_wash_65 ?_
        refine ax_istore dX6_wash_66 rfl (by decide) ?_
        refine l6_wash (h := g3) hN hK hE3.1 (fun g4 hM4 x4 => ?_) (nC K) 0 g3 (by omega) (by rw [show wshP K N 0 = K from funext fun j => if_neg (by omega)]; exact hM3) hN3 EqX.rf
        rw [wshP_end (nC_le hK) hlt] at hM4
        refine ax_iload_n dX6_wash_101 rfl ?_
        exact ax_iret dX6_wash_102 rfl ⟨n, N, F, rfl, iF, hn, hE3, hM4, hH1.mv (fun a a1 a2 => (x4 a (by simp; omega)).trans ((x3 a (by simp; omega)).trans (x2 a (by simp; omega)))), ⟨N, hN3.mv (x4 129 (by decide))⟩, hs3.mv (x4 130 (by decide)), fun a a1 a2 a3 a4 a5 => (x4 a (by simp; omega)).trans ((x3 a (by simp; omega)).trans ((x2 a (by simp; omega)).trans ((x1 a (by simp; omega)).trans (y0 a a1))))⟩
      · exfalso
        omega
    · exfalso
      exact hs9 (by show K (74 + (v * K 0 + u)) = 0; omega)
theorem s6_washT1 (hN : 132 ≤ NC) (hM : MD h s K) (hK : KI K) {x : Int} (gx : -2147483648 ≤ x ∧ x < 2147483648) {y : Int} (gy : -2147483648 ≤ y ∧ y < 2147483648) (ho : ¬ onZ K x y = true) : Cl NC M_X6_wash [.ref 112, .int (I x), .int (I y)] h (fun v h1 => v = .int (I (0)) ∧ MD h1 (upZ s 0 1) K ∧ Y2 h h1) := by
  refine ax_aload_n dX6_wash_0 rfl ?_
  refine ax_iconst dX6_wash_1 ?_
  refine ax_putf dX6_wash_2 ck6 fl_X6_51 (by decide) (by omega) hM.1 rfl (Or.inl rfl) (Nat.le_of_ble_eq_true rfl) rfl ?_
  generalize hg0 : va_up h 112 _ = g0
  have hM0 : MD g0 (upZ s 0 0) K := by rw [← hg0]; exact hM.s0
  have y0 : Y2 h g0 := fun a ha => by rw [← hg0]; exact vu_ne ha
  have z0 : upZ s 0 0 0 = 0 := rfl
  refine ax_aload_n dX6_wash_5 rfl ?_
  refine ax_iload_n dX6_wash_6 rfl ?_
  refine ax_iload_n dX6_wash_7 rfl ?_
  refine ax_cvi2 dX6_wash_8 ln_X6_wash_258 (Nat.le_of_ble_eq_true rfl) (Or.inr rfl) (by omega) hM0.1 rfl (s6_noCellT hN hM0 hK z0 gx gy ho) (fun r g1 hq => ?_)
  obtain ⟨hv, hM1, y1⟩ := hq
  cases hv
  refine ax_if_ne (tgt := 44) dX6_wash_11 (by decide) (by omega) (fun c11 => ?_) (fun c11 => ?_)
  · refine ax_iconst dX6_wash_44 ?_
    exact ax_iret dX6_wash_45 rfl ⟨rfl, (by rw [show upZ (upZ s 0 0) 0 1 = upZ s 0 1 from funext fun j => by unfold upZ; split <;> rfl] at hM1; exact hM1), y0.tr y1⟩
  · exfalso
    omega
theorem s6_washT2 (hN : 132 ≤ NC) (hM : MD h s K) (hK : KI K) {x : Int} (gx : -2147483648 ≤ x ∧ x < 2147483648) {y : Int} (gy : -2147483648 ≤ y ∧ y < 2147483648) (ho : onZ K x y = true) (hs9 : K (74 + (y.toNat * K 0 + x.toNat)) = 0) : Cl NC M_X6_wash [.ref 112, .int (I x), .int (I y)] h (fun v h1 => v = .int (I (0)) ∧ MD h1 (upZ s 0 2) K ∧ Y2 h h1) := by
  obtain ⟨u, v, rfl, rfl, hu, hv, hl, n0, -⟩ := onZ_nat hK ho
  have ed : ((v : Int) * (K 0 : Int) + (u : Int)) = ((v * K 0 + u : Nat) : Int) := by push_cast; omega
  have hon : on K (v * K 0 + u) = true := by rw [on_at hu]; exact ho
  have s9 := hK.2.2.2.2.1 (v * K 0 + u) (by omega)
  have hs0 : K (74 + (v * K 0 + u)) = 0 := hs9
  refine ax_aload_n dX6_wash_0 rfl ?_
  refine ax_iconst dX6_wash_1 ?_
  refine ax_putf dX6_wash_2 ck6 fl_X6_51 (by decide) (by omega) hM.1 rfl (Or.inl rfl) (Nat.le_of_ble_eq_true rfl) rfl ?_
  generalize hg0 : va_up h 112 _ = g0
  have hM0 : MD g0 (upZ s 0 0) K := by rw [← hg0]; exact hM.s0
  have y0 : Y2 h g0 := fun a ha => by rw [← hg0]; exact vu_ne ha
  have z0 : upZ s 0 0 0 = 0 := rfl
  refine ax_aload_n dX6_wash_5 rfl ?_
  refine ax_iload_n dX6_wash_6 rfl ?_
  refine ax_iload_n dX6_wash_7 rfl ?_
  refine ax_cviP2 dX6_wash_8 ln_X6_wash_258 (Nat.le_of_ble_eq_true rfl) (Or.inr rfl) (by omega) hM0.1 rfl (s6_noCellF hN hM0 hK z0 gx gy ho) ?_
  refine ax_if_ne (tgt := 44) dX6_wash_11 (by decide) (by omega) (fun c11 => ?_) (fun c11 => ?_)
  · exfalso
    omega
  · refine ax_aload_n dX6_wash_14 rfl ?_
    refine ax_aload_n dX6_wash_15 rfl ?_
    refine ax_getf dX6_wash_16 ck6 fl_X6_17 (by decide) (by omega) hM0.1 rfl ?_
    refine ax_bipush dX6_wash_19 (by decide) ?_
    refine ax_aload_n dX6_wash_21 rfl ?_
    refine ax_iload_n dX6_wash_22 rfl ?_
    refine ax_iload_n dX6_wash_23 rfl ?_
    refine ax_cviP2 dX6_wash_24 ln_X6_wash_261 (Nat.le_of_ble_eq_true rfl) (Or.inl rfl) (by omega) hM0.1 rfl (s6_at hN hM0) ?_
    rw [ed]
    refine ax_iadd dX6_wash_27 ?_
    refine ax_ialr (j := (74 + (v * K 0 + u))) (w := (K (74 + (v * K 0 + u)) : Int)) dX6_wash_28 (by omega) hM0.2 (by omega) (by omega) (by decide) rfl ?_
    refine ax_if_ne (tgt := 36) dX6_wash_29 (by decide) (by omega) (fun c29 => ?_) (fun c29 => ?_)
    · exfalso
      omega
    · refine ax_iconst dX6_wash_32 ?_
      refine ax_goto (tgt := 37) dX6_wash_33 (by decide) ?_
      refine ax_iconst dX6_wash_37 ?_
      refine ax_cvi2 dX6_wash_38 ln_X6_wash_173 (Nat.le_of_ble_eq_true rfl) (Or.inr rfl) (by omega) hM0.1 rfl (s6_failsT hN hM0.1 z0 (by decide)) (fun r g1 hq => ?_)
      obtain ⟨hv, hO1, y1⟩ := hq
      cases hv
      have hM1 : MD g1 (upZ (upZ s 0 0) 0 2) K := ⟨hO1, hM0.2.mv (y1 114 (by decide))⟩
      refine ax_if_eq (tgt := 46) dX6_wash_41 (by decide) (by omega) (fun c41 => ?_) (fun c41 => ?_)
      · exfalso
        omega
      · refine ax_iconst dX6_wash_44 ?_
        exact ax_iret dX6_wash_45 rfl ⟨rfl, (by rw [show upZ (upZ s 0 0) 0 2 = upZ s 0 2 from funext fun j => by unfold upZ; split <;> rfl] at hM1; exact hM1), y0.tr y1⟩
variable {h0 : hp}
theorem l6_stD (hN : 132 ≤ NC) {O : Nat → Nat} (hO : KI O) {p : Nat} (hp3 : p < 3) {mi : Bool} {x y : Int} (hxy : -1000 ≤ x ∧ x ≤ 1000 ∧ -1000 ≤ y ∧ y ≤ 1000) {l : Nat} (hl : l < 6) (okK : okO O K) (kk : ∀ (w6 w7 : Value) (g : hp), MD g s (stD O p x y mi l K (O (614 + 44 * p))) → EqX [114] h0 g → Ex NC none M_X6_stamp 125 [.ref 112, .int (I (p : Int)), .int (I x), .int (I y), .int (I (if mi = true then 1 else 0)), .int (I (l : Int)), w6, w7] [] g Q) : ∀ (n : Nat) (dg : Nat) (w7 : Value) (g : hp), dg + n = O (614 + 44 * p) → MD g s (stD O p x y mi l K dg) → EqX [114] h0 g → Ex NC none M_X6_stamp 56 [.ref 112, .int (I (p : Int)), .int (I x), .int (I y), .int (I (if mi = true then 1 else 0)), .int (I (l : Int)), .int (I (dg : Int)), w7] [] g Q := by
  have po := hO.2.2.2.2.2.2.2.2 p hp3
  intro n
  induction n with
  | zero =>
    intro dg w7 g hd hMg hX
    have ok := okK.sd hO hp3 (x := x) (y := y) (mi := mi) hl dg (by omega)
    refine ax_iload dX6_stamp_56 rfl ?_
    refine ax_aload_n dX6_stamp_58 rfl ?_
    refine ax_iload_n dX6_stamp_59 rfl ?_
    refine ax_iconst dX6_stamp_60 ?_
    refine ax_cviP2 dX6_stamp_61 ln_X6_stamp_279 (Nat.le_of_ble_eq_true rfl) (Or.inl rfl) (by omega) hMg.1 rfl (s6_ofPattern hN hMg ok.1 (p := p) (w := 0) hp3 (by omega)) ?_
    rw [show stD O p x y mi l K dg (614 + 44 * p + 0) = O (614 + 44 * p) from ok.2 (614 + 44 * p) (by omega)]
    refine ax_icmp_ge (tgt := 125) dX6_stamp_64 (by decide) (by omega) (by omega) (fun c64 => ?_) (fun c64 => ?_)
    · have e9 : dg = O (614 + 44 * p) := by omega
      subst e9
      exact kk _ w7 g hMg hX
    · exfalso
      omega
  | succ n ih =>
    intro dg w7 g hd hMg hX
    have ok := okK.sd hO hp3 (x := x) (y := y) (mi := mi) hl dg (by omega)
    refine ax_iload dX6_stamp_56 rfl ?_
    refine ax_aload_n dX6_stamp_58 rfl ?_
    refine ax_iload_n dX6_stamp_59 rfl ?_
    refine ax_iconst dX6_stamp_60 ?_
    refine ax_cviP2 dX6_stamp_61 ln_X6_stamp_279 (Nat.le_of_ble_eq_true rfl) (Or.inl rfl) (by omega) hMg.1 rfl (s6_ofPattern hN hMg ok.1 (p := p) (w := 0) hp3 (by omega)) ?_
    rw [show stD O p x y mi l K dg (614 + 44 * p + 0) = O (614 + 44 * p) from ok.2 (614 + 44 * p) (by omega)]
    refine ax_icmp_ge (tgt := 125) dX6_stamp_64 (by decide) (by omega) (by omega) (fun c64 => ?_) (fun c64 => ?_)
    · exfalso
      omega
    · refine ax_aload_n dX6_stamp_67 rfl ?_
      refine ax_iload_n dX6_stamp_68 rfl ?_
      refine ax_iload dX6_stamp_69 rfl ?_
      refine ax_iload dX6_stamp_71 rfl ?_
      refine ax_cviP3 dX6_stamp_73 ln_X6_stamp_282 (Nat.le_of_ble_eq_true rfl) (Or.inl rfl) (by omega) hMg.1 rfl (s6_digitAt hN hMg ok.1 (p := p) (l := l) (d := dg) hp3 hl (by omega)) ?_
      rw [ok.2 (616 + 44 * p + (7 * l + dg)) (by omega)]
      have o6 := po.2.2 (7 * l + dg) (by omega)
      refine ax_istore dX6_stamp_76 rfl (by decide) ?_
      refine ax_iload dX6_stamp_78 rfl ?_
      refine ax_if_le (tgt := 119) dX6_stamp_80 (by decide) (by omega) (fun c80 => ?_) (fun c80 => ?_)
      · have e1 : stD O p x y mi l K (dg + 1) = stD O p x y mi l K dg := if_pos (by omega)
        refine ax_iinc dX6_stamp_119 rfl rfl (by decide) ?_
        refine ax_goto (tgt := 56) dX6_stamp_122 (by decide) ?_
        exact ih (dg + 1) _ g (by omega) (by rw [e1]; exact hMg) hX
      · refine ax_aload_n dX6_stamp_83 rfl ?_
        refine ax_iload_n dX6_stamp_84 rfl ?_
        refine ax_iload dX6_stamp_85 rfl ?_
        refine ax_iadd dX6_stamp_87 ?_
        refine ax_iload_n dX6_stamp_88 rfl ?_
        refine ax_iload dX6_stamp_89 rfl ?_
        refine ax_iadd dX6_stamp_91 ?_
        refine ax_cviP2 dX6_stamp_92 ln_X6_stamp_198 (Nat.le_of_ble_eq_true rfl) (Or.inr rfl) (by omega) hMg.1 rfl (s6_isOf hN hMg ok.1 (x := x + (dg : Int)) (y := y + (l : Int)) (by omega) (by omega)) ?_
        refine ax_if_eq (tgt := 119) dX6_stamp_95 (by decide) (by split <;> omega) (fun c95 => ?_) (fun c95 => ?_)
        · have q : ¬ onZ (stD O p x y mi l K dg) (x + (dg : Int)) (y + (l : Int)) = true := fun z => by rw [if_pos z] at c95; exact absurd c95 (by decide)
          have e1 : stD O p x y mi l K (dg + 1) = stD O p x y mi l K dg := (if_neg (by omega)).trans (putC_off q)
          refine ax_iinc dX6_stamp_119 rfl rfl (by decide) ?_
          refine ax_goto (tgt := 56) dX6_stamp_122 (by decide) ?_
          exact ih (dg + 1) _ g (by omega) (by rw [e1]; exact hMg) hX
        · have ho : onZ (stD O p x y mi l K dg) (x + (dg : Int)) (y + (l : Int)) = true := by
            by_cases q : onZ (stD O p x y mi l K dg) (x + (dg : Int)) (y + (l : Int)) = true
            · exact q
            · rw [if_neg q] at c95; exact absurd rfl c95
          obtain ⟨u, v, eu, ev, hu, hv, hl9, n0, -⟩ := onZ_nat ok.1 ho
          have ho2 : onZ (stD O p x y mi l K dg) (u : Int) (v : Int) = true := by rw [← eu, ← ev]; exact ho
          have hon : on (stD O p x y mi l K dg) (v * stD O p x y mi l K dg 0 + u) = true := by rw [on_at hu]; exact ho2
          refine ax_aload_n dX6_stamp_98 rfl ?_
          refine ax_aload_n dX6_stamp_99 rfl ?_
          refine ax_iload_n dX6_stamp_100 rfl ?_
          refine ax_iload dX6_stamp_101 rfl ?_
          refine ax_iadd dX6_stamp_103 ?_
          refine ax_iload_n dX6_stamp_104 rfl ?_
          refine ax_iload dX6_stamp_105 rfl ?_
          refine ax_iadd dX6_stamp_107 ?_
          refine ax_cviP2 dX6_stamp_108 ln_X6_stamp_261 (Nat.le_of_ble_eq_true rfl) (Or.inl rfl) (by omega) hMg.1 rfl (s6_at hN hMg) ?_
          rw [show (y + (l : Int)) * (stD O p x y mi l K dg 0 : Int) + (x + (dg : Int)) = ((v * stD O p x y mi l K dg 0 + u : Nat) : Int) by rw [eu, ev]; push_cast; omega]
          refine ax_iload dX6_stamp_111 rfl ?_
          refine ax_iconst dX6_stamp_113 ?_
          refine ax_iload dX6_stamp_114 rfl ?_
          refine ax_cvv4 dX6_stamp_116 ln_X6_stamp_299 (Nat.le_of_ble_eq_true rfl) rfl (by omega) hMg.1 rfl (s6_putBoth hN hMg ok.1 (i := v * stD O p x y mi l K dg 0 + u) (c := O (616 + 44 * p + (7 * l + dg))) (w := 4) (mi := mi) hl9 hon (mir_lt ok.1 hu hv) (by omega) (by omega)) (fun g2 hq => ?_)
          obtain ⟨hM2, x2⟩ := hq
          rw [putB_eq hu ho2, ← eu, ← ev] at hM2
          have e1 : stD O p x y mi l K (dg + 1) = putC (stD O p x y mi l K dg) (x + (dg : Int)) (y + (l : Int)) (O (616 + 44 * p + (7 * l + dg))) 4 mi := if_neg (by omega)
          refine ax_iinc dX6_stamp_119 rfl rfl (by decide) ?_
          refine ax_goto (tgt := 56) dX6_stamp_122 (by decide) ?_
          exact ih (dg + 1) _ g2 (by omega) (by rw [e1]; exact hM2) (hX.tr x2)
theorem l6_stL (hN : 132 ≤ NC) {O : Nat → Nat} (hO : KI O) {p : Nat} (hp3 : p < 3) {mi : Bool} {x y : Int} (hxy : -1000 ≤ x ∧ x ≤ 1000 ∧ -1000 ≤ y ∧ y ≤ 1000) (kk : ∀ (w5 w6 w7 : Value) (g : hp), MD g s (stmK O p x y mi) → EqX [114] h0 g → Ex NC none M_X6_stamp 131 [.ref 112, .int (I (p : Int)), .int (I x), .int (I y), .int (I (if mi = true then 1 else 0)), w5, w6, w7] [] g Q) : ∀ (n : Nat) (l : Nat) (w6 w7 : Value) (g : hp), l + n = O (615 + 44 * p) → MD g s (stL O p x y mi l) → EqX [114] h0 g → Ex NC none M_X6_stamp 42 [.ref 112, .int (I (p : Int)), .int (I x), .int (I y), .int (I (if mi = true then 1 else 0)), .int (I (l : Int)), w6, w7] [] g Q := by
  have po := hO.2.2.2.2.2.2.2.2 p hp3
  intro n
  induction n with
  | zero =>
    intro l w6 w7 g hd hMg hX
    have ok := okO.sl hO hp3 (x := x) (y := y) (mi := mi) l (by omega)
    refine ax_iload dX6_stamp_42 rfl ?_
    refine ax_aload_n dX6_stamp_44 rfl ?_
    refine ax_iload_n dX6_stamp_45 rfl ?_
    refine ax_iconst dX6_stamp_46 ?_
    refine ax_cviP2 dX6_stamp_47 ln_X6_stamp_279 (Nat.le_of_ble_eq_true rfl) (Or.inl rfl) (by omega) hMg.1 rfl (s6_ofPattern hN hMg ok.1 (p := p) (w := 1) hp3 (by omega)) ?_
    rw [show stL O p x y mi l (614 + 44 * p + 1) = O (615 + 44 * p) by rw [show 614 + 44 * p + 1 = 615 + 44 * p by omega]; exact ok.2 (615 + 44 * p) (by omega)]
    refine ax_icmp_ge (tgt := 131) dX6_stamp_50 (by decide) (by omega) (by omega) (fun c50 => ?_) (fun c50 => ?_)
    · have e9 : l = O (615 + 44 * p) := by omega
      subst e9
      exact kk _ w6 w7 g hMg hX
    · exfalso
      omega
  | succ n ih =>
    intro l w6 w7 g hd hMg hX
    have ok := okO.sl hO hp3 (x := x) (y := y) (mi := mi) l (by omega)
    refine ax_iload dX6_stamp_42 rfl ?_
    refine ax_aload_n dX6_stamp_44 rfl ?_
    refine ax_iload_n dX6_stamp_45 rfl ?_
    refine ax_iconst dX6_stamp_46 ?_
    refine ax_cviP2 dX6_stamp_47 ln_X6_stamp_279 (Nat.le_of_ble_eq_true rfl) (Or.inl rfl) (by omega) hMg.1 rfl (s6_ofPattern hN hMg ok.1 (p := p) (w := 1) hp3 (by omega)) ?_
    rw [show stL O p x y mi l (614 + 44 * p + 1) = O (615 + 44 * p) by rw [show 614 + 44 * p + 1 = 615 + 44 * p by omega]; exact ok.2 (615 + 44 * p) (by omega)]
    refine ax_icmp_ge (tgt := 131) dX6_stamp_50 (by decide) (by omega) (by omega) (fun c50 => ?_) (fun c50 => ?_)
    · exfalso
      omega
    · refine ax_iconst dX6_stamp_53 ?_
      refine ax_istore dX6_stamp_54 rfl (by decide) ?_
      refine l6_stD (h0 := h0) hN hO hp3 hxy (l := l) (by omega) ok (fun w6 w7 g2 hM2 x2 => ?_) (O (614 + 44 * p)) 0 _ g (by omega) hMg hX
      refine ax_iinc dX6_stamp_125 rfl rfl (by decide) ?_
      refine ax_goto (tgt := 42) dX6_stamp_128 (by decide) ?_
      exact ih (l + 1) _ _ g2 (by omega) hM2 x2
theorem l6_stC (hN : 132 ≤ NC) (hM : MD h s K) (hK : KI K) {O : Nat → Nat} (hO : KI O) (hA : row 0 (h 116) 746 (fun i => (O i : Int))) {v1 v2 v3 v4 w7 : Value} (kk : Ex NC none M_X6_stamp 185 [.ref 112, v1, v2, v3, v4, .int (I (othC K O)), .int (I (nC K : Int)), w7] [] h Q) : ∀ (n : Nat) (c : Nat) (acc : Int), c + n = nC K → acc = si (cfO K O) c → Ex NC none M_X6_stamp 137 [.ref 112, v1, v2, v3, v4, .int (I (acc)), .int (I (c : Int)), w7] [] h Q := by
  intro n
  induction n with
  | zero =>
    intro c acc hc ha
    have n0 := nC_le hK
    refine ax_iload dX6_stamp_137 rfl ?_
    refine ax_aload_n dX6_stamp_139 rfl ?_
    refine ax_cviP0 dX6_stamp_140 ln_X6_stamp_205 (Nat.le_of_ble_eq_true rfl) (Or.inl rfl) (by omega) hM.1 rfl (s6_cells hN hM hK) ?_
    refine ax_icmp_ge (tgt := 185) dX6_stamp_143 (by decide) (by omega) (by omega) (fun c143 => ?_) (fun c143 => ?_)
    · have e : c = nC K := by omega
      subst e
      rw [ha]
      exact kk
    · exfalso
      omega
  | succ n ih =>
    intro c acc hc ha
    have n0 := nC_le hK
    refine ax_iload dX6_stamp_137 rfl ?_
    refine ax_aload_n dX6_stamp_139 rfl ?_
    refine ax_cviP0 dX6_stamp_140 ln_X6_stamp_205 (Nat.le_of_ble_eq_true rfl) (Or.inl rfl) (by omega) hM.1 rfl (s6_cells hN hM hK) ?_
    refine ax_icmp_ge (tgt := 185) dX6_stamp_143 (by decide) (by omega) (by omega) (fun c143 => ?_) (fun c143 => ?_)
    · exfalso
      omega
    · refine ax_iload dX6_stamp_146 rfl ?_
      refine ax_aload_n dX6_stamp_148 rfl ?_
      refine ax_getf dX6_stamp_149 ck6 fl_X6_17 (by decide) (by omega) hM.1 rfl ?_
      refine ax_bipush dX6_stamp_152 (by decide) ?_
      refine ax_iload dX6_stamp_154 rfl ?_
      refine ax_iadd dX6_stamp_156 ?_
      refine ax_ialr (j := (74 + c)) (w := (K (74 + c) : Int)) dX6_stamp_157 (by omega) hM.2 (by omega) (by omega) (by decide) rfl ?_
      refine ax_aload_n dX6_stamp_158 rfl ?_
      refine ax_getf dX6_stamp_159 ck6 fl_X6_23 (by decide) (by omega) hM.1 rfl ?_
      refine ax_bipush dX6_stamp_162 (by decide) ?_
      refine ax_iload dX6_stamp_164 rfl ?_
      refine ax_iadd dX6_stamp_166 ?_
      refine ax_ialr (j := (74 + c)) (w := (O (74 + c) : Int)) dX6_stamp_167 (by omega) hA (by omega) (by omega) (by decide) rfl ?_
      refine ax_icmp_eq (tgt := 175) dX6_stamp_168 (by decide) (by have := hK.2.2.2.2.1 c (by omega); omega) (by have := hO.2.2.2.2.1 c (by omega); omega) (fun c168 => ?_) (fun c168 => ?_)
      · refine ax_iconst dX6_stamp_175 ?_
        refine ax_iadd dX6_stamp_176 ?_
        refine ax_istore dX6_stamp_177 rfl (by decide) ?_
        refine ax_iinc dX6_stamp_179 rfl rfl (by decide) ?_
        refine ax_goto (tgt := 137) dX6_stamp_182 (by decide) ?_
        refine ih (c + 1) _ (by omega) ?_
        rw [si_succ, ha]; congr 1; unfold cfO; first | rw [if_pos (by omega)] | rw [if_neg (by omega)]
      · refine ax_iconst dX6_stamp_171 ?_
        refine ax_goto (tgt := 176) dX6_stamp_172 (by decide) ?_
        refine ax_iadd dX6_stamp_176 ?_
        refine ax_istore dX6_stamp_177 rfl (by decide) ?_
        refine ax_iinc dX6_stamp_179 rfl rfl (by decide) ?_
        refine ax_goto (tgt := 137) dX6_stamp_182 (by decide) ?_
        refine ih (c + 1) _ (by omega) ?_
        rw [si_succ, ha]; congr 1; unfold cfO; first | rw [if_pos (by omega)] | rw [if_neg (by omega)]
theorem s6_stamp (hN : 132 ≤ NC) (hM : MD h s K) (hK : KI K) (hs : s 12 = (d : Int)) (hH : MH h H d) (s16 : sh 0 (h 116) 746) {p : Nat} (hp5 : p < K 5) {x : Int} (gx : -2147483648 ≤ x ∧ x < 2147483648) {y : Int} (gy : -2147483648 ≤ y ∧ y < 2147483648) {mi : Bool} (ho : onZ K x y = true) : Cl NC M_X6_stamp [.ref 112, .int (I (p : Int)), .int (I x), .int (I y), .int (I (if mi = true then 1 else 0))] h (fun v h1 => v = .int (I (othC (stmK K p x y mi) K)) ∧ MD h1 (upZ (upZ s 0 0) 12 ((min (d + 1) 8 : Nat) : Int)) (stmK K p x y mi) ∧ MH h1 (psh K H) (min (d + 1) 8) ∧ sh 0 (h1 116) 746 ∧ ∀ a, a ≠ 112 → a ≠ 114 → ¬ (118 ≤ a ∧ a ≤ 125) → a ≠ 116 → h1 a = h a) := by
  obtain ⟨u, v, rfl, rfl, hu, hv, hl, n0, -⟩ := onZ_nat hK ho
  have ed : ((v : Int) * (K 0 : Int) + (u : Int)) = ((v * K 0 + u : Nat) : Int) := by push_cast; omega
  have hon : on K (v * K 0 + u) = true := by rw [on_at hu]; exact ho
  have k0 := hK.1
  refine ax_aload_n dX6_stamp_0 rfl ?_
  refine ax_iconst dX6_stamp_1 ?_
  refine ax_putf dX6_stamp_2 ck6 fl_X6_51 (by decide) (by omega) hM.1 rfl (Or.inl rfl) (Nat.le_of_ble_eq_true rfl) rfl ?_
  generalize hg0 : va_up h 112 _ = g0
  have hM0 : MD g0 (upZ s 0 0) K := by rw [← hg0]; exact hM.s0
  have y0 : Y2 h g0 := fun a ha => by rw [← hg0]; exact vu_ne ha
  have z0 : upZ s 0 0 0 = 0 := rfl
  refine ax_aload_n dX6_stamp_5 rfl ?_
  refine ax_iload_n dX6_stamp_6 rfl ?_
  refine ax_cviP1 dX6_stamp_7 ln_X6_stamp_286 (Nat.le_of_ble_eq_true rfl) (Or.inr rfl) (by omega) hM0.1 rfl (s6_noPatternF hN hM0 hK z0 (by omega) (by omega)) ?_
  refine ax_if_ne (tgt := 22) dX6_stamp_10 (by decide) (by omega) (fun c10 => ?_) (fun c10 => ?_)
  · exfalso
    omega
  · refine ax_aload_n dX6_stamp_13 rfl ?_
    refine ax_iload_n dX6_stamp_14 rfl ?_
    refine ax_iload_n dX6_stamp_15 rfl ?_
    refine ax_cviP2 dX6_stamp_16 ln_X6_stamp_258 (Nat.le_of_ble_eq_true rfl) (Or.inr rfl) (by omega) hM0.1 rfl (s6_noCellF hN hM0 hK z0 gx gy ho) ?_
    refine ax_if_eq (tgt := 24) dX6_stamp_19 (by decide) (by omega) (fun c19 => ?_) (fun c19 => ?_)
    · refine ax_aload_n dX6_stamp_24 rfl ?_
      refine ax_cvv0 dX6_stamp_25 ln_X6_stamp_182 (Nat.le_of_ble_eq_true rfl) rfl (by omega) hM0.1 rfl (s6_remember hN hM0 (show upZ s 0 0 12 = (d : Int) from hs) (hH.mv (fun a a1 a2 => y0 a (by omega)))) (fun g1 hq => ?_)
      obtain ⟨hM1, hH1, x1⟩ := hq
      refine ax_aload_n dX6_stamp_28 rfl ?_
      refine ax_getf dX6_stamp_29 ck6 fl_X6_17 (by decide) (by omega) hM1.1 rfl ?_
      refine ax_aload_n dX6_stamp_32 rfl ?_
      refine ax_getf dX6_stamp_33 ck6 fl_X6_23 (by decide) (by omega) hM1.1 rfl ?_
      refine ax_csv2 dX6_stamp_36 ln_X6_stamp_185 (Nat.le_of_ble_eq_true rfl) rfl (s6_copy (F := fun i => (K i : Int)) (by omega) (by omega) (by decide) hM1.2 (s16.mv ((x1 116 (by decide)).trans (y0 116 (by decide))))) (fun g2 hq => ?_)
      obtain ⟨hC2, x2⟩ := hq
      have hM2 : MD g2 (upZ (upZ s 0 0) 12 ((min (d + 1) 8 : Nat) : Int)) K := ⟨(x2 112 (by decide)).trans hM1.1, hM1.2.mv (x2 114 (by decide))⟩
      refine ax_iconst dX6_stamp_39 ?_
      refine ax_istore dX6_stamp_40 rfl (by decide) ?_
      have ok := okO.sl hK (by omega : p < 3) (x := (u : Int)) (y := (v : Int)) (mi := mi) (K (615 + 44 * p)) (hK.2.2.2.2.2.2.2.2 p (by omega)).2.1
      refine l6_stL (h0 := g2) hN hK (by omega) (by omega) (fun w5 w6 w7 g3 hM3 x3 => ?_) (K (615 + 44 * p)) 0 _ _ g2 (by omega) hM2 EqX.rf
      have hA3 := hC2.mv (x3 116 (by decide))
      refine ax_iconst dX6_stamp_131 ?_
      refine ax_istore dX6_stamp_132 rfl (by decide) ?_
      refine ax_iconst dX6_stamp_134 ?_
      refine ax_istore dX6_stamp_135 rfl (by decide) ?_
      refine l6_stC hN hM3 ok.1 hK hA3 ?_ (nC (stmK K p (u : Int) (v : Int) mi)) 0 0 (by omega) rfl
      refine ax_iload dX6_stamp_185 rfl ?_
      exact ax_iret dX6_stamp_187 rfl ⟨rfl, hM3, hH1.mv (fun a a1 a2 => (x3 a (by simp; omega)).trans (x2 a (by simp; omega))), hA3.sh, fun a a1 a2 a3 a4 => (x3 a (by simp; omega)).trans ((x2 a (by simp; omega)).trans ((x1 a (by simp; omega)).trans (y0 a a1)))⟩
    · exfalso
      omega
theorem s6_stampT1 (hN : 132 ≤ NC) (hM : MD h s K) (hK : KI K) {a : Int} (ga : -2147483648 ≤ a ∧ a < 2147483648) {v2 v3 v4 : Value} (hx : ¬ (0 ≤ a ∧ a < (K 5 : Int))) : Cl NC M_X6_stamp [.ref 112, .int (I a), v2, v3, v4] h (fun v h1 => v = .int (I (0)) ∧ MD h1 (upZ s 0 1) K ∧ Y2 h h1) := by
  refine ax_aload_n dX6_stamp_0 rfl ?_
  refine ax_iconst dX6_stamp_1 ?_
  refine ax_putf dX6_stamp_2 ck6 fl_X6_51 (by decide) (by omega) hM.1 rfl (Or.inl rfl) (Nat.le_of_ble_eq_true rfl) rfl ?_
  generalize hg0 : va_up h 112 _ = g0
  have hM0 : MD g0 (upZ s 0 0) K := by rw [← hg0]; exact hM.s0
  have y0 : Y2 h g0 := fun a ha => by rw [← hg0]; exact vu_ne ha
  have z0 : upZ s 0 0 0 = 0 := rfl
  refine ax_aload_n dX6_stamp_5 rfl ?_
  refine ax_iload_n dX6_stamp_6 rfl ?_
  refine ax_cvi1 dX6_stamp_7 ln_X6_stamp_286 (Nat.le_of_ble_eq_true rfl) (Or.inr rfl) (by omega) hM0.1 rfl (s6_noPatternT hN hM0 hK z0 ga hx) (fun r g1 hq => ?_)
  obtain ⟨hv, hM1, y1⟩ := hq
  cases hv
  refine ax_if_ne (tgt := 22) dX6_stamp_10 (by decide) (by omega) (fun c10 => ?_) (fun c10 => ?_)
  · refine ax_iconst dX6_stamp_22 ?_
    exact ax_iret dX6_stamp_23 rfl ⟨rfl, (by rw [show upZ (upZ s 0 0) 0 1 = upZ s 0 1 from funext fun j => by unfold upZ; split <;> rfl] at hM1; exact hM1), y0.tr y1⟩
  · exfalso
    omega
theorem s6_stampT2 (hN : 132 ≤ NC) (hM : MD h s K) (hK : KI K) {a : Int} (ga : -2147483648 ≤ a ∧ a < 2147483648) {x : Int} (gx : -2147483648 ≤ x ∧ x < 2147483648) {y : Int} (gy : -2147483648 ≤ y ∧ y < 2147483648) {v4 : Value} (ha : 0 ≤ a ∧ a < (K 5 : Int)) (ho : ¬ onZ K x y = true) : Cl NC M_X6_stamp [.ref 112, .int (I a), .int (I x), .int (I y), v4] h (fun v h1 => v = .int (I (0)) ∧ MD h1 (upZ s 0 1) K ∧ Y2 h h1) := by
  refine ax_aload_n dX6_stamp_0 rfl ?_
  refine ax_iconst dX6_stamp_1 ?_
  refine ax_putf dX6_stamp_2 ck6 fl_X6_51 (by decide) (by omega) hM.1 rfl (Or.inl rfl) (Nat.le_of_ble_eq_true rfl) rfl ?_
  generalize hg0 : va_up h 112 _ = g0
  have hM0 : MD g0 (upZ s 0 0) K := by rw [← hg0]; exact hM.s0
  have y0 : Y2 h g0 := fun a ha => by rw [← hg0]; exact vu_ne ha
  have z0 : upZ s 0 0 0 = 0 := rfl
  refine ax_aload_n dX6_stamp_5 rfl ?_
  refine ax_iload_n dX6_stamp_6 rfl ?_
  refine ax_cviP1 dX6_stamp_7 ln_X6_stamp_286 (Nat.le_of_ble_eq_true rfl) (Or.inr rfl) (by omega) hM0.1 rfl (s6_noPatternF hN hM0 hK z0 ga ha) ?_
  refine ax_if_ne (tgt := 22) dX6_stamp_10 (by decide) (by omega) (fun c10 => ?_) (fun c10 => ?_)
  · exfalso
    omega
  · refine ax_aload_n dX6_stamp_13 rfl ?_
    refine ax_iload_n dX6_stamp_14 rfl ?_
    refine ax_iload_n dX6_stamp_15 rfl ?_
    refine ax_cvi2 dX6_stamp_16 ln_X6_stamp_258 (Nat.le_of_ble_eq_true rfl) (Or.inr rfl) (by omega) hM0.1 rfl (s6_noCellT hN hM0 hK z0 gx gy ho) (fun r g1 hq => ?_)
    obtain ⟨hv, hM1, y1⟩ := hq
    cases hv
    refine ax_if_eq (tgt := 24) dX6_stamp_19 (by decide) (by omega) (fun c19 => ?_) (fun c19 => ?_)
    · exfalso
      omega
    · refine ax_iconst dX6_stamp_22 ?_
      exact ax_iret dX6_stamp_23 rfl ⟨rfl, (by rw [show upZ (upZ s 0 0) 0 1 = upZ s 0 1 from funext fun j => by unfold upZ; split <;> rfl] at hM1; exact hM1), y0.tr y1⟩
end MW
