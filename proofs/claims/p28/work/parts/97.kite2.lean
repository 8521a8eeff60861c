/-! THE KITE: sums over its cells -/
theorem g_compare {ad : Nat → Nat} {sc : Nat × (Nat → Int32)} {u : hp} {h : hg} {c sl : Nat} {x y : Int} (hx : -2147483648 ≤ x ∧ x < 2147483648) (hy : -2147483648 ≤ y ∧ y < 2147483648) : Gl ad sc c sl M_J6_compare_7cf53 [.int (I x), .int (I y)] u h (fun v u1 h1 => v = .int (I (sgz (x - y))) ∧ u1 = u ∧ h1 = h) := by
  refine bx_iload_n dJ6_compare_7cf53_0 rfl ?_
  refine bx_iload_n dJ6_compare_7cf53_1 rfl ?_
  refine bx_icmp_ge (tgt := 9) dJ6_compare_7cf53_2 (by decide) (by omega) (by omega) (fun q1 => ?_) (fun q1 => ?_)
  · refine bx_iload_n dJ6_compare_7cf53_9 rfl ?_
    refine bx_iload_n dJ6_compare_7cf53_10 rfl ?_
    refine bx_icmp_ne (tgt := 18) dJ6_compare_7cf53_11 (by decide) (by omega) (by omega) (fun q2 => ?_) (fun q2 => ?_)
    · refine bx_iconst dJ6_compare_7cf53_18 ?_
      exact bx_iret dJ6_compare_7cf53_19 rfl ⟨by apply iq; unfold sgz; split <;> (try split) <;> omega, rfl, rfl⟩
    · refine bx_iconst dJ6_compare_7cf53_14 ?_
      refine bx_goto (tgt := 19) dJ6_compare_7cf53_15 (by decide) ?_
      exact bx_iret dJ6_compare_7cf53_19 rfl ⟨by apply iq; unfold sgz; split <;> (try split) <;> omega, rfl, rfl⟩
  · refine bx_iconst dJ6_compare_7cf53_5 ?_
    refine bx_goto (tgt := 19) dJ6_compare_7cf53_6 (by decide) ?_
    exact bx_iret dJ6_compare_7cf53_19 rfl ⟨by apply iq; unfold sgz; split <;> (try split) <;> omega, rfl, rfl⟩
def hfN (K : Nat → Nat) (sd : Int) : Nat → Int := fun i => if on K i = true ∧ (sd = 2 ∨ sgz (2 * ((i % K 0 : Nat) : Int) - ((K 0 : Int) - 1)) = sd) then (wgN K i : Int) else 0
theorem hf_rg {K : Nat → Nat} (hK : KI K) (sd : Int) : ∀ i, i < nC K → 0 ≤ hfN K sd i ∧ hfN K sd i ≤ 297 := by
  intro i hi
  have h1 := wg_le hK (i := i) (by have := nC_le hK; omega)
  unfold hfN
  split <;> omega
theorem hf_cf {K : Nat → Nat} (hK : KI K) {sd : Int} (hs : -1 ≤ sd ∧ sd ≤ 1) (i : Nat) : hfN K sd i = cfG K sd i := by
  have k0 := hK.1
  have k1 := Nat.mod_lt i (show 0 < K 0 by omega)
  have e : (sd = 2 ∨ sgz (2 * ((i % K 0 : Nat) : Int) - ((K 0 : Int) - 1)) = sd) ↔ sdN K i = sd := by
    have e2 : sgz (2 * ((i % K 0 : Nat) : Int) - ((K 0 : Int) - 1)) = sdN K i := by
      unfold sdN sgz
      split <;> split <;> (try split) <;> (try split) <;> omega
    rw [e2]
    constructor
    · rintro (h | h)
      · omega
      · exact h
    · exact Or.inr
  unfold hfN cfG
  by_cases ho : on K i = true
  · by_cases hq : sdN K i = sd
    · rw [if_pos ⟨ho, e.mpr hq⟩, if_pos ⟨ho, hq⟩]
    · rw [if_neg (fun z => hq (e.mp z.2)), if_neg (fun z => hq z.2)]
  · rw [if_neg (fun z => ho z.1), if_neg (fun z => ho z.1)]
theorem hf_sid {K : Nat → Nat} (hK : KI K) {sd : Int} (hs : -1 ≤ sd ∧ sd ≤ 1) : si (hfN K sd) (nC K) = sidW K sd := si_cong (fun i _ => hf_cf hK hs i)
theorem hf_all {K : Nat → Nat} (hK : KI K) : ∀ n, si (hfN K 2) n = si (cfG K (-1)) n + si (cfG K 0) n + si (cfG K 1) n
  | 0 => rfl
  | n + 1 => by
    rw [si_succ, si_succ, si_succ, si_succ, hf_all hK n]
    have : hfN K 2 n = cfG K (-1) n + cfG K 0 n + cfG K 1 n := by
      unfold hfN cfG
      by_cases ho : on K n = true
      · have h1 := sgz_rg (((n % K 0 : Nat) : Int) - ((K 0 / 2 : Nat) : Int))
        rw [if_pos ⟨ho, Or.inl rfl⟩]
        have h2 : sdN K n = -1 ∨ sdN K n = 0 ∨ sdN K n = 1 := by unfold sdN; omega
        rcases h2 with h2 | h2 | h2 <;> simp [ho, h2]
      · simp [ho]
    omega
section KB
variable {ad : Nat → Nat} {sc : Nat × (Nat → Int32)} {u : hp} {h : hg} {Q : qg} {k w m p cl : Nat} {ce : Nat → Nat} {K : Nat → Nat} {c sl : Nat}
theorem kl_half (hT : KT h k w m p cl ce K) (hK : KI K) (hR : SHR h w m p K) {sd : Int} (hsd : -1 ≤ sd ∧ sd ≤ 2) (kk : Gx ad sc M_X7_half 72 [.ref k, .int (I sd), .int (I (si (hfN K sd) (nC K))), .ref cl, .int (I (nC K : Int)), .int (I (nC K : Int)), uk] [] c sl u h Q) : ∀ (n : Nat) (i : Nat) (acc : Int), i + n = nC K → acc = si (hfN K sd) i → Gx ad sc M_X7_half 14 [.ref k, .int (I sd), .int (I acc), .ref cl, .int (I (nC K : Int)), .int (I (i : Int)), uk] [] c sl u h Q := by
  have hn9 := nC_le hK
  have k0 := hK.1
  intro n
  induction n with
  | zero =>
    intro i acc hi ha
    refine bx_iload dX7_half_14 rfl ?_
    refine bx_iload dX7_half_16 rfl ?_
    refine bx_icmp_ge (tgt := 72) dX7_half_18 (by decide) (by omega) (by omega) (fun c18 => ?_) (fun c18 => ?_)
    · have e : i = nC K := by omega
      subst e
      rw [ha]
      exact kk
    · exfalso
      omega
  | succ n ih =>
    intro i acc hi ha
    refine bx_iload dX7_half_14 rfl ?_
    refine bx_iload dX7_half_16 rfl ?_
    refine bx_icmp_ge (tgt := 72) dX7_half_18 (by decide) (by omega) (by omega) (fun c18 => ?_) (fun c18 => ?_)
    · exfalso
      omega
    · refine bx_aload_n dX7_half_21 rfl ?_
      refine bx_iload dX7_half_22 rfl ?_
      by_cases hon : on K i = true
      · have hc := hT.2.2 i (by omega) hon
        have h5 := hK.2.2.2.2.1 i (by omega)
        have h6 := hK.2.2.2.2.2.1 i (by omega)
        have h7 := hK.2.2.2.2.2.2.1 i (by omega)
        have k1 := Nat.mod_lt i (show 0 < K 0 by omega)
        have hw9 := wg_le hK (i := i) (by omega)
        refine bx_aals (j := i) (q := ce i) dX7_half_24 hT.2.1 (by decide) rfl (by omega) (by omega) (if_pos hon) ?_
        refine bx_astore dX7_half_25 rfl (by decide) rfl ?_
        refine bx_aload dX7_half_27 rfl ?_
        refine gx_ifnull dX7_half_29 ?_
        refine bx_iload_n dX7_half_32 rfl ?_
        refine bx_iconst dX7_half_33 ?_
        refine bx_icmp_eq (tgt := 57) dX7_half_34 (by decide) (by omega) (by omega) (fun q34 => ?_) (fun q34 => ?_)
        · refine bx_iload_n dX7_half_57 rfl ?_
          refine bx_aload_n dX7_half_58 rfl ?_
          refine bx_aload dX7_half_59 rfl ?_
          refine bx_cvP1 dX7_half_61 ln_X7_half_86 (Nat.le_of_ble_eq_true rfl) (by decide) hT.1 rfl (kt_weight hT hK hR hc (by omega)) ?_
          refine bx_iadd dX7_half_64 ?_
          refine bx_istore_n dX7_half_65 rfl (by decide) rfl ?_
          refine bx_iinc dX7_half_66 rfl rfl (by decide) rfl ?_
          refine bx_goto (tgt := 14) dX7_half_69 (by decide) ?_
          refine gx_forg (i := 6) ?_
          refine ih (i + 1) _ (by omega) ?_
          rw [si_succ, ← ha]
          unfold hfN; first | rw [if_pos ⟨hon, Or.inl (by omega)⟩] | rw [if_pos ⟨hon, Or.inr (by omega)⟩] | (rw [if_neg (fun z => by rcases z.2 with z | z <;> omega)]; omega)
        · refine bx_iconst dX7_half_37 ?_
          refine bx_aload dX7_half_38 rfl ?_
          refine bx_getf dX7_half_40 ck6 fg_KitePainterLaw_Kite_63 (by decide) hc rfl ?_
          refine bx_imul dX7_half_43 ?_
          refine bx_aload_n dX7_half_44 rfl ?_
          refine bx_getf dX7_half_45 ck7 fg_KitePainterLaw_Kite_7 (by decide) hT.1 rfl ?_
          refine bx_iconst dX7_half_48 ?_
          refine bx_isub dX7_half_49 ?_
          refine bx_csP2 dX7_half_50 ln_X7_half_81 (Nat.le_of_ble_eq_true rfl) (by decide) (g_compare (by omega) (by omega)) ?_
          refine bx_iload_n dX7_half_53 rfl ?_
          refine bx_icmp_ne (tgt := 66) dX7_half_54 (by decide) (by have := sgz_rg (2 * ((i % K 0 : Nat) : Int) - ((K 0 : Int) - 1)); omega) (by omega) (fun q54 => ?_) (fun q54 => ?_)
          · refine bx_iinc dX7_half_66 rfl rfl (by decide) rfl ?_
            refine bx_goto (tgt := 14) dX7_half_69 (by decide) ?_
            refine gx_forg (i := 6) ?_
            refine ih (i + 1) _ (by omega) ?_
            rw [si_succ, ← ha]
            unfold hfN; first | rw [if_pos ⟨hon, Or.inl (by omega)⟩] | rw [if_pos ⟨hon, Or.inr (by omega)⟩] | (rw [if_neg (fun z => by rcases z.2 with z | z <;> omega)]; omega)
          · refine bx_iload_n dX7_half_57 rfl ?_
            refine bx_aload_n dX7_half_58 rfl ?_
            refine bx_aload dX7_half_59 rfl ?_
            refine bx_cvP1 dX7_half_61 ln_X7_half_86 (Nat.le_of_ble_eq_true rfl) (by decide) hT.1 rfl (kt_weight hT hK hR hc (by omega)) ?_
            refine bx_iadd dX7_half_64 ?_
            refine bx_istore_n dX7_half_65 rfl (by decide) rfl ?_
            refine bx_iinc dX7_half_66 rfl rfl (by decide) rfl ?_
            refine bx_goto (tgt := 14) dX7_half_69 (by decide) ?_
            refine gx_forg (i := 6) ?_
            refine ih (i + 1) _ (by omega) ?_
            rw [si_succ, ← ha]
            unfold hfN; first | rw [if_pos ⟨hon, Or.inl (by omega)⟩] | rw [if_pos ⟨hon, Or.inr (by omega)⟩] | (rw [if_neg (fun z => by rcases z.2 with z | z <;> omega)]; omega)
      · refine bx_aaln (j := i) dX7_half_24 hT.2.1 (by decide) rfl (by omega) (by omega) (if_neg hon) ?_
        refine bx_astoreN dX7_half_25 rfl (by decide) rfl ?_
        refine gx_aloadN rfl dX7_half_27 ?_
        refine gx_ifnullN (tgt := 66) dX7_half_29 (by decide) ?_
        refine bx_iinc dX7_half_66 rfl rfl (by decide) rfl ?_
        refine bx_goto (tgt := 14) dX7_half_69 (by decide) ?_
        refine gx_forg (i := 6) ?_
        refine ih (i + 1) _ (by omega) ?_
        rw [si_succ, ← ha]
        unfold hfN
        rw [if_neg (fun z => hon z.1)]
        omega
theorem kt_half (hT : KT h k w m p cl ce K) (hK : KI K) (hR : SHR h w m p K) {sd : Int} (hsd : -1 ≤ sd ∧ sd ≤ 2)  : Gl ad sc c sl M_X7_half [.ref k, .int (I sd)] u h (fun v u1 h1 => v = .int (I (si (hfN K sd) (nC K))) ∧ u1 = u ∧ h1 = h) := by
  have hn9 := nC_le hK
  have k0 := hK.1
  refine bx_iconst dX7_half_0 ?_
  refine bx_istore_n dX7_half_1 rfl (by decide) rfl ?_
  refine bx_aload_n dX7_half_2 rfl ?_
  refine bx_getf dX7_half_3 ck7 fg_KitePainterLaw_Kite_39 (by decide) hT.1 rfl ?_
  refine bx_astore_n dX7_half_6 rfl (by decide) rfl ?_
  refine bx_aload_n dX7_half_7 rfl ?_
  refine bx_alnq dX7_half_8 hT.2.1 (by decide) ?_
  refine bx_istore dX7_half_9 rfl (by decide) rfl ?_
  refine bx_iconst dX7_half_11 ?_
  refine bx_istore dX7_half_12 rfl (by decide) rfl ?_
  refine kl_half hT hK hR hsd ?_ (nC K) 0 0 (by omega) rfl
  refine bx_iload_n dX7_half_72 rfl ?_
  exact bx_iret dX7_half_73 rfl ⟨rfl, rfl, rfl⟩
theorem kt_balance (hT : KT h k w m p cl ce K) (hK : KI K) (hR : SHR h w m p K) : Gl ad sc c sl M_X7_balance [.ref k] u h (fun v u1 h1 => v = .int (I (balW K)) ∧ u1 = u ∧ h1 = h) := by
  refine bx_aload_n dX7_balance_0 rfl ?_
  refine bx_iconst dX7_balance_1 ?_
  refine bx_cvP1 dX7_balance_2 ln_X7_balance_90 (Nat.le_of_ble_eq_true rfl) (by decide) hT.1 rfl (kt_half hT hK hR (by omega)) ?_
  refine bx_aload_n dX7_balance_5 rfl ?_
  refine bx_iconst dX7_balance_6 ?_
  refine bx_cvP1 dX7_balance_7 ln_X7_balance_90 (Nat.le_of_ble_eq_true rfl) (by decide) hT.1 rfl (kt_half hT hK hR (by omega)) ?_
  refine bx_isub dX7_balance_10 ?_
  exact bx_iret dX7_balance_11 rfl ⟨by rw [hf_sid hK (by omega), hf_sid hK (by omega)]; rfl, rfl, rfl⟩
theorem kl_count (hT : KT h k w m p cl ce K) (hK : KI K) {q : Nat} (hq : q < 7) (kk : Gx ad sc M_X7_count 50 [.ref k, .int (I (q : Int)), .int (I (cntC K q)), .ref cl, .int (I (nC K : Int)), .int (I (nC K : Int)), uk] [] c sl u h Q) : ∀ (n : Nat) (i : Nat) (acc : Int), i + n = nC K → acc = si (cfC K q) i → Gx ad sc M_X7_count 14 [.ref k, .int (I (q : Int)), .int (I acc), .ref cl, .int (I (nC K : Int)), .int (I (i : Int)), uk] [] c sl u h Q := by
  have hn9 := nC_le hK
  have k0 := hK.1
  intro n
  induction n with
  | zero =>
    intro i acc hi ha
    refine bx_iload dX7_count_14 rfl ?_
    refine bx_iload dX7_count_16 rfl ?_
    refine bx_icmp_ge (tgt := 50) dX7_count_18 (by decide) (by omega) (by omega) (fun c18 => ?_) (fun c18 => ?_)
    · have e : i = nC K := by omega
      subst e
      rw [ha]
      exact kk
    · exfalso
      omega
  | succ n ih =>
    intro i acc hi ha
    refine bx_iload dX7_count_14 rfl ?_
    refine bx_iload dX7_count_16 rfl ?_
    refine bx_icmp_ge (tgt := 50) dX7_count_18 (by decide) (by omega) (by omega) (fun c18 => ?_) (fun c18 => ?_)
    · exfalso
      omega
    · refine bx_aload_n dX7_count_21 rfl ?_
      refine bx_iload dX7_count_22 rfl ?_
      by_cases hon : on K i = true
      · have hc := hT.2.2 i (by omega) hon
        have h5 := hK.2.2.2.2.1 i (by omega)
        have h6 := hK.2.2.2.2.2.1 i (by omega)
        have h7 := hK.2.2.2.2.2.2.1 i (by omega)
        have k1 := Nat.mod_lt i (show 0 < K 0 by omega)
        refine bx_aals (j := i) (q := ce i) dX7_count_24 hT.2.1 (by decide) rfl (by omega) (by omega) (if_pos hon) ?_
        refine bx_astore dX7_count_25 rfl (by decide) rfl ?_
        refine bx_aload dX7_count_27 rfl ?_
        refine gx_ifnull dX7_count_29 ?_
        refine bx_aload dX7_count_32 rfl ?_
        refine bx_getf dX7_count_34 ck6 fg_KitePainterLaw_Kite_74 (by decide) hc rfl ?_
        refine bx_iload_n dX7_count_37 rfl ?_
        refine bx_icmp_ne (tgt := 44) dX7_count_38 (by decide) (by omega) (by omega) (fun q38 => ?_) (fun q38 => ?_)
        · refine bx_iinc dX7_count_44 rfl rfl (by decide) rfl ?_
          refine bx_goto (tgt := 14) dX7_count_47 (by decide) ?_
          refine gx_forg (i := 6) ?_
          refine ih (i + 1) _ (by omega) ?_
          rw [si_succ, ← ha]
          unfold cfC; first | rw [if_pos ⟨hon, by omega⟩] | (rw [if_neg (fun z => by have := z.2; omega)]; omega)
        · refine bx_iinc dX7_count_41 rfl rfl (by decide) rfl ?_
          refine bx_iinc dX7_count_44 rfl rfl (by decide) rfl ?_
          refine bx_goto (tgt := 14) dX7_count_47 (by decide) ?_
          refine gx_forg (i := 6) ?_
          refine ih (i + 1) _ (by omega) ?_
          rw [si_succ, ← ha]
          unfold cfC; first | rw [if_pos ⟨hon, by omega⟩] | (rw [if_neg (fun z => by have := z.2; omega)]; omega)
      · refine bx_aaln (j := i) dX7_count_24 hT.2.1 (by decide) rfl (by omega) (by omega) (if_neg hon) ?_
        refine bx_astoreN dX7_count_25 rfl (by decide) rfl ?_
        refine gx_aloadN rfl dX7_count_27 ?_
        refine gx_ifnullN (tgt := 44) dX7_count_29 (by decide) ?_
        refine bx_iinc dX7_count_44 rfl rfl (by decide) rfl ?_
        refine bx_goto (tgt := 14) dX7_count_47 (by decide) ?_
        refine gx_forg (i := 6) ?_
        refine ih (i + 1) _ (by omega) ?_
        rw [si_succ, ← ha]
        unfold cfC
        rw [if_neg (fun z => hon z.1)]
        omega
theorem kt_count (hT : KT h k w m p cl ce K) (hK : KI K) {q : Nat} (hq : q < 7) : Gl ad sc c sl M_X7_count [.ref k, .int (I (q : Int))] u h (fun v u1 h1 => v = .int (I (cntC K q)) ∧ u1 = u ∧ h1 = h) := by
  have hn9 := nC_le hK
  have k0 := hK.1
  refine bx_iconst dX7_count_0 ?_
  refine bx_istore_n dX7_count_1 rfl (by decide) rfl ?_
  refine bx_aload_n dX7_count_2 rfl ?_
  refine bx_getf dX7_count_3 ck7 fg_KitePainterLaw_Kite_39 (by decide) hT.1 rfl ?_
  refine bx_astore_n dX7_count_6 rfl (by decide) rfl ?_
  refine bx_aload_n dX7_count_7 rfl ?_
  refine bx_alnq dX7_count_8 hT.2.1 (by decide) ?_
  refine bx_istore dX7_count_9 rfl (by decide) rfl ?_
  refine bx_iconst dX7_count_11 ?_
  refine bx_istore dX7_count_12 rfl (by decide) rfl ?_
  refine kl_count hT hK hq ?_ (nC K) 0 0 (by omega) rfl
  refine bx_iload_n dX7_count_50 rfl ?_
  exact bx_iret dX7_count_51 rfl ⟨rfl, rfl, rfl⟩
theorem div_lt9 {K : Nat → Nat} (hK : KI K) {i : Nat} (hi : i < nC K) : i / K 0 < K 1 := by
  have k0 := hK.1
  exact Nat.div_lt_of_lt_mul (by unfold nC at hi; exact hi)
theorem kl_unlike (hT : KT h k w m p cl ce K) (hK : KI K) (kk : Gx ad sc M_X7_unlike 70 [.ref k, .int (I (unlC K)), .ref cl, .int (I (nC K : Int)), .int (I (nC K : Int)), uk] [] c sl u h Q) : ∀ (n : Nat) (i : Nat) (acc : Int), i + n = nC K → acc = si (cfU K) i → Gx ad sc M_X7_unlike 13 [.ref k, .int (I acc), .ref cl, .int (I (nC K : Int)), .int (I (i : Int)), uk] [] c sl u h Q := by
  have hn9 := nC_le hK
  have k0 := hK.1
  intro n
  induction n with
  | zero =>
    intro i acc hi ha
    refine bx_iload dX7_unlike_13 rfl ?_
    refine bx_iload_n dX7_unlike_15 rfl ?_
    refine bx_icmp_ge (tgt := 70) dX7_unlike_16 (by decide) (by omega) (by omega) (fun c16 => ?_) (fun c16 => ?_)
    · have e : i = nC K := by omega
      subst e
      rw [ha]
      exact kk
    · exfalso
      omega
  | succ n ih =>
    intro i acc hi ha
    refine bx_iload dX7_unlike_13 rfl ?_
    refine bx_iload_n dX7_unlike_15 rfl ?_
    refine bx_icmp_ge (tgt := 70) dX7_unlike_16 (by decide) (by omega) (by omega) (fun c16 => ?_) (fun c16 => ?_)
    · exfalso
      omega
    · refine bx_aload_n dX7_unlike_19 rfl ?_
      refine bx_iload dX7_unlike_20 rfl ?_
      by_cases hon : on K i = true
      · have hc := hT.2.2 i (by omega) hon
        have h5 := hK.2.2.2.2.1 i (by omega)
        have h6 := hK.2.2.2.2.2.1 i (by omega)
        have h7 := hK.2.2.2.2.2.2.1 i (by omega)
        have k1 := Nat.mod_lt i (show 0 < K 0 by omega)
        have kd := cd_eq (K := K) i
        have hmx : onZ K ((K 0 - 1 - i % K 0 : Nat) : Int) ((i / K 0 : Nat) : Int) = true := mir_on hK k1 hon
        have hmi : mirN K i < nC K := ci_lt (div_lt9 hK (by omega)) (by omega)
        have hmo : on K (mirN K i) = true := by unfold mirN; rw [on_at (by omega)]; exact hmx
        have hm := hT.2.2 _ hmi hmo
        have h8 := hK.2.2.2.2.1 (mirN K i) (by omega)
        have hat : atR K ce ((K 0 : Int) - 1 - ((i % K 0 : Nat) : Int)) ((i / K 0 : Nat) : Int) = some (ce (mirN K i)) := by
          rw [show (K 0 : Int) - 1 - ((i % K 0 : Nat) : Int) = ((K 0 - 1 - i % K 0 : Nat) : Int) by omega, atR_in (by omega)]
          exact if_pos hmo
        refine bx_aals (j := i) (q := ce i) dX7_unlike_22 hT.2.1 (by decide) rfl (by omega) (by omega) (if_pos hon) ?_
        refine bx_astore dX7_unlike_23 rfl (by decide) rfl ?_
        refine bx_aload dX7_unlike_25 rfl ?_
        refine gx_ifnull dX7_unlike_27 ?_
        refine bx_aload dX7_unlike_30 rfl ?_
        refine bx_getf dX7_unlike_32 ck6 fg_KitePainterLaw_Kite_63 (by decide) hc rfl ?_
        refine bx_aload_n dX7_unlike_35 rfl ?_
        refine bx_getf dX7_unlike_36 ck7 fg_KitePainterLaw_Kite_7 (by decide) hT.1 rfl ?_
        refine bx_iconst dX7_unlike_39 ?_
        refine bx_idiv dX7_unlike_40 (by omega) (by omega) ?_
        refine bx_icmp_ge (tgt := 64) dX7_unlike_41 (by decide) (by omega) (by omega) (fun q41 => ?_) (fun q41 => ?_)
        · refine bx_iinc dX7_unlike_64 rfl rfl (by decide) rfl ?_
          refine bx_goto (tgt := 13) dX7_unlike_67 (by decide) ?_
          refine gx_forg (i := 5) ?_
          refine ih (i + 1) _ (by omega) ?_
          rw [si_succ, ← ha]
          unfold cfU; first | rw [if_pos ⟨hon, by omega, by omega⟩] | (rw [if_neg (fun z => by have := z.2.1; omega)]; omega) | (rw [if_neg (fun z => by have := z.2.2; omega)]; omega)
        · refine bx_aload dX7_unlike_44 rfl ?_
          refine bx_getf dX7_unlike_46 ck6 fg_KitePainterLaw_Kite_74 (by decide) hc rfl ?_
          refine bx_aload_n dX7_unlike_49 rfl ?_
          refine bx_aload dX7_unlike_50 rfl ?_
          refine bx_cvP1 dX7_unlike_52 ln_X7_unlike_115 (Nat.le_of_ble_eq_true rfl) (by decide) hT.1 rfl (by have := kt_mirror hT hK (ad := ad) (sc := sc) (u := u) (c := 0) (sl := 0) hc (by omega); rw [hat] at this; exact this) ?_
          refine bx_getf dX7_unlike_55 ck6 fg_KitePainterLaw_Kite_74 (by decide) hm rfl ?_
          refine bx_icmp_eq (tgt := 64) dX7_unlike_58 (by decide) (by omega) (by omega) (fun q58 => ?_) (fun q58 => ?_)
          · refine bx_iinc dX7_unlike_64 rfl rfl (by decide) rfl ?_
            refine bx_goto (tgt := 13) dX7_unlike_67 (by decide) ?_
            refine gx_forg (i := 5) ?_
            refine ih (i + 1) _ (by omega) ?_
            rw [si_succ, ← ha]
            unfold cfU; first | rw [if_pos ⟨hon, by omega, by omega⟩] | (rw [if_neg (fun z => by have := z.2.1; omega)]; omega) | (rw [if_neg (fun z => by have := z.2.2; omega)]; omega)
          · refine bx_iinc dX7_unlike_61 rfl rfl (by decide) rfl ?_
            refine bx_iinc dX7_unlike_64 rfl rfl (by decide) rfl ?_
            refine bx_goto (tgt := 13) dX7_unlike_67 (by decide) ?_
            refine gx_forg (i := 5) ?_
            refine ih (i + 1) _ (by omega) ?_
            rw [si_succ, ← ha]
            unfold cfU; first | rw [if_pos ⟨hon, by omega, by omega⟩] | (rw [if_neg (fun z => by have := z.2.1; omega)]; omega) | (rw [if_neg (fun z => by have := z.2.2; omega)]; omega)
      · refine bx_aaln (j := i) dX7_unlike_22 hT.2.1 (by decide) rfl (by omega) (by omega) (if_neg hon) ?_
        refine bx_astoreN dX7_unlike_23 rfl (by decide) rfl ?_
        refine gx_aloadN rfl dX7_unlike_25 ?_
        refine gx_ifnullN (tgt := 64) dX7_unlike_27 (by decide) ?_
        refine bx_iinc dX7_unlike_64 rfl rfl (by decide) rfl ?_
        refine bx_goto (tgt := 13) dX7_unlike_67 (by decide) ?_
        refine gx_forg (i := 5) ?_
        refine ih (i + 1) _ (by omega) ?_
        rw [si_succ, ← ha]
        unfold cfU
        rw [if_neg (fun z => hon z.1)]
        omega
theorem kt_unlike (hT : KT h k w m p cl ce K) (hK : KI K) : Gl ad sc c sl M_X7_unlike [.ref k] u h (fun v u1 h1 => v = .int (I (unlC K)) ∧ u1 = u ∧ h1 = h) := by
  have hn9 := nC_le hK
  have k0 := hK.1
  refine bx_iconst dX7_unlike_0 ?_
  refine bx_istore_n dX7_unlike_1 rfl (by decide) rfl ?_
  refine bx_aload_n dX7_unlike_2 rfl ?_
  refine bx_getf dX7_unlike_3 ck7 fg_KitePainterLaw_Kite_39 (by decide) hT.1 rfl ?_
  refine bx_astore_n dX7_unlike_6 rfl (by decide) rfl ?_
  refine bx_aload_n dX7_unlike_7 rfl ?_
  refine bx_alnq dX7_unlike_8 hT.2.1 (by decide) ?_
  refine bx_istore_n dX7_unlike_9 rfl (by decide) rfl ?_
  refine bx_iconst dX7_unlike_10 ?_
  refine bx_istore dX7_unlike_11 rfl (by decide) rfl ?_
  refine kl_unlike hT hK ?_ (nC K) 0 0 (by omega) rfl
  refine bx_iload_n dX7_unlike_70 rfl ?_
  exact bx_iret dX7_unlike_71 rfl ⟨rfl, rfl, rfl⟩
end KB
