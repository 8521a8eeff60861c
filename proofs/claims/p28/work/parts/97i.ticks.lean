/-! THE KITE: ticks -/
theorem tikP_74 {K : Nat → Nat} {c i : Nat} (hi : i < 180) : tikP K c (74 + i) = if i < c then colT K i else K (74 + i) := by
  unfold tikP
  by_cases q : i < c
  · rw [if_pos (by omega), if_pos q, show 74 + i - 74 = i by omega]
  · rw [if_neg (by omega), if_neg q, if_neg (by omega)]
theorem tikP_254 {K : Nat → Nat} {c i : Nat} (hc : c ≤ 180) (hi : i < 180) : tikP K c (254 + i) = if i < c then wetT K i else K (254 + i) := by
  unfold tikP
  by_cases q : i < c
  · rw [if_neg (by omega), if_pos (by omega), if_pos q, show 254 + i - 254 = i by omega]
  · rw [if_neg (by omega), if_neg q, if_neg (by omega)]
theorem tikP_hi {K : Nat → Nat} {c j : Nat} (hc : c ≤ 180) (hj : 434 ≤ j) : tikP K c j = K j := by
  unfold tikP; rw [if_neg (by omega), if_neg (by omega)]
theorem wetT_le {K : Nat → Nat} (hK : KI K) {i : Nat} (hi : i < 180) : wetT K i ≤ 9 := by
  have := hwT_le hK hi
  rw [wetT_hw]; omega
theorem KI.tp {K : Nat → Nat} (hK : KI K) {c : Nat} (hc : c ≤ nC K) : KI (tikP K c) := by
  have hn := nC_le hK
  refine hK.of (fun j hj _ => tikP_lo hj) (fun j hj => tikP_hi (by omega) (by omega)) (fun i hi => ?_) (fun i hi => ?_) (fun i hi => ?_) (fun i hi hx => ?_)
  · rw [tikP_74 hi]; split
    · exact colT_le hK hi
    · exact hK.2.2.2.2.1 i hi
  · rw [tikP_254 (by omega) hi]; split
    · exact wetT_le hK hi
    · exact hK.2.2.2.2.2.1 i hi
  · rw [tikP_hi (by omega) (by omega)]; exact hK.2.2.2.2.2.2.1 i hi
  · have z := (hK.2.2.2.2.2.2.2.1 i hi).resolve_left hx
    by_cases q : i < c
    · have ho : on K i = false := by
        cases e : on K i with
        | false => rfl
        | true => exact absurd ⟨by omega, e⟩ hx
      have hb := blT_off ho
      rw [tikP_74 hi, if_pos q, tikP_254 (by omega) hi, if_pos q, tikP_hi (by omega) (by omega)]
      unfold colT wetT
      rw [if_neg (by omega), if_neg (by omega)]
      omega
    · rw [tikP_74 hi, if_neg q, tikP_254 (by omega) hi, if_neg q, tikP_hi (by omega) (by omega)]
      exact z
theorem tikP_off {K : Nat → Nat} (hK : KI K) {i : Nat} (hi : i < nC K) (ho : ¬ on K i = true) : tikP K (i + 1) = tikP K i := by
  have hn := nC_le hK
  have z := (hK.2.2.2.2.2.2.2.1 i (by omega)).resolve_left (fun z => ho z.2)
  have hb : blT K i = -1 := by unfold blT; rw [if_neg ho]
  have e1 : colT K i = K (74 + i) := by unfold colT; rw [if_neg (by omega)]
  have e2 : wetT K i = K (254 + i) := by unfold wetT; rw [if_neg (by omega)]; omega
  funext j
  by_cases a : 74 ≤ j ∧ j < 254
  · obtain ⟨x, rfl⟩ : ∃ x, j = 74 + x := ⟨j - 74, by omega⟩
    rw [tikP_74 (by omega), tikP_74 (by omega)]
    by_cases q : x = i
    · subst q; rw [if_pos (by omega), if_neg (by omega), e1]
    · by_cases y : x < i
      · rw [if_pos (by omega), if_pos y]
      · rw [if_neg (by omega), if_neg y]
  · by_cases b : 254 ≤ j ∧ j < 434
    · obtain ⟨x, rfl⟩ : ∃ x, j = 254 + x := ⟨j - 254, by omega⟩
      rw [tikP_254 (by omega) (by omega), tikP_254 (by omega) (by omega)]
      by_cases q : x = i
      · subst q; rw [if_pos (by omega), if_neg (by omega), e2]
      · by_cases y : x < i
        · rw [if_pos (by omega), if_pos y]
        · rw [if_neg (by omega), if_neg y]
    · unfold tikP
      rw [if_neg (by omega), if_neg (by omega), if_neg (by omega), if_neg (by omega)]
theorem tikP_ne {K : Nat → Nat} {i j : Nat} (hi : i < 180) (hj : j < 180) (hne : j ≠ i) : tikP K (i + 1) (74 + j) = tikP K i (74 + j) ∧ tikP K (i + 1) (254 + j) = tikP K i (254 + j) ∧ tikP K (i + 1) (434 + j) = tikP K i (434 + j) := by
  rw [tikP_74 hj, tikP_74 hj, tikP_254 (by omega) hj, tikP_254 (by omega) hj, tikP_hi (by omega) (by omega), tikP_hi (by omega) (by omega)]
  by_cases y : j < i
  · rw [if_pos (by omega), if_pos y, if_pos (by omega), if_pos y]; exact ⟨rfl, rfl, rfl⟩
  · rw [if_neg (by omega), if_neg y, if_neg (by omega), if_neg y]; exact ⟨rfl, rfl, rfl⟩
theorem blC_on {K : Nat → Nat} (hK : KI K) {cc d : Nat} (hc : cc < nC K) (h : blC K cc = (d : Int)) : d < nC K ∧ on K d = true := by
  unfold blC blN at h
  split at h
  · omega
  · split at h
    · omega
    · rw [← bst_src hK hc] at h
      exact bst_on (nC K) d h
theorem KT.time {h : hg} {k w m p cl : Nat} {ce K : Nat → Nat} (hK : KI K) (hT : KT h k w m p cl ce (tikP K (nC K))) : KT (up h k (.inr (7, [.int (I (K 0)), .int (I (K 1)), .int (I ((K 2 : Int) + 1)), .int (I (K 3)), .int (I (K 4)), .ref w, .ref m, .ref p, .ref cl]))) k w m p cl ce (tikN K) := by
  have hn := nC_le hK
  have g1 : geo K (tikP K (nC K)) := geo.of (fun j hj => tikP_lo hj)
  have lo : ∀ j, j < 74 → j ≠ 2 → tikN K j = K j := fun j h1 h2 => by unfold tikN; rw [if_neg h2, if_neg (by omega), if_neg (by omega)]
  have g2 : geo K (tikN K) := ⟨lo 0 (by omega) (by omega), lo 1 (by omega) (by omega), fun y hy => lo _ (by omega) (by omega)⟩
  have kc := hT.kc
  refine ⟨?_, ?_, fun i hi oi => ?_⟩
  · rw [ug_eq]
    unfold kiteF
    rw [lo 0 (by omega) (by omega), lo 1 (by omega) (by omega), lo 3 (by omega) (by omega), lo 4 (by omega) (by omega), show tikN K 2 = K 2 + 1 from if_pos rfl, Int.natCast_add]
    rfl
  · rw [g2.gn, ug_ne (Ne.symm kc)]
    have := hT.2.1
    rw [g1.gn] at this
    exact this.cong (fun i hi => by rw [g1.go hK hi, g2.go hK hi])
  · rw [g2.gn] at hi
    rw [g2.go hK hi] at oi
    have hi1 : i < nC (tikP K (nC K)) := by rw [g1.gn]; exact hi
    have oi1 : on (tikP K (nC K)) i = true := by rw [g1.go hK hi]; exact oi
    rw [ug_ne (hT.ck hi1 oi1), hT.2.2 i hi1 oi1]
    unfold cellF
    rw [g1.1, g2.1, tikP_74 (by omega), if_pos hi, tikP_254 (by omega) (by omega), if_pos hi, tikP_hi (by omega) (by omega)]
    have e1 : tikN K (74 + i) = colT K i := by unfold tikN; rw [if_neg (by omega), if_pos (by omega), show 74 + i - 74 = i by omega]
    have e2 : tikN K (254 + i) = wetT K i := by unfold tikN; rw [if_neg (by omega), if_neg (by omega), if_pos (by omega), show 254 + i - 254 = i by omega]
    have e3 : tikN K (434 + i) = K (434 + i) := by unfold tikN; rw [if_neg (by omega), if_neg (by omega), if_neg (by omega)]
    rw [e1, e2, e3]
theorem mix_tp {K : Nat → Nat} {c a b : Nat} (ha : a < 7) (hb : b < 7) : mixN (tikP K c) a b = mixN K a b := by
  unfold mixN
  rw [tikP_lo (show 25 + (a * 7 + b) < 74 by omega)]
section KI9
variable {ad : Nat → Nat} {sc : Nat × (Nat → Int32)} {u : hp} {h : hg} {Q : qg} {k w m p cl : Nat} {ce : Nat → Nat} {K : Nat → Nat} {c sl : Nat}
theorem up_self {h : hg} {a : Nat} {e : va_E} (ha : h a = some e) : up h a e = h := by
  funext b
  unfold up
  by_cases q : b = a
  · rw [if_pos q, q, ha]
  · rw [if_neg q]
theorem mixN_le {K : Nat → Nat} (hK : KI K) {a b : Nat} (ha : a < 7) (hb : b < 7) : mixN K a b ≤ 6 := by
  have h6 := hK.2.2.2.1 (a * 7 + b) (by omega)
  unfold mixN
  split
  · omega
  · split <;> omega
theorem kl_ticks {k2 cl2 : Nat} {ce2 : Nat → Nat} {h0 hA : hg} (hK : KI K) (hT0 : KT h0 k w m p cl ce K) (hR : SHR hA w m p K) (hTA : KT hA k w m p cl ce K) (hT2 : KT hA k2 w m p cl2 ce2 K) (n2 : h0 k2 = none) (n3 : h0 cl2 = none) (n4 : ∀ j, j < nC K → on K j = true → h0 (ce2 j) = none) (kk : ∀ h1, KT h1 k w m p cl ce (tikP K (nC K)) → FRM hA h1 (mutD K k ce) → Gx ad sc M_X7_ticks 155 [.ref k, .ref k2, .int (I (bleC K)), .ref cl, .int (I (nC K : Int)), .int (I (nC K : Int)), uk, uk, uk] [] c sl u h1 Q) : ∀ (n i : Nat) (h1 : hg) (acc : Int), i + n = nC K → acc = si (cfB K) i → KT h1 k w m p cl ce (tikP K i) → FRM hA h1 (mutD K k ce) → Gx ad sc M_X7_ticks 19 [.ref k, .ref k2, .int (I (acc)), .ref cl, .int (I (nC K : Int)), .int (I (i : Int)), uk, uk, uk] [] c sl u h1 Q := by
  have hn9 := nC_le hK
  have k0 := hK.1
  have nm : ∀ {b}, h0 b = none → ¬ mutD K k ce b := fun {b} hb hd => by
    rcases hd with rfl | ⟨i, h1, h2, rfl⟩
    · rw [hT0.1] at hb; cases hb
    · rw [hT0.2.2 i h1 h2] at hb; cases hb
  intro n
  induction n with
  | zero =>
    intro i h1 acc hi ha hT hF
    have hg : geo K (tikP K i) := geo.of (fun j hj => tikP_lo hj)
    have hcl := hT.2.1
    rw [hg.gn] at hcl
    refine bx_iload dX7_ticks_19 rfl ?_
    refine bx_iload dX7_ticks_21 rfl ?_
    refine bx_icmp_ge (tgt := 155) dX7_ticks_23 (by decide) (by omega) (by omega) (fun c23 => ?_) (fun c23 => ?_)
    · obtain rfl : i = nC K := by omega
      rw [ha]
      exact kk h1 hT hF
    · exfalso
      omega
  | succ n ih =>
    intro i h1 acc hi ha hT hF
    have hg : geo K (tikP K i) := geo.of (fun j hj => tikP_lo hj)
    have hcl := hT.2.1
    rw [hg.gn] at hcl
    have hKc := hK.tp (c := i) (by omega)
    have hb1 := blT_rg hK i
    have hR1 : SHR h1 w m p K := hR.frm hTA hF
    have h21 : KT h1 k2 w m p cl2 ce2 K := hT2.frm hF (nm n2) (nm n3) (fun j hj oj => nm (n4 j hj oj))
    by_cases hon : on K i = true
    · have hic : i < nC (tikP K i) := by rw [hg.gn]; omega
      have hio : on (tikP K i) i = true := by rw [hg.go hK (by omega)]; exact hon
      have hc := hT.2.2 i hic hio
      have ec : cellF (tikP K i) i = [.int (I ((i % K 0 : Nat) : Int)), .int (I ((i / K 0 : Nat) : Int)), .int (I (K (74 + i) : Int)), .int (I (K (254 + i) : Int)), .int (I (K (434 + i) : Int))] := by
        unfold cellF
        rw [tikP_lo (by omega), tikP_c (by omega), tikP_w (by omega), tikP_hi (by omega) (by omega)]
      rw [ec] at hc
      have kd := cd_eq (K := K) i
      have x1 := Nat.mod_lt i (show 0 < K 0 by omega)
      have y2 := div_12 hK (j := i) (by omega)
      have y1 : (0 : Int) ≤ ((i / K 0 : Nat) : Int) := Int.natCast_nonneg _
      have hat : atR K ce2 ((i % K 0 : Nat) : Int) ((i / K 0 : Nat) : Int) = some (ce2 i) := by
        unfold atR
        rw [show onZ K ((i % K 0 : Nat) : Int) ((i / K 0 : Nat) : Int) = true from hon, if_pos rfl, Int.toNat_natCast, Int.toNat_natCast, kd]
      have hc2 := h21.2.2 i (by omega) hon
      have hbT : blT K i = blC K i := if_pos hon
      have c5 := hK.2.2.2.2.1 i (by omega)
      have c6 := hK.2.2.2.2.2.1 i (by omega)
      have hlist : ∀ {a b : Int}, a = (colT K i : Int) → b = (wetT K i : Int) → ([.int (I ((i % K 0 : Nat) : Int)), .int (I ((i / K 0 : Nat) : Int)), .int (I a), .int (I b), .int (I (K (434 + i) : Int))] : List Value) = cellF (tikP K (i + 1)) i := fun e1 e2 => by
        unfold cellF
        rw [e1, e2, tikP_lo (by omega), tikP_74 (by omega), if_pos (by omega), tikP_254 (by omega) (by omega), if_pos (by omega), tikP_hi (by omega) (by omega)]
      have hset : ∀ {fs : List Value}, fs = cellF (tikP K (i + 1)) i → KT (up h1 (ce i) (.inr (6, fs))) k w m p cl ce (tikP K (i + 1)) ∧ FRM hA (up h1 (ce i) (.inr (6, fs))) (mutD K k ce) := fun hfs => ⟨hT.set hKc hic hio (geo.of (fun j hj => by rw [tikP_lo hj, tikP_lo hj])) ⟨by rw [tikP_lo (by omega), tikP_lo (by omega)], by rw [tikP_lo (by omega), tikP_lo (by omega)], by rw [tikP_lo (by omega), tikP_lo (by omega)]⟩ (fun j hj hne => tikP_ne (by omega) (by rw [hg.gn] at hj; omega) hne) hfs, hF.tr (FRM.u1 (mutD.c (by omega) hon))⟩
      by_cases hbl : 0 ≤ blC K i
      · obtain ⟨d, hd⟩ : ∃ d : Nat, blC K i = (d : Int) := ⟨(blC K i).toNat, by omega⟩
        obtain ⟨hd1, hd2⟩ := blC_on hK (by omega) hd
        have hs := h21.2.2 d hd1 hd2
        have d5 := hK.2.2.2.2.1 d (by omega)
        have d6 := hK.2.2.2.2.2.1 d (by omega)
        have hdn : (blT K i).toNat = d := by rw [hbT, hd, Int.toNat_natCast]
        have m1 := mixN_le hK (a := K (74 + i)) (b := K (74 + d)) (by omega) (by omega)
        have dcs : ce2 d ≠ ce i := fun z => nm (n4 d hd1 hd2) (by rw [z]; exact mutD.c (by omega) hon)
        refine bx_iload dX7_ticks_19 rfl ?_
        refine bx_iload dX7_ticks_21 rfl ?_
        refine bx_icmp_ge (tgt := 155) dX7_ticks_23 (by decide) (by omega) (by omega) (fun c23 => ?_) (fun c23 => ?_)
        · exfalso
          omega
        · refine bx_aload_n dX7_ticks_26 rfl ?_
          refine bx_iload dX7_ticks_27 rfl ?_
          refine bx_aals (j := i) (q := ce i) dX7_ticks_29 hcl (by decide) rfl (by omega) (by omega) (if_pos (by rw [hg.go hK (by omega)]; exact hon)) ?_
          refine bx_astore dX7_ticks_30 rfl (by decide) rfl ?_
          refine bx_aload dX7_ticks_32 rfl ?_
          refine gx_nonnull (tgt := 40) dX7_ticks_34 (by decide) ?_
          refine bx_aload_n dX7_ticks_40 rfl ?_
          refine bx_aload_n dX7_ticks_41 rfl ?_
          refine bx_aload dX7_ticks_42 rfl ?_
          refine bx_getf dX7_ticks_44 ck6 fg_KitePainterLaw_Kite_63 (by decide) hc rfl ?_
          refine bx_aload dX7_ticks_47 rfl ?_
          refine bx_getf dX7_ticks_49 ck6 fg_KitePainterLaw_Kite_60 (by decide) hc rfl ?_
          refine bx_cvP2 dX7_ticks_52 ln_X7_ticks_66 (Nat.le_of_ble_eq_true rfl) (by decide) h21.1 rfl (by have := kt_at h21 hK (ad := ad) (sc := sc) (u := u) (c := 0) (sl := 0) (x := ((i % K 0 : Nat) : Int)) (y := ((i / K 0 : Nat) : Int)) (by omega) (by omega); rw [hat] at this; exact this) ?_
          refine bx_cvP1 dX7_ticks_55 ln_X7_ticks_102 (Nat.le_of_ble_eq_true rfl) (by decide) h21.1 rfl (kt_bleeds h21 hK hc2 (by omega) hon) ?_
          refine bx_istore dX7_ticks_58 rfl (by decide) rfl ?_
          refine bx_iload dX7_ticks_60 rfl ?_
          refine bx_if_lt (tgt := 130) dX7_ticks_62 (by decide) (by omega) (fun c62 => ?_) (fun c62 => ?_)
          · exfalso
            omega
          · refine bx_aload_n dX7_ticks_65 rfl ?_
            refine bx_getf dX7_ticks_66 ck7 fg_KitePainterLaw_Kite_39 (by decide) h21.1 rfl ?_
            refine bx_iload dX7_ticks_69 rfl ?_
            refine bx_aals (j := d) (q := ce2 d) dX7_ticks_71 h21.2.1 (by decide) hd hd1 (by omega) (if_pos hd2) ?_
            refine bx_astore dX7_ticks_72 rfl (by decide) rfl ?_
            refine bx_aload dX7_ticks_74 rfl ?_
            refine bx_aload dX7_ticks_76 rfl ?_
            refine bx_getf dX7_ticks_78 ck6 fg_KitePainterLaw_Kite_74 (by decide) hc rfl ?_
            refine bx_if_ne (tgt := 92) dX7_ticks_81 (by decide) (by omega) (fun q81 => ?_) (fun q81 => ?_)
            · refine bx_aload_n dX7_ticks_92 rfl ?_
              refine bx_aload dX7_ticks_93 rfl ?_
              refine bx_getf dX7_ticks_95 ck6 fg_KitePainterLaw_Kite_74 (by decide) hc rfl ?_
              refine bx_aload dX7_ticks_98 rfl ?_
              refine bx_getf dX7_ticks_100 ck6 fg_KitePainterLaw_Kite_74 (by decide) hs rfl ?_
              refine bx_cvP2 dX7_ticks_103 ln_X7_ticks_105 (Nat.le_of_ble_eq_true rfl) (by decide) hT.1 rfl (by have := kt_mix hT hKc (ad := ad) (sc := sc) (u := u) (c := 0) (sl := 0) (hR1.rk (fun j h1 h2 => tikP_lo h2) (tikP_lo (by omega)) (fun j hj => tikP_hi (by omega) (by omega))) (a := K (74 + i)) (b := K (74 + d)) (by omega) (by omega); rw [mix_tp (by omega) (by omega)] at this; exact this) ?_
              refine bx_putf dX7_ticks_106 ck6 fg_KitePainterLaw_Kite_74 (by decide) hc rfl ⟨rfl, rfl⟩ (Nat.le_of_ble_eq_true rfl) rfl ?_
              refine bx_aload dX7_ticks_109 rfl ?_
              refine bx_aload dX7_ticks_111 rfl ?_
              refine bx_getf dX7_ticks_113 ck6 fg_KitePainterLaw_Kite_93 (by decide) ug_eq rfl ?_
              refine bx_aload dX7_ticks_116 rfl ?_
              refine bx_getf dX7_ticks_118 ck6 fg_KitePainterLaw_Kite_93 (by decide) ((ug_ne dcs).trans hs) rfl ?_
              refine bx_iadd dX7_ticks_121 ?_
              refine bx_iconst dX7_ticks_122 ?_
              refine bx_idiv dX7_ticks_123 (by omega) (by omega) ?_
              refine bx_putf dX7_ticks_124 ck6 fg_KitePainterLaw_Kite_93 (by decide) ug_eq rfl ⟨rfl, rfl⟩ (Nat.le_of_ble_eq_true rfl) rfl ?_
              rw [up_up]
              refine bx_iinc dX7_ticks_127 rfl rfl (by decide) rfl ?_
              refine bx_aload dX7_ticks_130 rfl ?_
              refine bx_getf dX7_ticks_132 ck6 fg_KitePainterLaw_Kite_93 (by decide) ug_eq rfl ?_
              refine bx_if_le (tgt := 149) dX7_ticks_135 (by decide) (by omega) (fun q135 => ?_) (fun q135 => ?_)
              · refine bx_iinc dX7_ticks_149 rfl rfl (by decide) rfl ?_
                refine bx_goto (tgt := 19) dX7_ticks_152 (by decide) ?_
                refine gx_forg (i := 8) ?_
                refine gx_forg (i := 7) ?_
                refine gx_forg (i := 6) ?_
                refine ih (i + 1) _ _ (by omega) (by rw [si_succ, ← ha]; unfold cfB; rw [if_pos (by omega)]) ?_ ?_
                · exact (hset (hlist (by unfold colT; rw [if_pos (by omega), hdn]; first | rw [if_pos (by omega)] | rw [if_neg (by omega)]) (by unfold wetT; rw [if_pos (by omega)]; unfold halT; rw [hdn]; omega))).1
                · exact (hset (hlist (by unfold colT; rw [if_pos (by omega), hdn]; first | rw [if_pos (by omega)] | rw [if_neg (by omega)]) (by unfold wetT; rw [if_pos (by omega)]; unfold halT; rw [hdn]; omega))).2
              · refine bx_aload dX7_ticks_138 rfl ?_
                refine bx_dup dX7_ticks_140 rfl ?_
                refine bx_getf dX7_ticks_141 ck6 fg_KitePainterLaw_Kite_93 (by decide) ug_eq rfl ?_
                refine bx_iconst dX7_ticks_144 ?_
                refine bx_isub dX7_ticks_145 ?_
                refine bx_putf dX7_ticks_146 ck6 fg_KitePainterLaw_Kite_93 (by decide) ug_eq rfl ⟨rfl, rfl⟩ (Nat.le_of_ble_eq_true rfl) rfl ?_
                rw [up_up]
                refine bx_iinc dX7_ticks_149 rfl rfl (by decide) rfl ?_
                refine bx_goto (tgt := 19) dX7_ticks_152 (by decide) ?_
                refine gx_forg (i := 8) ?_
                refine gx_forg (i := 7) ?_
                refine gx_forg (i := 6) ?_
                refine ih (i + 1) _ _ (by omega) (by rw [si_succ, ← ha]; unfold cfB; rw [if_pos (by omega)]) ?_ ?_
                · exact (hset (hlist (by unfold colT; rw [if_pos (by omega), hdn]; first | rw [if_pos (by omega)] | rw [if_neg (by omega)]) (by unfold wetT; rw [if_pos (by omega)]; unfold halT; rw [hdn]; omega))).1
                · exact (hset (hlist (by unfold colT; rw [if_pos (by omega), hdn]; first | rw [if_pos (by omega)] | rw [if_neg (by omega)]) (by unfold wetT; rw [if_pos (by omega)]; unfold halT; rw [hdn]; omega))).2
            · refine bx_aload dX7_ticks_84 rfl ?_
              refine bx_getf dX7_ticks_86 ck6 fg_KitePainterLaw_Kite_74 (by decide) hs rfl ?_
              refine bx_goto (tgt := 106) dX7_ticks_89 (by decide) ?_
              refine bx_putf dX7_ticks_106 ck6 fg_KitePainterLaw_Kite_74 (by decide) hc rfl ⟨rfl, rfl⟩ (Nat.le_of_ble_eq_true rfl) rfl ?_
              refine bx_aload dX7_ticks_109 rfl ?_
              refine bx_aload dX7_ticks_111 rfl ?_
              refine bx_getf dX7_ticks_113 ck6 fg_KitePainterLaw_Kite_93 (by decide) ug_eq rfl ?_
              refine bx_aload dX7_ticks_116 rfl ?_
              refine bx_getf dX7_ticks_118 ck6 fg_KitePainterLaw_Kite_93 (by decide) ((ug_ne dcs).trans hs) rfl ?_
              refine bx_iadd dX7_ticks_121 ?_
              refine bx_iconst dX7_ticks_122 ?_
              refine bx_idiv dX7_ticks_123 (by omega) (by omega) ?_
              refine bx_putf dX7_ticks_124 ck6 fg_KitePainterLaw_Kite_93 (by decide) ug_eq rfl ⟨rfl, rfl⟩ (Nat.le_of_ble_eq_true rfl) rfl ?_
              rw [up_up]
              refine bx_iinc dX7_ticks_127 rfl rfl (by decide) rfl ?_
              refine bx_aload dX7_ticks_130 rfl ?_
              refine bx_getf dX7_ticks_132 ck6 fg_KitePainterLaw_Kite_93 (by decide) ug_eq rfl ?_
              refine bx_if_le (tgt := 149) dX7_ticks_135 (by decide) (by omega) (fun q135 => ?_) (fun q135 => ?_)
              · refine bx_iinc dX7_ticks_149 rfl rfl (by decide) rfl ?_
                refine bx_goto (tgt := 19) dX7_ticks_152 (by decide) ?_
                refine gx_forg (i := 8) ?_
                refine gx_forg (i := 7) ?_
                refine gx_forg (i := 6) ?_
                refine ih (i + 1) _ _ (by omega) (by rw [si_succ, ← ha]; unfold cfB; rw [if_pos (by omega)]) ?_ ?_
                · exact (hset (hlist (by unfold colT; rw [if_pos (by omega), hdn]; first | rw [if_pos (by omega)] | rw [if_neg (by omega)]) (by unfold wetT; rw [if_pos (by omega)]; unfold halT; rw [hdn]; omega))).1
                · exact (hset (hlist (by unfold colT; rw [if_pos (by omega), hdn]; first | rw [if_pos (by omega)] | rw [if_neg (by omega)]) (by unfold wetT; rw [if_pos (by omega)]; unfold halT; rw [hdn]; omega))).2
              · refine bx_aload dX7_ticks_138 rfl ?_
                refine bx_dup dX7_ticks_140 rfl ?_
                refine bx_getf dX7_ticks_141 ck6 fg_KitePainterLaw_Kite_93 (by decide) ug_eq rfl ?_
                refine bx_iconst dX7_ticks_144 ?_
                refine bx_isub dX7_ticks_145 ?_
                refine bx_putf dX7_ticks_146 ck6 fg_KitePainterLaw_Kite_93 (by decide) ug_eq rfl ⟨rfl, rfl⟩ (Nat.le_of_ble_eq_true rfl) rfl ?_
                rw [up_up]
                refine bx_iinc dX7_ticks_149 rfl rfl (by decide) rfl ?_
                refine bx_goto (tgt := 19) dX7_ticks_152 (by decide) ?_
                refine gx_forg (i := 8) ?_
                refine gx_forg (i := 7) ?_
                refine gx_forg (i := 6) ?_
                refine ih (i + 1) _ _ (by omega) (by rw [si_succ, ← ha]; unfold cfB; rw [if_pos (by omega)]) ?_ ?_
                · exact (hset (hlist (by unfold colT; rw [if_pos (by omega), hdn]; first | rw [if_pos (by omega)] | rw [if_neg (by omega)]) (by unfold wetT; rw [if_pos (by omega)]; unfold halT; rw [hdn]; omega))).1
                · exact (hset (hlist (by unfold colT; rw [if_pos (by omega), hdn]; first | rw [if_pos (by omega)] | rw [if_neg (by omega)]) (by unfold wetT; rw [if_pos (by omega)]; unfold halT; rw [hdn]; omega))).2
      · skip
        refine bx_iload dX7_ticks_19 rfl ?_
        refine bx_iload dX7_ticks_21 rfl ?_
        refine bx_icmp_ge (tgt := 155) dX7_ticks_23 (by decide) (by omega) (by omega) (fun c23 => ?_) (fun c23 => ?_)
        · exfalso
          omega
        · refine bx_aload_n dX7_ticks_26 rfl ?_
          refine bx_iload dX7_ticks_27 rfl ?_
          refine bx_aals (j := i) (q := ce i) dX7_ticks_29 hcl (by decide) rfl (by omega) (by omega) (if_pos (by rw [hg.go hK (by omega)]; exact hon)) ?_
          refine bx_astore dX7_ticks_30 rfl (by decide) rfl ?_
          refine bx_aload dX7_ticks_32 rfl ?_
          refine gx_nonnull (tgt := 40) dX7_ticks_34 (by decide) ?_
          refine bx_aload_n dX7_ticks_40 rfl ?_
          refine bx_aload_n dX7_ticks_41 rfl ?_
          refine bx_aload dX7_ticks_42 rfl ?_
          refine bx_getf dX7_ticks_44 ck6 fg_KitePainterLaw_Kite_63 (by decide) hc rfl ?_
          refine bx_aload dX7_ticks_47 rfl ?_
          refine bx_getf dX7_ticks_49 ck6 fg_KitePainterLaw_Kite_60 (by decide) hc rfl ?_
          refine bx_cvP2 dX7_ticks_52 ln_X7_ticks_66 (Nat.le_of_ble_eq_true rfl) (by decide) h21.1 rfl (by have := kt_at h21 hK (ad := ad) (sc := sc) (u := u) (c := 0) (sl := 0) (x := ((i % K 0 : Nat) : Int)) (y := ((i / K 0 : Nat) : Int)) (by omega) (by omega); rw [hat] at this; exact this) ?_
          refine bx_cvP1 dX7_ticks_55 ln_X7_ticks_102 (Nat.le_of_ble_eq_true rfl) (by decide) h21.1 rfl (kt_bleeds h21 hK hc2 (by omega) hon) ?_
          refine bx_istore dX7_ticks_58 rfl (by decide) rfl ?_
          refine bx_iload dX7_ticks_60 rfl ?_
          refine bx_if_lt (tgt := 130) dX7_ticks_62 (by decide) (by omega) (fun c62 => ?_) (fun c62 => ?_)
          · refine bx_aload dX7_ticks_130 rfl ?_
            refine bx_getf dX7_ticks_132 ck6 fg_KitePainterLaw_Kite_93 (by decide) hc rfl ?_
            refine bx_if_le (tgt := 149) dX7_ticks_135 (by decide) (by omega) (fun q135 => ?_) (fun q135 => ?_)
            · refine bx_iinc dX7_ticks_149 rfl rfl (by decide) rfl ?_
              refine bx_goto (tgt := 19) dX7_ticks_152 (by decide) ?_
              first
                | (refine gx_forg (i := 8) ?_; refine gx_forg (i := 7) ?_; refine gx_forg (i := 6) ?_; exact ih (i + 1) _ _ (by omega) (by rw [si_succ, ← ha]; unfold cfB; rw [if_neg (by omega)]; omega) (hset (hlist (by unfold colT; rw [if_neg (by omega)]) (by unfold wetT; rw [if_neg (by omega)]; omega))).1 (hset (hlist (by unfold colT; rw [if_neg (by omega)]) (by unfold wetT; rw [if_neg (by omega)]; omega))).2)
                | (refine gx_forg (i := 8) ?_; refine gx_forg (i := 7) ?_; refine gx_forg (i := 6) ?_; have z9 := hset (hlist (a := (K (74 + i) : Int)) (b := (K (254 + i) : Int)) (by unfold colT; rw [if_neg (by omega)]) (by unfold wetT; rw [if_neg (by omega)]; omega)); have e9 : up h1 (ce i) (.inr (6, ([.int (I ((i % K 0 : Nat) : Int)), .int (I ((i / K 0 : Nat) : Int)), .int (I (K (74 + i) : Int)), .int (I (K (254 + i) : Int)), .int (I (K (434 + i) : Int))] : List Value))) = h1 := up_self hc; rw [e9] at z9; exact ih (i + 1) _ _ (by omega) (by rw [si_succ, ← ha]; unfold cfB; rw [if_neg (by omega)]; omega) z9.1 z9.2)
            · refine bx_aload dX7_ticks_138 rfl ?_
              refine bx_dup dX7_ticks_140 rfl ?_
              refine bx_getf dX7_ticks_141 ck6 fg_KitePainterLaw_Kite_93 (by decide) hc rfl ?_
              refine bx_iconst dX7_ticks_144 ?_
              refine bx_isub dX7_ticks_145 ?_
              refine bx_putf dX7_ticks_146 ck6 fg_KitePainterLaw_Kite_93 (by decide) hc rfl ⟨rfl, rfl⟩ (Nat.le_of_ble_eq_true rfl) rfl ?_
              refine bx_iinc dX7_ticks_149 rfl rfl (by decide) rfl ?_
              refine bx_goto (tgt := 19) dX7_ticks_152 (by decide) ?_
              first
                | (refine gx_forg (i := 8) ?_; refine gx_forg (i := 7) ?_; refine gx_forg (i := 6) ?_; exact ih (i + 1) _ _ (by omega) (by rw [si_succ, ← ha]; unfold cfB; rw [if_neg (by omega)]; omega) (hset (hlist (by unfold colT; rw [if_neg (by omega)]) (by unfold wetT; rw [if_neg (by omega)]; omega))).1 (hset (hlist (by unfold colT; rw [if_neg (by omega)]) (by unfold wetT; rw [if_neg (by omega)]; omega))).2)
                | (refine gx_forg (i := 8) ?_; refine gx_forg (i := 7) ?_; refine gx_forg (i := 6) ?_; have z9 := hset (hlist (a := (K (74 + i) : Int)) (b := (K (254 + i) : Int)) (by unfold colT; rw [if_neg (by omega)]) (by unfold wetT; rw [if_neg (by omega)]; omega)); have e9 : up h1 (ce i) (.inr (6, ([.int (I ((i % K 0 : Nat) : Int)), .int (I ((i / K 0 : Nat) : Int)), .int (I (K (74 + i) : Int)), .int (I (K (254 + i) : Int)), .int (I (K (434 + i) : Int))] : List Value))) = h1 := up_self hc; rw [e9] at z9; exact ih (i + 1) _ _ (by omega) (by rw [si_succ, ← ha]; unfold cfB; rw [if_neg (by omega)]; omega) z9.1 z9.2)
          · exfalso
            omega
    · skip
      refine bx_iload dX7_ticks_19 rfl ?_
      refine bx_iload dX7_ticks_21 rfl ?_
      refine bx_icmp_ge (tgt := 155) dX7_ticks_23 (by decide) (by omega) (by omega) (fun c23 => ?_) (fun c23 => ?_)
      · exfalso
        omega
      · refine bx_aload_n dX7_ticks_26 rfl ?_
        refine bx_iload dX7_ticks_27 rfl ?_
        refine bx_aaln (j := i) dX7_ticks_29 hcl (by decide) rfl (by omega) (by omega) (if_neg (by rw [hg.go hK (by omega)]; exact hon)) ?_
        refine bx_astoreN dX7_ticks_30 rfl (by decide) rfl ?_
        refine gx_aloadN rfl dX7_ticks_32 ?_
        refine gx_nonnullN dX7_ticks_34 ?_
        refine bx_goto (tgt := 149) dX7_ticks_37 (by decide) ?_
        refine bx_iinc dX7_ticks_149 rfl rfl (by decide) rfl ?_
        refine bx_goto (tgt := 19) dX7_ticks_152 (by decide) ?_
        refine gx_forg (i := 6) ?_
        exact ih (i + 1) h1 acc (by omega) (by rw [si_succ, ← ha]; unfold cfB; rw [if_neg (by rw [show blT K i = -1 from if_neg hon]; decide)]; omega) (by rw [tikP_off hK (by omega) hon]; exact hT) hF
theorem kt_ticks (hT : KT h k w m p cl ce K) (hK : KI K) (hR : SHR h w m p K) : Gl ad sc 200 1200 M_X7_ticks [.ref k] u h (fun v u1 h1 => v = .int (I (bleC K)) ∧ u1 = u ∧ KT h1 k w m p cl ce (tikN K) ∧ FRM h h1 (mutD K k ce)) := by
  have hn9 := nC_le hK
  have k0 := hK.1
  refine bx_aload_n dX7_ticks_0 rfl ?_
  refine bx_cv0 dX7_ticks_1 ln_X7_ticks_99 (Nat.le_of_ble_eq_true rfl) (by decide) hT.1 rfl (Nat.le_refl _) (Nat.le_refl _) (kt_copy hT hK) (fun v9 u9 h9 hq9 => ?_)
  obtain ⟨rfl, k2, cl2, ce2, rfl, hk2, hL2⟩ := hq9
  have F1 := hL2.frm0 hk2
  have hT2 := hL2.kt
  obtain ⟨n3, n4⟩ := hL2.new
  have hTA : KT h9 k w m p cl ce K := hT.frm F1 (fun z => z) (fun z => z) (fun _ _ _ z => z)
  have hRA : SHR h9 w m p K := hR.kp (fun b e hb _ => F1 b e hb (fun z => z))
  have hz0 : tikP K 0 = K := by funext j; unfold tikP; rw [if_neg (by omega), if_neg (by omega)]
  refine bx_astore_n dX7_ticks_4 rfl (by decide) rfl ?_
  refine bx_iconst dX7_ticks_5 ?_
  refine bx_istore_n dX7_ticks_6 rfl (by decide) rfl ?_
  refine bx_aload_n dX7_ticks_7 rfl ?_
  refine bx_getf dX7_ticks_8 ck7 fg_KitePainterLaw_Kite_39 (by decide) hTA.1 rfl ?_
  refine bx_astore_n dX7_ticks_11 rfl (by decide) rfl ?_
  refine bx_aload_n dX7_ticks_12 rfl ?_
  refine bx_alnq dX7_ticks_13 hTA.2.1 (by decide) ?_
  refine bx_istore dX7_ticks_14 rfl (by decide) rfl ?_
  refine bx_iconst dX7_ticks_16 ?_
  refine bx_istore dX7_ticks_17 rfl (by decide) rfl ?_
  refine kl_ticks hK hT hRA hTA hT2 hk2 n3 n4 (fun h1 hT3 F3 => ?_) (nC K) 0 h9 0 (by omega) rfl (by rw [hz0]; exact hTA) FRM.rf
  have hkf : h1 k = some (.inr (7, [.int (I (K 0)), .int (I (K 1)), .int (I (K 2)), .int (I (K 3)), .int (I (K 4)), .ref w, .ref m, .ref p, .ref cl])) := by
    have := hT3.1
    unfold kiteF at this
    rw [tikP_lo (by omega), tikP_lo (by omega), tikP_lo (by omega), tikP_lo (by omega), tikP_lo (by omega)] at this
    exact this
  refine bx_aload_n dX7_ticks_155 rfl ?_
  refine bx_dup dX7_ticks_156 rfl ?_
  refine bx_getf dX7_ticks_157 ck7 fg_KitePainterLaw_Kite_53 (by decide) hkf rfl ?_
  refine bx_iconst dX7_ticks_160 ?_
  refine bx_iadd dX7_ticks_161 ?_
  refine bx_putf dX7_ticks_162 ck7 fg_KitePainterLaw_Kite_53 (by decide) hkf rfl ⟨rfl, rfl⟩ (Nat.le_of_ble_eq_true rfl) rfl ?_
  refine bx_iload_n dX7_ticks_165 rfl ?_
  exact bx_iret dX7_ticks_166 rfl ⟨rfl, rfl, KT.time hK hT3, fun b e hb hd => by rw [ug_ne (fun z => hd (Or.inl z))]; exact F3 b e (F1 b e hb (fun z => z)) hd⟩
end KI9
