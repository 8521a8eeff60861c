/-! THE KITE: stamps -/
theorem stQ_geo {O K : Nat → Nat} {p : Nat} {x y : Int} {mi : Bool} {l d : Nat} : geo K (stQ O p x y mi l d K) := by
  unfold stQ
  split
  · exact geo.rf
  · exact geo.of (fun j hj => putC_0 hj)
theorem stD_geo {O K : Nat → Nat} {p : Nat} {x y : Int} {mi : Bool} {l : Nat} : ∀ d, geo K (stD O p x y mi l K d)
  | 0 => geo.rf
  | d + 1 => (stD_geo d).tr stQ_geo
theorem stL_geo {O : Nat → Nat} {p : Nat} {x y : Int} {mi : Bool} : ∀ l, geo O (stL O p x y mi l)
  | 0 => geo.rf
  | l + 1 => (stL_geo l).tr (stD_geo _)
section KJ
variable {ad : Nat → Nat} {sc : Nat × (Nat → Int32)} {u : hp} {h : hg} {Q : qg} {k w m p cl : Nat} {ce : Nat → Nat} {K : Nat → Nat} {c sl : Nat}
theorem kt_paintsB (hT : KT h k w m p cl ce K) (hK : KI K) {i c9 w9 : Nat} {mi : Bool} (hi : i < nC K) (hon : on K i = true) (hc9 : c9 ≤ 6) (hw9 : w9 ≤ 9) : Gl ad sc c sl (M_X7_paints 1) [.ref k, .ref (ce i), .int (I (c9 : Int)), .int (I (w9 : Int)), .int (I (if mi = true then 1 else 0))] u h (fun v u1 h1 => u1 = u ∧ KT h1 k w m p cl ce (if mi = true then setC (setC K i c9 w9) (mirN K i) c9 w9 else setC K i c9 w9) ∧ FRM h h1 (mutD K k ce)) := by
  cases mi with
  | false => exact kt_paints0 hT hK hi hon
  | true => exact kt_paints1 (d := 0) hT hK hi hon hc9 hw9
theorem kl_stD {q pp : Nat} {x y : Int} {mi : Bool} {k2 : Nat} {O : Nat → Nat} {hA : hg} (hO : KI O) (hTA : KT hA k w m p cl ce O) (hpp : pp < 3) (hx : -1000 ≤ x ∧ x ≤ 1000) (hy : -1000 ≤ y ∧ y ≤ 1000) {st : Nat → Nat} (hq : rwQ 8 (hA q) (O (615 + 44 * pp)) (fun l => some (st l))) (hs : ∀ l, l < O (615 + 44 * pp) → STR hA (st l) (O (614 + 44 * pp)) (fun d => 48 + (O (616 + 44 * pp + (7 * l + d)) : Int))) {l : Nat} (hl : l < O (615 + 44 * pp)) {K : Nat → Nat} (hok : okO O K) (hgK : geo O K) (kk : ∀ h1, KT h1 k w m p cl ce (stD O pp x y mi l K (O (614 + 44 * pp))) → FRM hA h1 (mutD O k ce) → Gx ad sc M_X7_stamps 86 [.ref k, .ref q, .int (I x), .int (I y), .int (I (if mi = true then 1 else 0)), .ref k2, .int (I (l : Int)), uk, uk, uk] [] c sl u h1 Q) : ∀ (n d : Nat) (h1 : hg), d + n = O (614 + 44 * pp) → KT h1 k w m p cl ce (stD O pp x y mi l K d) → FRM hA h1 (mutD O k ce) → Gx ad sc M_X7_stamps 19 [.ref k, .ref q, .int (I x), .int (I y), .int (I (if mi = true then 1 else 0)), .ref k2, .int (I (l : Int)), .int (I (d : Int)), uk, uk] [] c sl u h1 Q := by
  obtain ⟨g1, g2, g3⟩ := hO.2.2.2.2.2.2.2.2 pp hpp
  obtain ⟨vs, hs9, hz9, es1, es2⟩ := hs l hl
  intro n
  induction n with
  | zero =>
    intro d h1 hd hT hF
    have rq := hq.fr hF (hq.nm hTA)
    have e1 : h1 (st l) = some (.inr (9, [.ref vs, .int (I 0), .int hs9, .int hz9])) := hF _ _ es1 (mut_str hTA es1)
    have e2 := es2.fr hF (es2.nm hTA)
    refine bx_iload dX7_stamps_19 rfl ?_
    refine bx_aload_n dX7_stamps_21 rfl ?_
    refine bx_iload dX7_stamps_22 rfl ?_
    refine bx_aals (j := l) (q := st l) dX7_stamps_24 rq (by decide) rfl hl (by omega) rfl ?_
    refine bx_cvP0 dX7_stamps_25 ln_X7_stamps_131 (Nat.le_of_ble_eq_true rfl) (by decide) e1 rfl (t_len e1 e2) ?_
    refine bx_icmp_ge (tgt := 86) dX7_stamps_28 (by decide) (by omega) (by omega) (fun c28 => ?_) (fun c28 => ?_)
    · obtain rfl : d = O (614 + 44 * pp) := by omega
      refine gx_forg (i := 7) ?_
      exact kk h1 hT hF
    · exfalso
      omega
  | succ n ih =>
    intro d h1 hd hT hF
    have rq := hq.fr hF (hq.nm hTA)
    have e1 : h1 (st l) = some (.inr (9, [.ref vs, .int (I 0), .int hs9, .int hz9])) := hF _ _ es1 (mut_str hTA es1)
    have e2 := es2.fr hF (es2.nm hTA)
    have hokd : okO O (stD O pp x y mi l K d) := okO.sd hO hok hpp (by omega) d (by omega)
    have hKd := hokd.1
    have hgd : geo O (stD O pp x y mi l K d) := hgK.tr (stD_geo d)
    have dg := g3 (7 * l + d) (by omega)
    have ntm : ∀ {b}, mutD (stD O pp x y mi l K d) k ce b → mutD O k ce b := fun hb => mutD.geo hO hgd hb
    have hch : Gl ad sc 0 0 M_J0_charAt_5068e [.ref (st l), .int (I (d : Int))] u h1 (fun v u2 h2 => v = .int (I (48 + (O (616 + 44 * pp + (7 * l + d)) : Int))) ∧ u2 = u ∧ h2 = h1) := t_chr e1 e2 (show d < O (614 + 44 * pp) by omega) (by omega) (by omega)
    by_cases hz : onZ (stD O pp x y mi l K d) (x + (d : Int)) (y + (l : Int)) = true
    · obtain ⟨i, hi, hic, hio, hxi, hyi⟩ := at_ix hKd hz
      have e9 : atR (stD O pp x y mi l K d) ce (x + (d : Int)) (y + (l : Int)) = some (ce i) := by unfold atR; rw [if_pos hz, ← hi]
      have hc := hT.2.2 i hic hio
      refine bx_iload dX7_stamps_19 rfl ?_
      refine bx_aload_n dX7_stamps_21 rfl ?_
      refine bx_iload dX7_stamps_22 rfl ?_
      refine bx_aals (j := l) (q := st l) dX7_stamps_24 rq (by decide) rfl hl (by omega) rfl ?_
      refine bx_cvP0 dX7_stamps_25 ln_X7_stamps_131 (Nat.le_of_ble_eq_true rfl) (by decide) e1 rfl (t_len e1 e2) ?_
      refine bx_icmp_ge (tgt := 86) dX7_stamps_28 (by decide) (by omega) (by omega) (fun c28 => ?_) (fun c28 => ?_)
      · exfalso
        omega
      · refine bx_aload_n dX7_stamps_31 rfl ?_
        refine bx_iload_n dX7_stamps_32 rfl ?_
        refine bx_iload dX7_stamps_33 rfl ?_
        refine bx_iadd dX7_stamps_35 ?_
        refine bx_iload_n dX7_stamps_36 rfl ?_
        refine bx_iload dX7_stamps_37 rfl ?_
        refine bx_iadd dX7_stamps_39 ?_
        refine bx_cvP2 dX7_stamps_40 ln_X7_stamps_66 (Nat.le_of_ble_eq_true rfl) (by decide) hT.1 rfl (by have := kt_at hT hKd (ad := ad) (sc := sc) (u := u) (c := 0) (sl := 0) (x := x + (d : Int)) (y := y + (l : Int)) (by omega) (by omega); rw [e9] at this; exact this) ?_
        refine bx_astore dX7_stamps_43 rfl (by decide) rfl ?_
        refine bx_aload_n dX7_stamps_45 rfl ?_
        refine bx_iload dX7_stamps_46 rfl ?_
        refine bx_aals (j := l) (q := st l) dX7_stamps_48 rq (by decide) rfl hl (by omega) rfl ?_
        refine bx_iload dX7_stamps_49 rfl ?_
        refine bx_cvP1 dX7_stamps_51 ln_X7_stamps_136 (Nat.le_of_ble_eq_true rfl) (by decide) e1 rfl hch ?_
        refine bx_bipush dX7_stamps_54 (by decide) ?_
        refine bx_isub dX7_stamps_56 ?_
        refine bx_istore dX7_stamps_57 rfl (by decide) rfl ?_
        refine bx_aload dX7_stamps_59 rfl ?_
        refine gx_ifnull dX7_stamps_61 ?_
        refine bx_iload dX7_stamps_64 rfl ?_
        refine bx_if_le (tgt := 80) dX7_stamps_66 (by decide) (by omega) (fun q66 => ?_) (fun q66 => ?_)
        · refine bx_iinc dX7_stamps_80 rfl rfl (by decide) rfl ?_
          refine bx_goto (tgt := 19) dX7_stamps_83 (by decide) ?_
          first
            | (refine gx_forg (i := 9) ?_; refine gx_forg (i := 8) ?_; exact ih (d + 1) h1 (by omega) (by show KT h1 k w m p cl ce (stQ O pp x y mi l d _); unfold stQ; rw [if_pos (by omega)]; exact hT) hF)
            | (refine gx_forg (i := 9) ?_; refine gx_forg (i := 8) ?_; exact ih (d + 1) h8 (by omega) (by show KT h8 k w m p cl ce (stQ O pp x y mi l d _); unfold stQ; rw [if_neg (by omega), put_set hKd hz hi]; exact hq8.2.1) (hF.tr (hq8.2.2.wk (fun b hb => ntm hb))))
        · refine bx_aload_n dX7_stamps_69 rfl ?_
          refine bx_aload dX7_stamps_70 rfl ?_
          refine bx_iload dX7_stamps_72 rfl ?_
          refine bx_iconst dX7_stamps_74 ?_
          refine bx_iload dX7_stamps_75 rfl ?_
          rw [show (48 + (O (616 + 44 * pp + (7 * l + d)) : Int)) - 48 = (O (616 + 44 * pp + (7 * l + d)) : Int) by omega]
          refine bx_cvv4 dX7_stamps_77 ln_X7_stamps_127 (Nat.le_of_ble_eq_true rfl) rfl hT.1 rfl (Nat.zero_le _) (Nat.zero_le _) (kt_paintsB (c := 0) (sl := 0) (c9 := O (616 + 44 * pp + (7 * l + d))) (w9 := 4) (mi := mi) hT hKd hic hio (by omega) (by omega)) (fun u8 h8 hq8 => ?_)
          obtain ⟨rfl, hq8⟩ := hq8
          have hq8 := And.intro True.intro hq8
          refine bx_iinc dX7_stamps_80 rfl rfl (by decide) rfl ?_
          refine bx_goto (tgt := 19) dX7_stamps_83 (by decide) ?_
          first
            | (refine gx_forg (i := 9) ?_; refine gx_forg (i := 8) ?_; exact ih (d + 1) h1 (by omega) (by show KT h1 k w m p cl ce (stQ O pp x y mi l d _); unfold stQ; rw [if_pos (by omega)]; exact hT) hF)
            | (refine gx_forg (i := 9) ?_; refine gx_forg (i := 8) ?_; exact ih (d + 1) h8 (by omega) (by show KT h8 k w m p cl ce (stQ O pp x y mi l d _); unfold stQ; rw [if_neg (by omega), put_set hKd hz hi]; exact hq8.2.1) (hF.tr (hq8.2.2.wk (fun b hb => ntm hb))))
    · have e9 : atR (stD O pp x y mi l K d) ce (x + (d : Int)) (y + (l : Int)) = none := if_neg hz
      refine bx_iload dX7_stamps_19 rfl ?_
      refine bx_aload_n dX7_stamps_21 rfl ?_
      refine bx_iload dX7_stamps_22 rfl ?_
      refine bx_aals (j := l) (q := st l) dX7_stamps_24 rq (by decide) rfl hl (by omega) rfl ?_
      refine bx_cvP0 dX7_stamps_25 ln_X7_stamps_131 (Nat.le_of_ble_eq_true rfl) (by decide) e1 rfl (t_len e1 e2) ?_
      refine bx_icmp_ge (tgt := 86) dX7_stamps_28 (by decide) (by omega) (by omega) (fun c28 => ?_) (fun c28 => ?_)
      · exfalso
        omega
      · refine bx_aload_n dX7_stamps_31 rfl ?_
        refine bx_iload_n dX7_stamps_32 rfl ?_
        refine bx_iload dX7_stamps_33 rfl ?_
        refine bx_iadd dX7_stamps_35 ?_
        refine bx_iload_n dX7_stamps_36 rfl ?_
        refine bx_iload dX7_stamps_37 rfl ?_
        refine bx_iadd dX7_stamps_39 ?_
        refine bx_cvP2 dX7_stamps_40 ln_X7_stamps_66 (Nat.le_of_ble_eq_true rfl) (by decide) hT.1 rfl (by have := kt_at hT hKd (ad := ad) (sc := sc) (u := u) (c := 0) (sl := 0) (x := x + (d : Int)) (y := y + (l : Int)) (by omega) (by omega); rw [e9] at this; exact this) ?_
        refine bx_astoreN dX7_stamps_43 rfl (by decide) rfl ?_
        refine bx_aload_n dX7_stamps_45 rfl ?_
        refine bx_iload dX7_stamps_46 rfl ?_
        refine bx_aals (j := l) (q := st l) dX7_stamps_48 rq (by decide) rfl hl (by omega) rfl ?_
        refine bx_iload dX7_stamps_49 rfl ?_
        refine bx_cvP1 dX7_stamps_51 ln_X7_stamps_136 (Nat.le_of_ble_eq_true rfl) (by decide) e1 rfl hch ?_
        refine bx_bipush dX7_stamps_54 (by decide) ?_
        refine bx_isub dX7_stamps_56 ?_
        refine bx_istore dX7_stamps_57 rfl (by decide) rfl ?_
        refine gx_aloadN rfl dX7_stamps_59 ?_
        refine gx_ifnullN (tgt := 80) dX7_stamps_61 (by decide) ?_
        refine bx_iinc dX7_stamps_80 rfl rfl (by decide) rfl ?_
        refine bx_goto (tgt := 19) dX7_stamps_83 (by decide) ?_
        refine gx_forg (i := 9) ?_
        refine gx_forg (i := 8) ?_
        exact ih (d + 1) h1 (by omega) (by show KT h1 k w m p cl ce (stQ O pp x y mi l d _); unfold stQ putC; rw [if_neg hz]; split <;> exact hT) hF
theorem kl_stL {q pp : Nat} {x y : Int} {mi : Bool} {k2 : Nat} {O : Nat → Nat} {hA : hg} (hO : KI O) (hTA : KT hA k w m p cl ce O) (hpp : pp < 3) (hx : -1000 ≤ x ∧ x ≤ 1000) (hy : -1000 ≤ y ∧ y ≤ 1000) {st : Nat → Nat} (hq : rwQ 8 (hA q) (O (615 + 44 * pp)) (fun l => some (st l))) (hs : ∀ l, l < O (615 + 44 * pp) → STR hA (st l) (O (614 + 44 * pp)) (fun d => 48 + (O (616 + 44 * pp + (7 * l + d)) : Int))) (kk : ∀ h1, KT h1 k w m p cl ce (stmK O pp x y mi) → FRM hA h1 (mutD O k ce) → Gx ad sc M_X7_stamps 92 [.ref k, .ref q, .int (I x), .int (I y), .int (I (if mi = true then 1 else 0)), .ref k2, .int (I (O (615 + 44 * pp) : Int)), uk, uk, uk] [] c sl u h1 Q) : ∀ (n l : Nat) (h1 : hg), l + n = O (615 + 44 * pp) → KT h1 k w m p cl ce (stL O pp x y mi l) → FRM hA h1 (mutD O k ce) → Gx ad sc M_X7_stamps 9 [.ref k, .ref q, .int (I x), .int (I y), .int (I (if mi = true then 1 else 0)), .ref k2, .int (I (l : Int)), uk, uk, uk] [] c sl u h1 Q := by
  obtain ⟨g1, g2, g3⟩ := hO.2.2.2.2.2.2.2.2 pp hpp
  intro n
  induction n with
  | zero =>
    intro l h1 hl hT hF
    have rq := hq.fr hF (hq.nm hTA)
    refine bx_iload dX7_stamps_9 rfl ?_
    refine bx_aload_n dX7_stamps_11 rfl ?_
    refine bx_alnq dX7_stamps_12 rq (by decide) ?_
    refine bx_icmp_ge (tgt := 92) dX7_stamps_13 (by decide) (by omega) (by omega) (fun c13 => ?_) (fun c13 => ?_)
    · obtain rfl : l = O (615 + 44 * pp) := by omega
      exact kk h1 hT hF
    · exfalso
      omega
  | succ n ih =>
    intro l h1 hl hT hF
    have rq := hq.fr hF (hq.nm hTA)
    refine bx_iload dX7_stamps_9 rfl ?_
    refine bx_aload_n dX7_stamps_11 rfl ?_
    refine bx_alnq dX7_stamps_12 rq (by decide) ?_
    refine bx_icmp_ge (tgt := 92) dX7_stamps_13 (by decide) (by omega) (by omega) (fun c13 => ?_) (fun c13 => ?_)
    · exfalso
      omega
    · refine bx_iconst dX7_stamps_16 ?_
      refine bx_istore dX7_stamps_17 rfl (by decide) rfl ?_
      refine kl_stD hO hTA hpp hx hy hq hs (by omega) (okO.sl hO hpp l (by omega)) (stL_geo l) (fun h2 hT2 hF2 => ?_) (O (614 + 44 * pp)) 0 h1 (by omega) hT hF
      refine bx_iinc dX7_stamps_86 rfl rfl (by decide) rfl ?_
      refine bx_goto (tgt := 9) dX7_stamps_89 (by decide) ?_
      exact ih (l + 1) h2 (by omega) hT2 hF2
theorem kl_oth {q k2 cl2 : Nat} {ce2 O : Nat → Nat} {x y : Int} {mi : Bool} (hT : KT h k w m p cl ce K) (hK : KI K) (hO : KI O) (hg : geo O K) (h2 : KT h k2 w m p cl2 ce2 O) (kk : Gx ad sc M_X7_stamps 151 [.ref k, .ref q, .int (I x), .int (I y), .int (I (if mi = true then 1 else 0)), .ref k2, .int (I (othC K O)), .int (I (nC K : Int)), uk, uk] [] c sl u h Q) : ∀ (n i : Nat) (acc : Int), i + n = nC K → acc = si (cfO K O) i → Gx ad sc M_X7_stamps 98 [.ref k, .ref q, .int (I x), .int (I y), .int (I (if mi = true then 1 else 0)), .ref k2, .int (I (acc)), .int (I (i : Int)), uk, uk] [] c sl u h Q := by
  have hn9 := nC_le hK
  have k0 := hK.1
  intro n
  induction n with
  | zero =>
    intro i acc hi ha
    refine bx_iload dX7_stamps_98 rfl ?_
    refine bx_aload_n dX7_stamps_100 rfl ?_
    refine bx_getf dX7_stamps_101 ck7 fg_KitePainterLaw_Kite_39 (by decide) hT.1 rfl ?_
    refine bx_alnq dX7_stamps_104 hT.2.1 (by decide) ?_
    refine bx_icmp_ge (tgt := 151) dX7_stamps_105 (by decide) (by omega) (by omega) (fun c105 => ?_) (fun c105 => ?_)
    · obtain rfl : i = nC K := by omega
      rw [ha]
      exact kk
    · exfalso
      omega
  | succ n ih =>
    intro i acc hi ha
    have c5 := hK.2.2.2.2.1 i (by omega)
    have d5 := hO.2.2.2.2.1 i (by omega)
    have hn2 := hg.gn
    by_cases hon : on K i = true
    · have hoO : on O i = true := by rw [← hg.go hO (by omega)]; exact hon
      have hc := hT.2.2 i (by omega) hon
      have hc2 := h2.2.2 i (by omega) hoO
      refine bx_iload dX7_stamps_98 rfl ?_
      refine bx_aload_n dX7_stamps_100 rfl ?_
      refine bx_getf dX7_stamps_101 ck7 fg_KitePainterLaw_Kite_39 (by decide) hT.1 rfl ?_
      refine bx_alnq dX7_stamps_104 hT.2.1 (by decide) ?_
      refine bx_icmp_ge (tgt := 151) dX7_stamps_105 (by decide) (by omega) (by omega) (fun c105 => ?_) (fun c105 => ?_)
      · exfalso
        omega
      · refine bx_aload_n dX7_stamps_108 rfl ?_
        refine bx_getf dX7_stamps_109 ck7 fg_KitePainterLaw_Kite_39 (by decide) hT.1 rfl ?_
        refine bx_iload dX7_stamps_112 rfl ?_
        refine bx_aals (j := i) (q := ce i) dX7_stamps_114 hT.2.1 (by decide) rfl (by omega) (by omega) (if_pos hon) ?_
        refine gx_ifnull dX7_stamps_115 ?_
        refine bx_aload_n dX7_stamps_118 rfl ?_
        refine bx_getf dX7_stamps_119 ck7 fg_KitePainterLaw_Kite_39 (by decide) hT.1 rfl ?_
        refine bx_iload dX7_stamps_122 rfl ?_
        refine bx_aals (j := i) (q := ce i) dX7_stamps_124 hT.2.1 (by decide) rfl (by omega) (by omega) (if_pos hon) ?_
        refine bx_getf dX7_stamps_125 ck6 fg_KitePainterLaw_Kite_74 (by decide) hc rfl ?_
        refine bx_aload dX7_stamps_128 rfl ?_
        refine bx_getf dX7_stamps_130 ck7 fg_KitePainterLaw_Kite_39 (by decide) h2.1 rfl ?_
        refine bx_iload dX7_stamps_133 rfl ?_
        refine bx_aals (j := i) (q := ce2 i) dX7_stamps_135 h2.2.1 (by decide) rfl (by omega) (by omega) (if_pos hoO) ?_
        refine bx_getf dX7_stamps_136 ck6 fg_KitePainterLaw_Kite_74 (by decide) hc2 rfl ?_
        refine bx_icmp_eq (tgt := 145) dX7_stamps_139 (by decide) (by omega) (by omega) (fun q139 => ?_) (fun q139 => ?_)
        · refine bx_iinc dX7_stamps_145 rfl rfl (by decide) rfl ?_
          refine bx_goto (tgt := 98) dX7_stamps_148 (by decide) ?_
          refine ih (i + 1) _ (by omega) ?_
          rw [si_succ, ← ha]; unfold cfO
          first | rw [if_pos (by omega)] | (rw [if_neg (by omega)]; omega)
        · refine bx_iinc dX7_stamps_142 rfl rfl (by decide) rfl ?_
          refine bx_iinc dX7_stamps_145 rfl rfl (by decide) rfl ?_
          refine bx_goto (tgt := 98) dX7_stamps_148 (by decide) ?_
          refine ih (i + 1) _ (by omega) ?_
          rw [si_succ, ← ha]; unfold cfO
          first | rw [if_pos (by omega)] | (rw [if_neg (by omega)]; omega)
    · have hoO : ¬ on O i = true := by rw [← hg.go hO (by omega)]; exact hon
      have z1 := (hK.2.2.2.2.2.2.2.1 i (by omega)).resolve_left (fun z => hon z.2)
      have z2 := (hO.2.2.2.2.2.2.2.1 i (by omega)).resolve_left (fun z => hoO z.2)
      refine bx_iload dX7_stamps_98 rfl ?_
      refine bx_aload_n dX7_stamps_100 rfl ?_
      refine bx_getf dX7_stamps_101 ck7 fg_KitePainterLaw_Kite_39 (by decide) hT.1 rfl ?_
      refine bx_alnq dX7_stamps_104 hT.2.1 (by decide) ?_
      refine bx_icmp_ge (tgt := 151) dX7_stamps_105 (by decide) (by omega) (by omega) (fun c105 => ?_) (fun c105 => ?_)
      · exfalso
        omega
      · refine bx_aload_n dX7_stamps_108 rfl ?_
        refine bx_getf dX7_stamps_109 ck7 fg_KitePainterLaw_Kite_39 (by decide) hT.1 rfl ?_
        refine bx_iload dX7_stamps_112 rfl ?_
        refine bx_aaln (j := i) dX7_stamps_114 hT.2.1 (by decide) rfl (by omega) (by omega) (if_neg hon) ?_
        refine gx_ifnullN (tgt := 145) dX7_stamps_115 (by decide) ?_
        refine bx_iinc dX7_stamps_145 rfl rfl (by decide) rfl ?_
        refine bx_goto (tgt := 98) dX7_stamps_148 (by decide) ?_
        refine ih (i + 1) _ (by omega) ?_
        rw [si_succ, ← ha]; unfold cfO
        rw [if_neg (by omega)]; omega
theorem kt_stamps (hT : KT h k w m p cl ce K) (hK : KI K) (hR : SHR h w m p K) {q pp : Nat} {x y : Int} {mi : Bool} (hpp : pp < 3) (hx : -1000 ≤ x ∧ x ≤ 1000) (hy : -1000 ≤ y ∧ y ≤ 1000) (hPL : PL h q K pp) : Gl ad sc 200 1200 M_X7_stamps [.ref k, .ref q, .int (I x), .int (I y), .int (I (if mi = true then 1 else 0))] u h (fun v u1 h1 => v = .int (I (othC (stmK K pp x y mi) K)) ∧ u1 = u ∧ KT h1 k w m p cl ce (stmK K pp x y mi) ∧ FRM h h1 (mutD K k ce)) := by
  have hn9 := nC_le hK
  have k0 := hK.1
  refine bx_aload_n dX7_stamps_0 rfl ?_
  refine bx_cv0 dX7_stamps_1 ln_X7_stamps_99 (Nat.le_of_ble_eq_true rfl) (by decide) hT.1 rfl (Nat.le_refl _) (Nat.le_refl _) (kt_copy hT hK) (fun v9 u9 h9 hq9 => ?_)
  obtain ⟨rfl, k2, cl2, ce2, rfl, hk2, hL2⟩ := hq9
  have F1 := hL2.frm0 hk2
  have hT2 := hL2.kt
  obtain ⟨n3, n4⟩ := hL2.new
  have hTA : KT h9 k w m p cl ce K := hT.frm F1 (fun z => z) (fun z => z) (fun _ _ _ z => z)
  obtain ⟨st, hq1, hs1⟩ := hPL
  have hq2 := hq1.fr F1 (fun z => z)
  have hs2 : ∀ l, l < K (615 + 44 * pp) → STR h9 (st l) (K (614 + 44 * pp)) (fun d => 48 + (K (616 + 44 * pp + (7 * l + d)) : Int)) := fun l hl => by
    obtain ⟨va, a1, a2, a3, a4⟩ := hs1 l hl
    exact ⟨va, a1, a2, F1 _ _ a3 (fun z => z), a4.fr F1 (fun z => z)⟩
  have nm : ∀ {b}, h b = none → ¬ mutD K k ce b := fun {b} hb hd => by
    rcases hd with rfl | ⟨i, h1, h2, rfl⟩
    · rw [hT.1] at hb; cases hb
    · rw [hT.2.2 i h1 h2] at hb; cases hb
  refine bx_astore dX7_stamps_4 rfl (by decide) rfl ?_
  refine bx_iconst dX7_stamps_6 ?_
  refine bx_istore dX7_stamps_7 rfl (by decide) rfl ?_
  refine kl_stL hK hTA hpp hx hy hq2 hs2 (fun h1 hT3 F3 => ?_) (K (615 + 44 * pp)) 0 h9 (by omega) hTA FRM.rf
  have hKs : KI (stmK K pp x y mi) := (okO.sl hK hpp _ (hK.2.2.2.2.2.2.2.2 pp hpp).2.1).1
  have hgs : geo K (stmK K pp x y mi) := stL_geo _
  have h21 := hT2.frm F3 (nm hk2) (nm n3) (fun j hj oj => nm (n4 j hj oj))
  refine bx_iconst dX7_stamps_92 ?_
  refine bx_istore dX7_stamps_93 rfl (by decide) rfl ?_
  refine bx_iconst dX7_stamps_95 ?_
  refine bx_istore dX7_stamps_96 rfl (by decide) rfl ?_
  refine kl_oth hT3 hKs hK hgs h21 ?_ (nC (stmK K pp x y mi)) 0 0 (by omega) rfl
  refine bx_iload dX7_stamps_151 rfl ?_
  exact bx_iret dX7_stamps_153 rfl ⟨rfl, rfl, hT3, fun b e hb hd => F3 b e (F1 b e hb (fun z => z)) hd⟩
end KJ
