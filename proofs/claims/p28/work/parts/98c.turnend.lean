/-! THE LAW: a turn's end -/
section LE
variable {ad : Nat → Nat} {sc : Nat × (Nat → Int32)} {u : hp} {h : hg} {Q : qg} {b r B n8 t k k2 w m p cl c sl : Nat} {ce : Nat → Nat} {K K0 : Nat → Nat} {H : Nat → Nat → Nat}
theorem lw_shift {f : Nat → Option Nat} (hV : KC h r B n8 k k2 w m p cl ce K0 K H) (hf : ∀ t, t < 8 → (t < n8 ∧ ∃ kt, f t = some kt ∧ BFt h kt w m p (H t) (mutD K k ce)) ∨ (n8 ≤ t ∧ f t = none)) (kk : ∀ h1, FRM h h1 (fun x => x = B) → rwQ 7 (h1 B) 9 (fun i => if 0 < i then f (i - 1) else f i) → Gx ad sc M_L_law 1052 [.ref (ad 3000), .int (I 1), .int (I 0), .ref (ad 0), .ref b, .ref r, .ref k, .ref B, .int (I (n8 : Int)), .int (I (t : Int)), .ref k2, .int (I 1), uk, uk, uk, uk, uk, .int (I (0 : Int)), uk, uk, uk, uk, uk, uk, uk, uk, uk, uk] [] c sl u h1 Q) : ∀ (j : Nat) (g : hg), j ≤ 8 → FRM h g (fun x => x = B) → rwQ 7 (g B) 9 (fun i => if j < i then f (i - 1) else f i) → Gx ad sc M_L_law 1029 [.ref (ad 3000), .int (I 1), .int (I 0), .ref (ad 0), .ref b, .ref r, .ref k, .ref B, .int (I (n8 : Int)), .int (I (t : Int)), .ref k2, .int (I 1), uk, uk, uk, uk, uk, .int (I (j : Int)), uk, uk, uk, uk, uk, uk, uk, uk, uk, uk] [] c sl u g Q := by
  intro j
  induction j with
  | zero =>
    intro g h8 hF hr
    refine bx_iload dL_law_1029 rfl ?_
    refine bx_if_le (tgt := 1052) dL_law_1031 (by decide) (by omega) (fun c1031 => ?_) (fun c1031 => ?_)
    · exact kk g hF hr
    · exfalso
      omega
  | succ j ih =>
    intro g h8 hF hr
    refine bx_iload dL_law_1029 rfl ?_
    refine bx_if_le (tgt := 1052) dL_law_1031 (by decide) (by omega) (fun c1031 => ?_) (fun c1031 => ?_)
    · exfalso
      omega
    · rcases hf j (by omega) with ⟨a9, kt, e9, b9⟩ | ⟨a9, b9⟩
      · have Z9 := e9
        obtain ⟨clt, cet, hT9, -⟩ := b9
        have o9 : g kt = some (.inr (7, kiteF (H j) w m p clt)) := hF _ _ hT9.1 (fun z => odd.own hT9 hV.1.bn.1 (Or.inl z.symm))
        refine bx_aload dL_law_1034 rfl ?_
        refine bx_iload dL_law_1036 rfl ?_
        refine bx_aload dL_law_1038 rfl ?_
        refine bx_iload dL_law_1040 rfl ?_
        refine bx_iconst dL_law_1042 ?_
        refine bx_isub dL_law_1043 ?_
        refine bx_aals (j := j) (q := kt) dL_law_1044 hr (by decide) (by omega) (by omega) (by omega) (by rw [if_neg (by omega)]; exact e9) ?_
        refine bx_aasq (j := j + 1) dL_law_1045 hr o9 rfl (Or.inr (Or.inr (Or.inl ⟨rfl, rfl⟩))) rfl (by omega) (by omega) (fun e1045 he1045 => ?_)
        refine bx_iinc dL_law_1046 rfl rfl (by decide) rfl ?_
        rw [show (((j + 1 : Nat) : Int) + -1) = (j : Int) by omega]
        refine bx_goto (tgt := 1029) dL_law_1049 (by decide) ?_
        refine ih _ (by omega) (hF.tr (FRM.u1 rfl)) ((he1045.mv ug_eq).cong (fun i hi => ?_))
        unfold upQ
        by_cases z : i = j + 1
        · subst z
          rw [if_pos rfl]
          show _ = (if j < j + 1 then f (j + 1 - 1) else f (j + 1))
          rw [if_pos (by omega), Nat.add_sub_cancel]
          exact Z9.symm
        · rw [if_neg z]
          show (if j + 1 < i then f (i - 1) else f i) = (if j < i then f (i - 1) else f i)
          by_cases z2 : j < i
          · rw [if_pos z2, if_pos (by omega)]
          · rw [if_neg z2, if_neg (by omega)]
      · have Z9 := b9
        refine bx_aload dL_law_1034 rfl ?_
        refine bx_iload dL_law_1036 rfl ?_
        refine bx_aload dL_law_1038 rfl ?_
        refine bx_iload dL_law_1040 rfl ?_
        refine bx_iconst dL_law_1042 ?_
        refine bx_isub dL_law_1043 ?_
        refine bx_aaln (j := j) dL_law_1044 hr (by decide) (by omega) (by omega) (by omega) (by rw [if_neg (by omega)]; exact b9) ?_
        refine bx_aasN (j := j + 1) dL_law_1045 hr (Or.inr (Or.inr (Or.inl ⟨rfl, rfl⟩))) rfl (by omega) (by omega) (fun e1045 he1045 => ?_)
        refine bx_iinc dL_law_1046 rfl rfl (by decide) rfl ?_
        rw [show (((j + 1 : Nat) : Int) + -1) = (j : Int) by omega]
        refine bx_goto (tgt := 1029) dL_law_1049 (by decide) ?_
        refine ih _ (by omega) (hF.tr (FRM.u1 rfl)) ((he1045.mv ug_eq).cong (fun i hi => ?_))
        unfold upQ
        by_cases z : i = j + 1
        · subst z
          rw [if_pos rfl]
          show _ = (if j < j + 1 then f (j + 1 - 1) else f (j + 1))
          rw [if_pos (by omega), Nat.add_sub_cancel]
          exact Z9.symm
        · rw [if_neg z]
          show (if j + 1 < i then f (i - 1) else f i) = (if j < i then f (i - 1) else f i)
          by_cases z2 : j < i
          · rw [if_pos z2, if_pos (by omega)]
          · rw [if_neg z2, if_neg (by omega)]
theorem lw_keep (hV : KC h r B n8 k k2 w m p cl ce K0 K H) (hn : n8 ≤ 100) (kk : ∀ h1, KV h1 r B (n8 + 1) k w m p cl ce K (psh K0 H) → Gx ad sc M_L_law 1061 [.ref (ad 3000), .int (I 1), .int (I 0), .ref (ad 0), .ref b, .ref r, .ref k, .ref B, .int (I ((n8 + 1 : Nat) : Int)), .int (I (t : Int)), uk, uk, uk, uk, uk, uk, uk, uk, uk, uk, uk, uk, uk, uk, uk, uk, uk, uk] [] c sl u h1 Q) : Gx ad sc M_L_law 1020 [.ref (ad 3000), .int (I 1), .int (I 0), .ref (ad 0), .ref b, .ref r, .ref k, .ref B, .int (I (n8 : Int)), .int (I (t : Int)), .ref k2, .int (I 1), uk, uk, uk, uk, uk, uk, uk, uk, uk, uk, uk, uk, uk, uk, uk, uk] [] c sl u h Q := by
  obtain ⟨f, hr0, hf⟩ := hV.1.2.2.2
  refine bx_iload dL_law_1020 rfl ?_
  refine bx_if_eq (tgt := 1061) dL_law_1022 (by decide) (by decide) (fun c1022 => ?_) (fun c1022 => ?_)
  · exact absurd c1022 (by decide)
  · refine bx_bipush dL_law_1025 (by decide) ?_
    refine bx_istore dL_law_1027 rfl (by decide) rfl ?_
    refine lw_shift hV hf (fun h1 hF1 hr1 => ?_) 8 h (by omega) FRM.rf (hr0.cong (fun i hi => by rw [if_neg (by omega)]))
    obtain ⟨clt, cet, hT9, -⟩ := hV.2
    have o9 : h1 k2 = some (.inr (7, kiteF K0 w m p clt)) := hF1 _ _ hT9.1 (fun z => odd.own hT9 hV.1.bn.1 (Or.inl z.symm))
    refine bx_aload dL_law_1052 rfl ?_
    refine bx_iconst dL_law_1054 ?_
    refine bx_aload dL_law_1055 rfl ?_
    refine bx_aasq (j := 0) dL_law_1057 hr1 o9 rfl (Or.inr (Or.inr (Or.inl ⟨rfl, rfl⟩))) rfl (by omega) (by omega) (fun e1057 he1057 => ?_)
    refine bx_iinc dL_law_1058 rfl rfl (by decide) rfl ?_
    refine gx_forg (i := 10) ?_
    refine gx_forg (i := 11) ?_
    refine gx_forg (i := 17) ?_
    exact kk _ (hV.ps (hF1.tr (FRM.u1 rfl)) hf ((he1057.mv ug_eq).cong (fun i hi => by
      unfold upQ
      by_cases z : i = 0
      · rw [if_pos z, if_pos z]
      · rw [if_neg z, if_neg z]
        exact if_pos (by omega))))
theorem lw_skip (kk : Gx ad sc M_L_law 1061 [.ref (ad 3000), .int (I 1), .int (I 0), .ref (ad 0), .ref b, .ref r, .ref k, .ref B, .int (I (n8 : Int)), .int (I (t : Int)), uk, uk, uk, uk, uk, uk, uk, uk, uk, uk, uk, uk, uk, uk, uk, uk, uk, uk] [] c sl u h Q) : Gx ad sc M_L_law 1020 [.ref (ad 3000), .int (I 1), .int (I 0), .ref (ad 0), .ref b, .ref r, .ref k, .ref B, .int (I (n8 : Int)), .int (I (t : Int)), .ref k2, .int (I 0), uk, uk, uk, uk, uk, uk, uk, uk, uk, uk, uk, uk, uk, uk, uk, uk] [] c sl u h Q := by
  refine bx_iload dL_law_1020 rfl ?_
  refine bx_if_eq (tgt := 1061) dL_law_1022 (by decide) (by decide) (fun c1022 => ?_) (fun c1022 => ?_)
  · refine gx_forg (i := 10) ?_
    refine gx_forg (i := 11) ?_
    exact kk
  · exact absurd rfl c1022
end LE
