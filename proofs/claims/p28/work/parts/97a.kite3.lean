/-! THE KITE: told, of, checksum -/
section KB2
variable {ad : Nat → Nat} {sc : Nat × (Nat → Int32)} {u : hp} {h : hg} {Q : qg} {k w m p cl : Nat} {ce : Nat → Nat} {K : Nat → Nat} {c sl : Nat}
theorem mx_suc {f : Nat → Nat} {n : Nat} : mxN f (n + 1) = max (mxN f n) (f n) := rfl
theorem kl_told (hT : KT h k w m p cl ce K) (hK : KI K) {q : Nat} (kk : Gx ad sc M_X7_told 101 [.ref k, .int (I (q : Int)), .int (I (allC K)), .int (I (sprC K)), .int (I (wetC K)), .int (I (grtW K : Int)), .ref cl, .int (I (nC K : Int)), .int (I (nC K : Int)), uk] [] c sl u h Q) : ∀ (n : Nat) (i : Nat) (a b c2 d : Int), i + n = nC K → a = si (cfA K) i → b = si (cfS K) i → c2 = si (cfW K) i → d = (mxN (fun j => K (254 + j)) i : Nat) → Gx ad sc M_X7_told 24 [.ref k, .int (I (q : Int)), .int (I a), .int (I b), .int (I c2), .int (I d), .ref cl, .int (I (nC K : Int)), .int (I (i : Int)), uk] [] c sl u h Q := by
  have hn9 := nC_le hK
  have k0 := hK.1
  intro n
  induction n with
  | zero =>
    intro i a b c2 d hi ha hb hc1 hd
    refine bx_iload dX7_told_24 rfl ?_
    refine bx_iload dX7_told_26 rfl ?_
    refine bx_icmp_ge (tgt := 101) dX7_told_28 (by decide) (by omega) (by omega) (fun c28 => ?_) (fun c28 => ?_)
    · have e : i = nC K := by omega
      subst e
      rw [ha, hb, hc1, hd]
      exact kk
    · exfalso
      omega
  | succ n ih =>
    intro i a b c2 d hi ha hb hc1 hd
    refine bx_iload dX7_told_24 rfl ?_
    refine bx_iload dX7_told_26 rfl ?_
    refine bx_icmp_ge (tgt := 101) dX7_told_28 (by decide) (by omega) (by omega) (fun c28 => ?_) (fun c28 => ?_)
    · exfalso
      omega
    · refine bx_aload dX7_told_31 rfl ?_
      refine bx_iload dX7_told_33 rfl ?_
      by_cases hon : on K i = true
      · have hc := hT.2.2 i (by omega) hon
        have h5 := hK.2.2.2.2.1 i (by omega)
        have h6 := hK.2.2.2.2.2.1 i (by omega)
        have h7 := hK.2.2.2.2.2.2.1 i (by omega)
        refine bx_aals (j := i) (q := ce i) dX7_told_35 hT.2.1 (by decide) rfl (by omega) (by omega) (if_pos hon) ?_
        refine bx_astore dX7_told_36 rfl (by decide) rfl ?_
        refine bx_aload dX7_told_38 rfl ?_
        refine gx_nonnull (tgt := 46) dX7_told_40 (by decide) ?_
        refine bx_iinc dX7_told_46 rfl rfl (by decide) rfl ?_
        refine bx_iload_n dX7_told_49 rfl ?_
        refine bx_aload dX7_told_50 rfl ?_
        refine bx_getf dX7_told_52 ck6 fg_KitePainterLaw_Kite_77 (by decide) hc rfl ?_
        refine bx_if_eq (tgt := 62) dX7_told_55 (by decide) (by omega) (fun q55 => ?_) (fun q55 => ?_)
        · refine bx_iconst dX7_told_62 ?_
          refine bx_iadd dX7_told_63 ?_
          refine bx_istore_n dX7_told_64 rfl (by decide) rfl ?_
          refine bx_iload dX7_told_65 rfl ?_
          refine bx_aload dX7_told_67 rfl ?_
          refine bx_getf dX7_told_69 ck6 fg_KitePainterLaw_Kite_93 (by decide) hc rfl ?_
          refine bx_if_le (tgt := 79) dX7_told_72 (by decide) (by omega) (fun q72 => ?_) (fun q72 => ?_)
          · refine bx_iconst dX7_told_79 ?_
            refine bx_iadd dX7_told_80 ?_
            refine bx_istore dX7_told_81 rfl (by decide) rfl ?_
            refine bx_iload dX7_told_83 rfl ?_
            refine bx_aload dX7_told_85 rfl ?_
            refine bx_getf dX7_told_87 ck6 fg_KitePainterLaw_Kite_93 (by decide) hc rfl ?_
            refine bx_max dX7_told_90 ln_X7_told_70 ⟨by decide, by decide⟩ (Nat.le_of_ble_eq_true rfl) (by have := mx_le (f := fun j => K (254 + j)) (c := 9) (n := i) (fun z hz => hK.2.2.2.2.2.1 z (by omega)); omega) (by omega) ?_
            refine bx_istore dX7_told_93 rfl (by decide) rfl ?_
            refine bx_iinc dX7_told_95 rfl rfl (by decide) rfl ?_
            refine bx_goto (tgt := 24) dX7_told_98 (by decide) ?_
            refine gx_forg (i := 9) ?_
            refine ih (i + 1) _ _ _ _ (by omega) ?_ ?_ ?_ ?_
            · rw [si_succ, ← ha]; unfold cfA; rw [if_pos hon]
            · rw [si_succ, ← hb]; show _ = _ + (K (434 + i) : Int); omega
            · rw [si_succ, ← hc1]; unfold cfW; first | rw [if_pos (by omega)] | (rw [if_neg (by omega)]; done) | (rw [if_neg (by omega)]; omega)
            · rw [mx_suc, hd]; show _ = ((max (mxN (fun j => K (254 + j)) i) (K (254 + i)) : Nat) : Int); omega
          · refine bx_iconst dX7_told_75 ?_
            refine bx_goto (tgt := 80) dX7_told_76 (by decide) ?_
            refine bx_iadd dX7_told_80 ?_
            refine bx_istore dX7_told_81 rfl (by decide) rfl ?_
            refine bx_iload dX7_told_83 rfl ?_
            refine bx_aload dX7_told_85 rfl ?_
            refine bx_getf dX7_told_87 ck6 fg_KitePainterLaw_Kite_93 (by decide) hc rfl ?_
            refine bx_max dX7_told_90 ln_X7_told_70 ⟨by decide, by decide⟩ (Nat.le_of_ble_eq_true rfl) (by have := mx_le (f := fun j => K (254 + j)) (c := 9) (n := i) (fun z hz => hK.2.2.2.2.2.1 z (by omega)); omega) (by omega) ?_
            refine bx_istore dX7_told_93 rfl (by decide) rfl ?_
            refine bx_iinc dX7_told_95 rfl rfl (by decide) rfl ?_
            refine bx_goto (tgt := 24) dX7_told_98 (by decide) ?_
            refine gx_forg (i := 9) ?_
            refine ih (i + 1) _ _ _ _ (by omega) ?_ ?_ ?_ ?_
            · rw [si_succ, ← ha]; unfold cfA; rw [if_pos hon]
            · rw [si_succ, ← hb]; show _ = _ + (K (434 + i) : Int); omega
            · rw [si_succ, ← hc1]; unfold cfW; first | rw [if_pos (by omega)] | (rw [if_neg (by omega)]; done) | (rw [if_neg (by omega)]; omega)
            · rw [mx_suc, hd]; show _ = ((max (mxN (fun j => K (254 + j)) i) (K (254 + i)) : Nat) : Int); omega
        · refine bx_iconst dX7_told_58 ?_
          refine bx_goto (tgt := 63) dX7_told_59 (by decide) ?_
          refine bx_iadd dX7_told_63 ?_
          refine bx_istore_n dX7_told_64 rfl (by decide) rfl ?_
          refine bx_iload dX7_told_65 rfl ?_
          refine bx_aload dX7_told_67 rfl ?_
          refine bx_getf dX7_told_69 ck6 fg_KitePainterLaw_Kite_93 (by decide) hc rfl ?_
          refine bx_if_le (tgt := 79) dX7_told_72 (by decide) (by omega) (fun q72 => ?_) (fun q72 => ?_)
          · refine bx_iconst dX7_told_79 ?_
            refine bx_iadd dX7_told_80 ?_
            refine bx_istore dX7_told_81 rfl (by decide) rfl ?_
            refine bx_iload dX7_told_83 rfl ?_
            refine bx_aload dX7_told_85 rfl ?_
            refine bx_getf dX7_told_87 ck6 fg_KitePainterLaw_Kite_93 (by decide) hc rfl ?_
            refine bx_max dX7_told_90 ln_X7_told_70 ⟨by decide, by decide⟩ (Nat.le_of_ble_eq_true rfl) (by have := mx_le (f := fun j => K (254 + j)) (c := 9) (n := i) (fun z hz => hK.2.2.2.2.2.1 z (by omega)); omega) (by omega) ?_
            refine bx_istore dX7_told_93 rfl (by decide) rfl ?_
            refine bx_iinc dX7_told_95 rfl rfl (by decide) rfl ?_
            refine bx_goto (tgt := 24) dX7_told_98 (by decide) ?_
            refine gx_forg (i := 9) ?_
            refine ih (i + 1) _ _ _ _ (by omega) ?_ ?_ ?_ ?_
            · rw [si_succ, ← ha]; unfold cfA; rw [if_pos hon]
            · rw [si_succ, ← hb]; show _ = _ + (K (434 + i) : Int); omega
            · rw [si_succ, ← hc1]; unfold cfW; first | rw [if_pos (by omega)] | (rw [if_neg (by omega)]; done) | (rw [if_neg (by omega)]; omega)
            · rw [mx_suc, hd]; show _ = ((max (mxN (fun j => K (254 + j)) i) (K (254 + i)) : Nat) : Int); omega
          · refine bx_iconst dX7_told_75 ?_
            refine bx_goto (tgt := 80) dX7_told_76 (by decide) ?_
            refine bx_iadd dX7_told_80 ?_
            refine bx_istore dX7_told_81 rfl (by decide) rfl ?_
            refine bx_iload dX7_told_83 rfl ?_
            refine bx_aload dX7_told_85 rfl ?_
            refine bx_getf dX7_told_87 ck6 fg_KitePainterLaw_Kite_93 (by decide) hc rfl ?_
            refine bx_max dX7_told_90 ln_X7_told_70 ⟨by decide, by decide⟩ (Nat.le_of_ble_eq_true rfl) (by have := mx_le (f := fun j => K (254 + j)) (c := 9) (n := i) (fun z hz => hK.2.2.2.2.2.1 z (by omega)); omega) (by omega) ?_
            refine bx_istore dX7_told_93 rfl (by decide) rfl ?_
            refine bx_iinc dX7_told_95 rfl rfl (by decide) rfl ?_
            refine bx_goto (tgt := 24) dX7_told_98 (by decide) ?_
            refine gx_forg (i := 9) ?_
            refine ih (i + 1) _ _ _ _ (by omega) ?_ ?_ ?_ ?_
            · rw [si_succ, ← ha]; unfold cfA; rw [if_pos hon]
            · rw [si_succ, ← hb]; show _ = _ + (K (434 + i) : Int); omega
            · rw [si_succ, ← hc1]; unfold cfW; first | rw [if_pos (by omega)] | (rw [if_neg (by omega)]; done) | (rw [if_neg (by omega)]; omega)
            · rw [mx_suc, hd]; show _ = ((max (mxN (fun j => K (254 + j)) i) (K (254 + i)) : Nat) : Int); omega
      · refine bx_aaln (j := i) dX7_told_35 hT.2.1 (by decide) rfl (by omega) (by omega) (if_neg hon) ?_
        refine bx_astoreN dX7_told_36 rfl (by decide) rfl ?_
        refine gx_aloadN rfl dX7_told_38 ?_
        refine gx_nonnullN dX7_told_40 ?_
        refine bx_goto (tgt := 95) dX7_told_43 (by decide) ?_
        refine bx_iinc dX7_told_95 rfl rfl (by decide) rfl ?_
        refine bx_goto (tgt := 24) dX7_told_98 (by decide) ?_
        refine gx_forg (i := 9) ?_
        have z9 : K (74 + i) = 0 ∧ K (254 + i) = 0 ∧ K (434 + i) = 0 := by
          rcases hK.2.2.2.2.2.2.2.1 i (by omega) with z | z
          · exact absurd z.2 hon
          · exact z
        refine ih (i + 1) _ _ _ _ (by omega) ?_ ?_ ?_ ?_
        · rw [si_succ, ← ha]; unfold cfA; rw [if_neg hon]; omega
        · rw [si_succ, ← hb]; show _ = _ + (K (434 + i) : Int); omega
        · rw [si_succ, ← hc1]; unfold cfW; rw [if_neg (by omega)]; omega
        · rw [hd]; rw [mx_suc]; show _ = ((max (mxN (fun j => K (254 + j)) i) (K (254 + i)) : Nat) : Int); omega
theorem kt_told (hT : KT h k w m p cl ce K) (hK : KI K) (hR : SHR h w m p K) {q : Nat} (hq : q ≤ 12) : Gl ad sc c sl M_X7_told [.ref k, .int (I (q : Int))] u h (fun v u1 h1 => v = .int (I (stN K q)) ∧ u1 = u ∧ h1 = h) := by
  have hn9 := nC_le hK
  have k0 := hK.1
  obtain ⟨pr, hp1, hp2⟩ := hR.2.2
  refine bx_iconst dX7_told_0 ?_
  refine bx_istore_n dX7_told_1 rfl (by decide) rfl ?_
  refine bx_iconst dX7_told_2 ?_
  refine bx_istore_n dX7_told_3 rfl (by decide) rfl ?_
  refine bx_iconst dX7_told_4 ?_
  refine bx_istore dX7_told_5 rfl (by decide) rfl ?_
  refine bx_iconst dX7_told_7 ?_
  refine bx_istore dX7_told_8 rfl (by decide) rfl ?_
  refine bx_aload_n dX7_told_10 rfl ?_
  refine bx_getf dX7_told_11 ck7 fg_KitePainterLaw_Kite_39 (by decide) hT.1 rfl ?_
  refine bx_astore dX7_told_14 rfl (by decide) rfl ?_
  refine bx_aload dX7_told_16 rfl ?_
  refine bx_alnq dX7_told_18 hT.2.1 (by decide) ?_
  refine bx_istore dX7_told_19 rfl (by decide) rfl ?_
  refine bx_iconst dX7_told_21 ?_
  refine bx_istore dX7_told_22 rfl (by decide) rfl ?_
  refine kl_told hT hK ?_ (nC K) 0 0 0 0 0 (by omega) rfl rfl rfl rfl
  refine bx_iload_n dX7_told_101 rfl ?_
  refine bx_if_ne (tgt := 112) dX7_told_102 (by decide) (by omega) (fun c102 => ?_) (fun c102 => ?_)
  · refine bx_iload_n dX7_told_112 rfl ?_
    refine bx_iconst dX7_told_113 ?_
    refine bx_icmp_ne (tgt := 124) dX7_told_114 (by decide) (by omega) (by omega) (fun c114 => ?_) (fun c114 => ?_)
    · refine bx_iload_n dX7_told_124 rfl ?_
      refine bx_iconst dX7_told_125 ?_
      refine bx_icmp_ne (tgt := 136) dX7_told_126 (by decide) (by omega) (by omega) (fun c126 => ?_) (fun c126 => ?_)
      · refine bx_iload_n dX7_told_136 rfl ?_
        refine bx_iconst dX7_told_137 ?_
        refine bx_icmp_ne (tgt := 145) dX7_told_138 (by decide) (by omega) (by omega) (fun c138 => ?_) (fun c138 => ?_)
        · refine bx_iload_n dX7_told_145 rfl ?_
          refine bx_iconst dX7_told_146 ?_
          refine bx_icmp_ne (tgt := 154) dX7_told_147 (by decide) (by omega) (by omega) (fun c147 => ?_) (fun c147 => ?_)
          · refine bx_iload_n dX7_told_154 rfl ?_
            refine bx_iconst dX7_told_155 ?_
            refine bx_icmp_ne (tgt := 167) dX7_told_156 (by decide) (by omega) (by omega) (fun c156 => ?_) (fun c156 => ?_)
            · refine bx_iload_n dX7_told_167 rfl ?_
              refine bx_bipush dX7_told_168 (by decide) ?_
              refine bx_icmp_ne (tgt := 178) dX7_told_170 (by decide) (by omega) (by omega) (fun c170 => ?_) (fun c170 => ?_)
              · refine bx_iload_n dX7_told_178 rfl ?_
                refine bx_bipush dX7_told_179 (by decide) ?_
                refine bx_icmp_ne (tgt := 192) dX7_told_181 (by decide) (by omega) (by omega) (fun c181 => ?_) (fun c181 => ?_)
                · refine bx_iload_n dX7_told_192 rfl ?_
                  refine bx_bipush dX7_told_193 (by decide) ?_
                  refine bx_icmp_ne (tgt := 206) dX7_told_195 (by decide) (by omega) (by omega) (fun c195 => ?_) (fun c195 => ?_)
                  · refine bx_iload_n dX7_told_206 rfl ?_
                    refine bx_bipush dX7_told_207 (by decide) ?_
                    refine bx_icmp_ne (tgt := 219) dX7_told_209 (by decide) (by omega) (by omega) (fun c209 => ?_) (fun c209 => ?_)
                    · refine bx_iload_n dX7_told_219 rfl ?_
                      refine bx_bipush dX7_told_220 (by decide) ?_
                      refine bx_icmp_ne (tgt := 233) dX7_told_222 (by decide) (by omega) (by omega) (fun c222 => ?_) (fun c222 => ?_)
                      · refine bx_iload_n dX7_told_233 rfl ?_
                        refine bx_bipush dX7_told_234 (by decide) ?_
                        refine bx_icmp_ne (tgt := 247) dX7_told_236 (by decide) (by omega) (by omega) (fun c236 => ?_) (fun c236 => ?_)
                        · refine bx_iload dX7_told_247 rfl ?_
                          obtain rfl : q = 12 := by omega
                          exact bx_iret dX7_told_249 rfl ⟨by rfl, rfl, rfl⟩
                        · refine bx_aload_n dX7_told_239 rfl ?_
                          refine bx_getf dX7_told_240 ck7 fg_KitePainterLaw_Kite_33 (by decide) hT.1 rfl ?_
                          refine bx_alnq dX7_told_243 hp1 (by decide) ?_
                          refine bx_goto (tgt := 249) dX7_told_244 (by decide) ?_
                          obtain rfl : q = 11 := by omega
                          exact bx_iret dX7_told_249 rfl ⟨by rfl, rfl, rfl⟩
                      · refine bx_aload_n dX7_told_225 rfl ?_
                        refine bx_iconst dX7_told_226 ?_
                        refine bx_cvP1 dX7_told_227 ln_X7_told_90 (Nat.le_of_ble_eq_true rfl) (by decide) hT.1 rfl (kt_half hT hK hR (by omega)) ?_
                        refine bx_goto (tgt := 249) dX7_told_230 (by decide) ?_
                        obtain rfl : q = 10 := by omega
                        exact bx_iret dX7_told_249 rfl ⟨by rw [hf_all hK]; rfl, rfl, rfl⟩
                    · refine bx_aload_n dX7_told_212 rfl ?_
                      refine bx_cvP0 dX7_told_213 ln_X7_told_111 (Nat.le_of_ble_eq_true rfl) (by decide) hT.1 rfl (kt_balance hT hK hR) ?_
                      refine bx_goto (tgt := 249) dX7_told_216 (by decide) ?_
                      obtain rfl : q = 9 := by omega
                      exact bx_iret dX7_told_249 rfl ⟨by rfl, rfl, rfl⟩
                  · refine bx_aload_n dX7_told_198 rfl ?_
                    refine bx_iconst dX7_told_199 ?_
                    refine bx_cvP1 dX7_told_200 ln_X7_told_90 (Nat.le_of_ble_eq_true rfl) (by decide) hT.1 rfl (kt_half hT hK hR (by omega)) ?_
                    refine bx_goto (tgt := 249) dX7_told_203 (by decide) ?_
                    obtain rfl : q = 8 := by omega
                    exact bx_iret dX7_told_249 rfl ⟨by rw [hf_sid hK (by omega)]; rfl, rfl, rfl⟩
                · refine bx_aload_n dX7_told_184 rfl ?_
                  refine bx_iconst dX7_told_185 ?_
                  refine bx_cvP1 dX7_told_186 ln_X7_told_90 (Nat.le_of_ble_eq_true rfl) (by decide) hT.1 rfl (kt_half hT hK hR (by omega)) ?_
                  refine bx_goto (tgt := 249) dX7_told_189 (by decide) ?_
                  obtain rfl : q = 7 := by omega
                  exact bx_iret dX7_told_249 rfl ⟨by rw [hf_sid hK (by omega)]; rfl, rfl, rfl⟩
              · refine bx_iload dX7_told_173 rfl ?_
                refine bx_goto (tgt := 249) dX7_told_175 (by decide) ?_
                obtain rfl : q = 6 := by omega
                exact bx_iret dX7_told_249 rfl ⟨by rfl, rfl, rfl⟩
            · refine bx_aload_n dX7_told_159 rfl ?_
              refine bx_iconst dX7_told_160 ?_
              refine bx_cvP1 dX7_told_161 ln_X7_told_108 (Nat.le_of_ble_eq_true rfl) (by decide) hT.1 rfl (kt_count hT hK (q := 0) (by decide)) ?_
              refine bx_goto (tgt := 249) dX7_told_164 (by decide) ?_
              obtain rfl : q = 5 := by omega
              exact bx_iret dX7_told_249 rfl ⟨by rfl, rfl, rfl⟩
          · refine bx_iload_n dX7_told_150 rfl ?_
            refine bx_goto (tgt := 249) dX7_told_151 (by decide) ?_
            obtain rfl : q = 4 := by omega
            exact bx_iret dX7_told_249 rfl ⟨by rfl, rfl, rfl⟩
        · refine bx_iload_n dX7_told_141 rfl ?_
          refine bx_goto (tgt := 249) dX7_told_142 (by decide) ?_
          obtain rfl : q = 3 := by omega
          exact bx_iret dX7_told_249 rfl ⟨by rfl, rfl, rfl⟩
      · refine bx_aload_n dX7_told_129 rfl ?_
        refine bx_getf dX7_told_130 ck7 fg_KitePainterLaw_Kite_53 (by decide) hT.1 rfl ?_
        refine bx_goto (tgt := 249) dX7_told_133 (by decide) ?_
        obtain rfl : q = 2 := by omega
        exact bx_iret dX7_told_249 rfl ⟨by rfl, rfl, rfl⟩
    · refine bx_aload_n dX7_told_117 rfl ?_
      refine bx_getf dX7_told_118 ck7 fg_KitePainterLaw_Kite_13 (by decide) hT.1 rfl ?_
      refine bx_goto (tgt := 249) dX7_told_121 (by decide) ?_
      obtain rfl : q = 1 := by omega
      exact bx_iret dX7_told_249 rfl ⟨by rfl, rfl, rfl⟩
  · refine bx_aload_n dX7_told_105 rfl ?_
    refine bx_getf dX7_told_106 ck7 fg_KitePainterLaw_Kite_7 (by decide) hT.1 rfl ?_
    refine bx_goto (tgt := 249) dX7_told_109 (by decide) ?_
    obtain rfl : q = 0 := by omega
    exact bx_iret dX7_told_249 rfl ⟨by rfl, rfl, rfl⟩
theorem kt_of (hT : KT h k w m p cl ce K) (hK : KI K) (hR : SHR h w m p K) {a i q : Nat} (hc : h a = some (.inr (6, cellF K i))) (hon : on K i = true) (hi : i < nC K) (hq : q < 4) : Gl ad sc c sl M_X7_of [.ref k, .ref a, .int (I (q : Int))] u h (fun v u1 h1 => v = .int (I (celN K i q)) ∧ u1 = u ∧ h1 = h) := by
  have hn9 := nC_le hK
  have k0 := hK.1
  have h5 := hK.2.2.2.2.1 i (by omega)
  have h6 := hK.2.2.2.2.2.1 i (by omega)
  have h7 := hK.2.2.2.2.2.2.1 i (by omega)
  refine bx_iload_n dX7_of_0 rfl ?_
  refine bx_if_ne (tgt := 11) dX7_of_1 (by decide) (by omega) (fun c1 => ?_) (fun c1 => ?_)
  · refine bx_iload_n dX7_of_11 rfl ?_
    refine bx_iconst dX7_of_12 ?_
    refine bx_icmp_ne (tgt := 23) dX7_of_13 (by decide) (by omega) (by omega) (fun c13 => ?_) (fun c13 => ?_)
    · refine bx_iload_n dX7_of_23 rfl ?_
      refine bx_iconst dX7_of_24 ?_
      refine bx_icmp_ne (tgt := 43) dX7_of_25 (by decide) (by omega) (by omega) (fun c25 => ?_) (fun c25 => ?_)
      · refine bx_iload_n dX7_of_43 rfl ?_
        refine bx_iconst dX7_of_44 ?_
        refine bx_icmp_ne (tgt := 56) dX7_of_45 (by decide) (by omega) (by omega) (fun c45 => ?_) (fun c45 => ?_)
        · exfalso
          omega
        · refine bx_aload_n dX7_of_48 rfl ?_
          refine bx_aload_n dX7_of_49 rfl ?_
          refine bx_cvP1 dX7_of_50 ln_X7_of_86 (Nat.le_of_ble_eq_true rfl) (by decide) hT.1 rfl (kt_weight hT hK hR hc (by omega)) ?_
          refine bx_goto (tgt := 65) dX7_of_53 (by decide) ?_
          obtain rfl : q = 3 := by omega
          exact bx_iret dX7_of_65 rfl ⟨by apply iq; rfl, rfl, rfl⟩
      · refine bx_aload_n dX7_of_28 rfl ?_
        refine bx_getf dX7_of_29 ck6 fg_KitePainterLaw_Kite_77 (by decide) hc rfl ?_
        refine bx_if_eq (tgt := 39) dX7_of_32 (by decide) (by omega) (fun c32 => ?_) (fun c32 => ?_)
        · refine bx_iconst dX7_of_39 ?_
          refine bx_goto (tgt := 65) dX7_of_40 (by decide) ?_
          obtain rfl : q = 2 := by omega
          exact bx_iret dX7_of_65 rfl ⟨by apply iq; show _ = (K (434 + i) : Int); omega, rfl, rfl⟩
        · refine bx_iconst dX7_of_35 ?_
          refine bx_goto (tgt := 65) dX7_of_36 (by decide) ?_
          obtain rfl : q = 2 := by omega
          exact bx_iret dX7_of_65 rfl ⟨by apply iq; show _ = (K (434 + i) : Int); omega, rfl, rfl⟩
    · refine bx_aload_n dX7_of_16 rfl ?_
      refine bx_getf dX7_of_17 ck6 fg_KitePainterLaw_Kite_93 (by decide) hc rfl ?_
      refine bx_goto (tgt := 65) dX7_of_20 (by decide) ?_
      obtain rfl : q = 1 := by omega
      exact bx_iret dX7_of_65 rfl ⟨by apply iq; rfl, rfl, rfl⟩
  · refine bx_aload_n dX7_of_4 rfl ?_
    refine bx_getf dX7_of_5 ck6 fg_KitePainterLaw_Kite_74 (by decide) hc rfl ?_
    refine bx_goto (tgt := 65) dX7_of_8 (by decide) ?_
    obtain rfl : q = 0 := by omega
    exact bx_iret dX7_of_65 rfl ⟨by apply iq; rfl, rfl, rfl⟩
theorem c31_k : Cond.constantLong M_X7_checksum.1.cls 140 31 ∈ gT := gT_mem 1341 (by decide +kernel) (by decide +kernel)
theorem kl_ck1 (hT : KT h k w m p cl ce K) (hK : KI K) (hR : SHR h w m p K) (kk : Gx ad sc M_X7_checksum 29 [.ref k, .long (ckS K 13), uk, .int (I ((13 : Nat) : Int)), uk, uk, uk, uk] [] c sl u h Q) : ∀ (n : Nat) (q : Nat), q + n = 13 → Gx ad sc M_X7_checksum 4 [.ref k, .long (ckS K q), uk, .int (I (q : Int)), uk, uk, uk, uk] [] c sl u h Q := by
  have hn9 := nC_le hK
  have k0 := hK.1
  intro n
  induction n with
  | zero =>
    intro q hi
    refine bx_iload_n dX7_checksum_4 rfl ?_
    refine bx_bipush dX7_checksum_5 (by decide) ?_
    refine bx_icmp_ge (tgt := 29) dX7_checksum_7 (by decide) (by omega) (by omega) (fun c7 => ?_) (fun c7 => ?_)
    · have e : q = 13 := by omega
      subst e
      exact kk
    · exfalso
      omega
  | succ n ih =>
    intro q hi
    refine bx_iload_n dX7_checksum_4 rfl ?_
    refine bx_bipush dX7_checksum_5 (by decide) ?_
    refine bx_icmp_ge (tgt := 29) dX7_checksum_7 (by decide) (by omega) (by omega) (fun c7 => ?_) (fun c7 => ?_)
    · exfalso
      omega
    · refine gx_ldc2 c31_k dX7_checksum_10 ?_
      refine bx_lload_n dX7_checksum_13 rfl ?_
      refine gx_lmul dX7_checksum_14 ?_
      refine bx_aload_n dX7_checksum_15 rfl ?_
      refine bx_iload_n dX7_checksum_16 rfl ?_
      refine bx_cvP1 dX7_checksum_17 ln_X7_checksum_142 (Nat.le_of_ble_eq_true rfl) (by decide) hT.1 rfl (kt_told hT hK hR (by omega)) ?_
      refine gx_i2l rfl dX7_checksum_20 ?_
      refine gx_ladd dX7_checksum_21 ?_
      refine bx_lstore_n dX7_checksum_22 rfl (by decide) rfl ?_
      refine bx_iinc dX7_checksum_23 rfl rfl (by decide) rfl ?_
      refine bx_goto (tgt := 4) dX7_checksum_26 (by decide) ?_
      exact ih (q + 1) (by omega)
theorem ckW_s {K : Nat → Nat} {i q : Nat} {v : Int64} : ckW K i v (q + 1) = 31 * ckW K i v q + (I (celN K i q)).toInt64 := rfl
theorem kl_ck2 (hT : KT h k w m p cl ce K) (hK : KI K) (hR : SHR h w m p K) {i : Nat} {v : Int64} (hi : i < nC K) (hon : on K i = true) (kk : Gx ad sc M_X7_checksum 90 [.ref k, .long (ckW K i v 4), uk, .ref cl, .int (I (nC K : Int)), .int (I (i : Int)), .ref (ce i), .int (I ((4 : Nat) : Int))] [] c sl u h Q) : ∀ (n : Nat) (q : Nat), q + n = 4 → Gx ad sc M_X7_checksum 57 [.ref k, .long (ckW K i v q), uk, .ref cl, .int (I (nC K : Int)), .int (I (i : Int)), .ref (ce i), .int (I (q : Int))] [] c sl u h Q := by
  have hn9 := nC_le hK
  have k0 := hK.1
  have hc := hT.2.2 i hi hon
  intro n
  induction n with
  | zero =>
    intro q hq
    refine bx_iload dX7_checksum_57 rfl ?_
    refine bx_iconst dX7_checksum_59 ?_
    refine bx_icmp_ge (tgt := 90) dX7_checksum_60 (by decide) (by omega) (by omega) (fun c60 => ?_) (fun c60 => ?_)
    · have e : q = 4 := by omega
      subst e
      exact kk
    · exfalso
      omega
  | succ n ih =>
    intro q hq
    refine bx_iload dX7_checksum_57 rfl ?_
    refine bx_iconst dX7_checksum_59 ?_
    refine bx_icmp_ge (tgt := 90) dX7_checksum_60 (by decide) (by omega) (by omega) (fun c60 => ?_) (fun c60 => ?_)
    · exfalso
      omega
    · refine bx_aload dX7_checksum_63 rfl ?_
      refine gx_ifnull dX7_checksum_65 ?_
      refine gx_ldc2 c31_k dX7_checksum_68 ?_
      refine bx_lload_n dX7_checksum_71 rfl ?_
      refine gx_lmul dX7_checksum_72 ?_
      refine bx_aload_n dX7_checksum_73 rfl ?_
      refine bx_aload dX7_checksum_74 rfl ?_
      refine bx_iload dX7_checksum_76 rfl ?_
      refine bx_cvP2 dX7_checksum_78 ln_X7_checksum_145 (Nat.le_of_ble_eq_true rfl) (by decide) hT.1 rfl (kt_of hT hK hR hc hon hi (by omega)) ?_
      refine gx_i2l rfl dX7_checksum_81 ?_
      refine gx_ladd dX7_checksum_82 ?_
      refine bx_lstore_n dX7_checksum_83 rfl (by decide) rfl ?_
      refine bx_iinc dX7_checksum_84 rfl rfl (by decide) rfl ?_
      refine bx_goto (tgt := 57) dX7_checksum_87 (by decide) ?_
      exact ih (q + 1) (by omega)
theorem kl_ck3 (hT : KT h k w m p cl ce K) (hK : KI K) (hR : SHR h w m p K) (kk : Gx ad sc M_X7_checksum 96 [.ref k, .long (sumC K (nC K)), uk, .ref cl, .int (I (nC K : Int)), .int (I (nC K : Int)), uk, uk] [] c sl u h Q) : ∀ (n i : Nat), i + n = nC K → Gx ad sc M_X7_checksum 41 [.ref k, .long (sumC K i), uk, .ref cl, .int (I (nC K : Int)), .int (I (i : Int)), uk, uk] [] c sl u h Q := by
  have hn9 := nC_le hK
  have k0 := hK.1
  intro n
  induction n with
  | zero =>
    intro i hi
    refine bx_iload dX7_checksum_41 rfl ?_
    refine bx_iload dX7_checksum_43 rfl ?_
    refine bx_icmp_ge (tgt := 96) dX7_checksum_45 (by decide) (by omega) (by omega) (fun c45 => ?_) (fun c45 => ?_)
    · have e : i = nC K := by omega
      subst e
      exact kk
    · exfalso
      omega
  | succ n ih =>
    intro i hi
    refine bx_iload dX7_checksum_41 rfl ?_
    refine bx_iload dX7_checksum_43 rfl ?_
    refine bx_icmp_ge (tgt := 96) dX7_checksum_45 (by decide) (by omega) (by omega) (fun c45 => ?_) (fun c45 => ?_)
    · exfalso
      omega
    · refine bx_aload_n dX7_checksum_48 rfl ?_
      refine bx_iload dX7_checksum_49 rfl ?_
      by_cases hon : on K i = true
      · have hc := hT.2.2 i (by omega) hon
        refine bx_aals (j := i) (q := ce i) dX7_checksum_51 hT.2.1 (by decide) rfl (by omega) (by omega) (if_pos hon) ?_
        refine bx_astore dX7_checksum_52 rfl (by decide) rfl ?_
        refine bx_iconst dX7_checksum_54 ?_
        refine bx_istore dX7_checksum_55 rfl (by decide) rfl ?_
        refine kl_ck2 hT hK hR (by omega) hon ?_ 4 0 rfl
        refine bx_iinc dX7_checksum_90 rfl rfl (by decide) rfl ?_
        refine bx_goto (tgt := 41) dX7_checksum_93 (by decide) ?_
        refine gx_forg (i := 7) ?_
        refine gx_forg (i := 6) ?_
        have e9 := ck_on hon
        rw [← e9]
        exact ih (i + 1) (by omega)
      · refine bx_aaln (j := i) dX7_checksum_51 hT.2.1 (by decide) rfl (by omega) (by omega) (if_neg hon) ?_
        refine bx_astoreN dX7_checksum_52 rfl (by decide) rfl ?_
        refine bx_iconst dX7_checksum_54 ?_
        refine bx_istore dX7_checksum_55 rfl (by decide) rfl ?_
        refine bx_iload dX7_checksum_57 rfl ?_
        refine bx_iconst dX7_checksum_59 ?_
        refine bx_icmp_ge (tgt := 90) dX7_checksum_60 (by decide) (by omega) (by omega) (fun c60 => ?_) (fun c60 => ?_)
        · exfalso
          omega
        · refine gx_aloadN rfl dX7_checksum_63 ?_
          refine gx_ifnullN (tgt := 90) dX7_checksum_65 (by decide) ?_
          refine bx_iinc dX7_checksum_90 rfl rfl (by decide) rfl ?_
          refine bx_goto (tgt := 41) dX7_checksum_93 (by decide) ?_
          refine gx_forg (i := 7) ?_
          refine gx_forg (i := 6) ?_
          have e9 := ck_off (K := K) (n := i) (by cases hz : on K i with | true => exact absurd hz hon | false => rfl)
          rw [← e9]
          exact ih (i + 1) (by omega)
theorem kt_checksum (hT : KT h k w m p cl ce K) (hK : KI K) (hR : SHR h w m p K) : Gl ad sc c sl M_X7_checksum [.ref k] u h (fun v u1 h1 => v = .long (sumC K (nC K)) ∧ u1 = u ∧ h1 = h) := by
  have hn9 := nC_le hK
  have k0 := hK.1
  refine gx_lconst (v := 0) (by decide) dX7_checksum_0 ?_
  refine bx_lstore_n dX7_checksum_1 rfl (by decide) rfl ?_
  refine bx_iconst dX7_checksum_2 ?_
  refine bx_istore_n dX7_checksum_3 rfl (by decide) rfl ?_
  refine kl_ck1 hT hK hR ?_ 13 0 rfl
  refine bx_aload_n dX7_checksum_29 rfl ?_
  refine bx_getf dX7_checksum_30 ck7 fg_KitePainterLaw_Kite_39 (by decide) hT.1 rfl ?_
  refine bx_astore_n dX7_checksum_33 rfl (by decide) rfl ?_
  refine bx_aload_n dX7_checksum_34 rfl ?_
  refine bx_alnq dX7_checksum_35 hT.2.1 (by decide) ?_
  refine bx_istore dX7_checksum_36 rfl (by decide) rfl ?_
  refine bx_iconst dX7_checksum_38 ?_
  refine bx_istore dX7_checksum_39 rfl (by decide) rfl ?_
  refine kl_ck3 hT hK hR ?_ (nC K) 0 (by omega)
  refine bx_lload_n dX7_checksum_96 rfl ?_
  exact bx_lret dX7_checksum_97 rfl ⟨rfl, rfl, rfl⟩
end KB2
