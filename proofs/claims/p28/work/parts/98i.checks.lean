/-! THE LAW: its first calls -/
theorem KI.fr0 : KI (freshK 5 5) := by unfold KI; decide +kernel
theorem bl_f0 : blI (freshK 5 5) 1 = 0 := by decide +kernel
theorem on_f1 : onZ (fotK (freshK 5 5) 1) 4 4 = true := by decide +kernel
theorem bal_f1 : balW (putC (fotK (freshK 5 5) 1) 4 4 6 9 true) = 0 := by decide +kernel
section LS
variable {ad : Nat → Nat} {sc : Nat × (Nat → Int32)} {u : hp} {h : hg} {Q : qg} {b r B n8 t k k2 w m p cl c sl : Nat} {ce : Nat → Nat} {K K0 : Nat → Nat} {H : Nat → Nat → Nat}
variable {rr T : Nat → Int}
set_option maxRecDepth 20000 in
theorem ls_checks (hLA : LA u (freshK 5 5) H 0 (-1) rr T) (hTX : TX T) (hr : 0 ≤ rr 1 ∧ rr 1 ≤ 600) (hc : 100 ≤ c) (hs : 1000 ≤ sl) (kk : ∀ (u1 : hp) (H1 : Nat → Nat → Nat) (c1 s1 : Nat), LA u1 (freshK 5 5) H1 0 (-1) rr T → c ≤ c1 + 20 → sl ≤ s1 + 120 → Gx ad sc M_L_law 246 [.ref (ad 3000), .int (I 1), .int (I 0), .ref (ad 0), .ref b, .ref r, uk, uk, uk, uk, uk, uk, uk, uk, uk, uk, uk, uk, uk, uk, uk, uk, uk, uk, uk, uk, uk, uk] [] c1 s1 u1 h Q) : Gx ad sc M_L_law 85 [.ref (ad 3000), .int (I 1), .int (I 0), .ref (ad 0), .ref b, .ref r, uk, uk, uk, uk, uk, uk, uk, uk, uk, uk, uk, uk, uk, uk, uk, uk, uk, uk, uk, uk, uk, uk] [] c sl u h Q := by
  obtain ⟨a1, ⟨KS, a2⟩, a3, a4, a5, a6, a7, a8, a9, ⟨n0, a10⟩, a11, a12, a13⟩ := id hLA
  have hK := KI.fr0
  refine bx_aload_n dL_law_85 rfl ?_
  refine gx_cam (n := 0) (As := []) dL_law_86 ln_L_law_231 rfl rfl (Nat.le_of_ble_eq_true rfl) (nrI (xs := [])) ⟨_, a3⟩ rfl (Or.inl rfl) (sp_errorOffset (Nat.le_refl _) a3) (fun r9 u9 hq9 => ?_)
  obtain ⟨hv9, rfl⟩ := hq9
  cases hv9
  refine bx_iconst dL_law_89 ?_
  refine gx_icmp_ne (tgt := 244) dL_law_90 (by decide) (fun q9 => absurd (rfl) q9) (fun _ => ?_)
  refine bx_aload_n dL_law_93 rfl ?_
  refine gx_cam (n := 0) (As := []) dL_law_94 ln_L_law_234 rfl rfl (Nat.le_of_ble_eq_true rfl) (nrI (xs := [])) ⟨_, a3⟩ rfl (Or.inl rfl) (sp_undo0 (Nat.le_refl _) a3 a1 hK a4) (fun r9 u9 hq9 => ?_)
  obtain ⟨hv9, rfl⟩ := hq9
  cases hv9
  refine bx_iconst dL_law_97 ?_
  refine gx_icmp_ne (tgt := 244) dL_law_98 (by decide) (fun q9 => absurd (rfl) q9) (fun _ => ?_)
  refine bx_aload_n dL_law_101 rfl ?_
  refine bx_iconst dL_law_102 ?_
  refine bx_iconst dL_law_103 ?_
  refine bx_iconst dL_law_104 ?_
  refine bx_iconst dL_law_105 ?_
  refine bx_iconst dL_law_106 ?_
  refine gx_cwr (n := 6) (As := [.int (I 5), .int (I 0), .int (I 1), .int (I 1), .int (I 0)]) dL_law_107 ln_L_law_237 rfl (Nat.le_of_ble_eq_true rfl) (nrI (xs := [I 5, I 0, I 1, I 1, I 0])) (by omega) (by omega) (fun Γ l St adV hE hX hl9 hLn => wx_paint0 hE hX hl9 hLn (by decide) a3 (sx_paint1 (Nat.le_refl _) a3 a1 hK (x := 5) (by omega) (y := 0) (by omega) (c := 1) (by omega) (w := 1) (by omega) (bz := 0) (by decide +kernel))) (fun r9 u9 hq9 => ?_)
  obtain ⟨rfl, rfl⟩ := hq9
  refine gx_ldcI (cn_L_52 rfl) dL_law_110 ?_
  refine gx_icmp_ne (tgt := 244) dL_law_112 (by decide) (fun q9 => absurd (rfl) q9) (fun _ => ?_)
  refine bx_aload_n dL_law_115 rfl ?_
  refine bx_iconst dL_law_116 ?_
  refine bx_iconst dL_law_117 ?_
  refine bx_bipush dL_law_118 (by decide) ?_
  refine bx_iconst dL_law_120 ?_
  refine bx_iconst dL_law_121 ?_
  refine gx_cwr (n := 6) (As := [.int (I 0), .int (I 0), .int (I 7), .int (I 1), .int (I 0)]) dL_law_122 ln_L_law_237 rfl (Nat.le_of_ble_eq_true rfl) (nrI (xs := [I 0, I 0, I 7, I 1, I 0])) (by omega) (by omega) (fun Γ l St adV hE hX hl9 hLn => wx_paint1 hE hX hl9 hLn (by decide) a3 (sx_paint2 (Nat.le_refl _) a3 a1 hK (x := 0) (by omega) (y := 0) (by omega) (c := 7) (by omega) (w := 1) (by omega) (bz := 0) (by decide +kernel) (by omega))) (fun r9 u9 hq9 => ?_)
  obtain ⟨rfl, rfl⟩ := hq9
  refine gx_ldcI (cn_L_42 rfl) dL_law_125 ?_
  refine gx_icmp_ne (tgt := 244) dL_law_127 (by decide) (fun q9 => absurd (rfl) q9) (fun _ => ?_)
  refine bx_aload_n dL_law_130 rfl ?_
  refine bx_iconst dL_law_131 ?_
  refine bx_iconst dL_law_132 ?_
  refine bx_iconst dL_law_133 ?_
  refine bx_iconst dL_law_134 ?_
  refine bx_iconst dL_law_135 ?_
  refine gx_cwr (n := 6) (As := [.int (I 0), .int (I 0), .int (I 4), .int (I 1), .int (I 1)]) dL_law_136 ln_L_law_240 rfl (Nat.le_of_ble_eq_true rfl) (nrI (xs := [I 0, I 0, I 4, I 1, I 1])) (by omega) (by omega) (fun Γ l St adV hE hX hl9 hLn => wx_stroke1 hE hX hl9 hLn (by decide) a3 (sx_stroke2 (Nat.le_refl _) a3 a1 hK (x := 0) (by omega) (y := 0) (by omega) (a := 4) (by omega) (z := 1) (by omega) (w := 1) (by omega) (by decide +kernel) (by omega))) (fun r9 u9 hq9 => ?_)
  obtain ⟨rfl, rfl⟩ := hq9
  refine gx_ldcI (cn_L_42 rfl) dL_law_139 ?_
  refine gx_icmp_ne (tgt := 244) dL_law_141 (by decide) (fun q9 => absurd (rfl) q9) (fun _ => ?_)
  refine bx_aload_n dL_law_144 rfl ?_
  refine bx_iconst dL_law_145 ?_
  refine bx_iconst dL_law_146 ?_
  refine bx_iconst dL_law_147 ?_
  refine bx_iconst dL_law_148 ?_
  refine gx_cwr (n := 5) (As := [.int (I 0), .int (I 0), .int (I 0), .int (I 1)]) dL_law_149 ln_L_law_243 rfl (Nat.le_of_ble_eq_true rfl) (nrI (xs := [I 0, I 0, I 0, I 1])) (by omega) (by omega) (fun Γ l St adV hE hX hl9 hLn => wx_stamp0 hE hX hl9 hLn (by decide) a3 (sx_stamp1 (Nat.le_refl _) a3 a1 hK (a := 0) (by omega) (by decide +kernel))) (fun r9 u9 hq9 => ?_)
  obtain ⟨rfl, rfl⟩ := hq9
  refine gx_ldcI (cn_L_52 rfl) dL_law_152 ?_
  refine gx_icmp_ne (tgt := 244) dL_law_154 (by decide) (fun q9 => absurd (rfl) q9) (fun _ => ?_)
  refine bx_aload_n dL_law_157 rfl ?_
  refine bx_iconst dL_law_158 ?_
  refine bx_iconst dL_law_159 ?_
  refine gx_cwr (n := 3) (As := [.int (I 0), .int (I 0)]) dL_law_160 ln_L_law_246 rfl (Nat.le_of_ble_eq_true rfl) (nrI (xs := [I 0, I 0])) (by omega) (by omega) (fun Γ l St adV hE hX hl9 hLn => wx_strip1 hE hX hl9 hLn (by decide) a3 (sx_strip2 (Nat.le_refl _) a3 a1 hK (x := 0) (by omega) (y := 0) (by omega) (by decide +kernel) (by decide +kernel))) (fun r9 u9 hq9 => ?_)
  obtain ⟨rfl, rfl⟩ := hq9
  refine gx_ldcI (cn_L_101 rfl) dL_law_163 ?_
  refine gx_icmp_ne (tgt := 244) dL_law_165 (by decide) (fun q9 => absurd (rfl) q9) (fun _ => ?_)
  refine bx_aload_n dL_law_168 rfl ?_
  refine bx_iconst dL_law_169 ?_
  refine bx_iconst dL_law_170 ?_
  refine gx_cwr (n := 3) (As := [.int (I 0), .int (I 0)]) dL_law_171 ln_L_law_248 rfl (Nat.le_of_ble_eq_true rfl) (nrI (xs := [I 0, I 0])) (by omega) (by omega) (fun Γ l St adV hE hX hl9 hLn => wx_wash1 hE hX hl9 hLn (by decide) a3 (sx_wash2 (Nat.le_refl _) a3 a1 hK (x := 0) (by omega) (y := 0) (by omega) (by decide +kernel) (by decide +kernel))) (fun r9 u9 hq9 => ?_)
  obtain ⟨rfl, rfl⟩ := hq9
  refine gx_ldcI (cn_L_101 rfl) dL_law_174 ?_
  refine gx_icmp_ne (tgt := 244) dL_law_176 (by decide) (fun q9 => absurd (rfl) q9) (fun _ => ?_)
  refine bx_aload_n dL_law_179 rfl ?_
  refine bx_iconst dL_law_180 ?_
  refine bx_iconst dL_law_181 ?_
  refine bx_iconst dL_law_182 ?_
  refine bx_iconst dL_law_183 ?_
  refine gx_cwr (n := 5) (As := [.int (I 0), .int (I 0), .int (I 1), .int (I 0)]) dL_law_184 ln_L_law_250 rfl (Nat.le_of_ble_eq_true rfl) (nrI (xs := [I 0, I 0, I 1, I 0])) (by omega) (by omega) (fun Γ l St adV hE hX hl9 hLn => wx_spar1 hE hX hl9 hLn (by decide) a3 (sx_spar2 (Nat.le_refl _) a3 a1 hK (x := 0) (by omega) (y := 0) (by omega) (a := 0) (by omega) (by decide +kernel) (by omega))) (fun r9 u9 hq9 => ?_)
  obtain ⟨rfl, rfl⟩ := hq9
  refine gx_ldcI (cn_L_42 rfl) dL_law_187 ?_
  refine gx_icmp_ne (tgt := 244) dL_law_189 (by decide) (fun q9 => absurd (rfl) q9) (fun _ => ?_)
  refine bx_aload_n dL_law_192 rfl ?_
  refine bx_bipush dL_law_193 (by decide) ?_
  refine gx_cwr (n := 2) (As := [.int (I 21)]) dL_law_195 ln_L_law_253 rfl (Nat.le_of_ble_eq_true rfl) (nrI (xs := [I 21])) (by omega) (by omega) (fun Γ l St adV hE hX hl9 hLn => wx_pass0 hE hX hl9 hLn (by decide) a3 (sx_pass (Nat.le_refl _) (a := 21) (by omega) (by omega))) (fun r9 u9 hq9 => ?_)
  obtain ⟨rfl, rfl⟩ := hq9
  refine gx_ldcI (cn_L_42 rfl) dL_law_198 ?_
  refine gx_icmp_ne (tgt := 244) dL_law_200 (by decide) (fun q9 => absurd (rfl) q9) (fun _ => ?_)
  refine bx_aload_n dL_law_203 rfl ?_
  refine bx_iconst dL_law_204 ?_
  refine gx_cwr (n := 2) (As := [.int (I 1)]) dL_law_205 ln_L_law_253 rfl (Nat.le_of_ble_eq_true rfl) (nrI (xs := [I 1])) (by omega) (by omega) (fun Γ l St adV hE hX hl9 hLn => wr_pass hE hX hl9 (by decide) a3 (sp_pass (Nat.le_refl _) a3 a1 hK a4 a7 a8 a9 (a := 1) (by omega) (by omega))) (fun r9 u9 hq9 => ?_)
  obtain ⟨e9, q1, q2, q4, q5, q3⟩ := hq9
  cases e9
  have L1 := hLA.nP (K1 := fotK (freshK 5 5) 1) q1 q2 q4 q5 q3
  rw [show blI (freshK 5 5) (1 : Int).toNat = 0 from bl_f0]
  clear a1 a2 a3 a4 a5 a6 a7 a8 a9 a10 a11 a12 a13
  obtain ⟨a1, ⟨KS1, a2⟩, a3, a4, a5, a6, a7, a8, a9, ⟨n1, a10⟩, a11, a12, a13⟩ := id L1
  refine bx_if_ne (tgt := 244) dL_law_208 (by decide) (by decide) (fun c208 => ?_) (fun c208 => ?_)
  · exact absurd rfl c208
  · refine bx_aload_n dL_law_211 rfl ?_
    refine bx_iconst dL_law_212 ?_
    refine bx_iconst dL_law_213 ?_
    refine bx_bipush dL_law_214 (by decide) ?_
    refine bx_bipush dL_law_216 (by decide) ?_
    refine bx_iconst dL_law_218 ?_
    refine gx_cwr (n := 6) (As := [.int (I 4), .int (I 4), .int (I 6), .int (I 9), .int (I 1)]) dL_law_219 ln_L_law_237 rfl (Nat.le_of_ble_eq_true rfl) (nrI (xs := [I 4, I 4, I 6, I 9, I 1])) (by omega) (by omega) (fun Γ l St adV hE hX hl9 hLn => wr_paint hE hX hl9 (by decide) a3 (sp_paint (Nat.le_refl _) a3 a1 (hK.fot 1) a4 (x := 4) (by omega) (y := 4) (by omega) (c := 6) (by omega) (w := 9) (by omega) (mi := true) on_f1 (by omega) (by omega))) (fun r9 u9 hq9 => ?_)
    obtain ⟨e9, q1, q2, q3⟩ := hq9
    cases e9
    have L2 := L1.nB (K1 := putC (fotK (freshK 5 5) 1) 4 4 6 9 true) q1 q2 q3
    rw [show balW (putC (fotK (freshK 5 5) 1) 4 4 (6 : Int).toNat (9 : Int).toNat true) = 0 from bal_f1]
    clear a1 a2 a3 a4 a5 a6 a7 a8 a9 a10 a11 a12 a13
    obtain ⟨a1, ⟨KS2, a2⟩, a3, a4, a5, a6, a7, a8, a9, ⟨n2, a10⟩, a11, a12, a13⟩ := id L2
    refine bx_if_ne (tgt := 244) dL_law_222 (by decide) (by decide) (fun c222 => ?_) (fun c222 => ?_)
    · exact absurd rfl c222
    · refine bx_aload_n dL_law_225 rfl ?_
      refine gx_cam (n := 0) (As := []) dL_law_226 ln_L_law_234 rfl rfl (Nat.le_of_ble_eq_true rfl) (nrI (xs := [])) ⟨_, a3⟩ rfl (Or.inl rfl) (sp_undo (Nat.le_refl _) a3 a1 ((hK.fot 1).pC (by decide) (by decide)) a4 (by decide)) (fun r9 u9 hq9 => ?_)
      obtain ⟨e9, q2, q1, q3⟩ := hq9
      cases e9
      have L3 := L2.nU q1 q2 q3
      clear a1 a2 a3 a4 a5 a6 a7 a8 a9 a10 a11 a12 a13
      obtain ⟨a1, ⟨KS3, a2⟩, a3, a4, a5, a6, a7, a8, a9, ⟨n3, a10⟩, a11, a12, a13⟩ := id L3
      refine bx_iconst dL_law_229 ?_
      refine gx_icmp_ne (tgt := 244) dL_law_230 (by decide) (fun q9 => absurd (by decide) q9) (fun _ => ?_)
      refine bx_aload_n dL_law_233 rfl ?_
      refine gx_cam (n := 0) (As := []) dL_law_234 ln_L_law_234 rfl rfl (Nat.le_of_ble_eq_true rfl) (nrI (xs := [])) ⟨_, a3⟩ rfl (Or.inl rfl) (sp_undo (Nat.le_refl _) a3 a1 (hK.fot 1) a4 (by decide)) (fun r9 u9 hq9 => ?_)
      obtain ⟨e9, q2, q1, q3⟩ := hq9
      cases e9
      have L4 := L3.nU q1 q2 q3
      refine bx_if_ne (tgt := 244) dL_law_237 (by decide) (by decide) (fun c237 => ?_) (fun c237 => ?_)
      · exact absurd rfl c237
      · refine bx_iconst dL_law_240 ?_
        refine bx_goto (tgt := 245) dL_law_241 (by decide) ?_
        refine bx_istore_n dL_law_245 rfl (by decide) rfl ?_
        exact kk _ _ _ _ L4 (by omega) (by omega)
end LS
