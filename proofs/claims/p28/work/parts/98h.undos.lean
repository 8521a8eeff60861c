/-! THE LAW: twenty turns; the undos; what is refused at the end -/
section LS
variable {ad : Nat → Nat} {sc : Nat × (Nat → Int32)} {u : hp} {h : hg} {Q : qg} {b r B n8 t k k2 w m p cl c sl : Nat} {ce : Nat → Nat} {K K0 : Nat → Nat} {H : Nat → Nat → Nat}
set_option maxRecDepth 20000 in
theorem lw_loop (kk : ∀ (u1 : hp) (h1 : hg) (K1 : Nat → Nat) (n1 : Nat) (H1 : Nat → Nat → Nat) (c1 s1 : Nat), LZ u1 K1 H1 (min (n1 + 1) 8) → KV h1 r B n1 k w m p cl ce K1 H1 → n1 ≤ 20 → 1000 ≤ c1 → 10000 ≤ s1 → Gx ad sc M_L_law 1086 [.ref (ad 3000), .int (I 1), .int (I 0), .ref (ad 0), .ref b, .ref r, .ref k, .ref B, .int (I (n1 : Int)), .int (I ((20 : Nat) : Int)), uk, uk, uk, uk, uk, uk, uk, uk, uk, uk, uk, uk, uk, uk, uk, uk, uk, uk] [] c1 s1 u1 h1 Q) : ∀ (n t : Nat) (u : hp) (h : hg) (K : Nat → Nat) (n8 : Nat) (H : Nat → Nat → Nat) (c1 s1 : Nat), t + n = 20 → LZ u K H (min (n8 + 1) 8) → KV h r B n8 k w m p cl ce K H → n8 ≤ t → 1000 + 1300 * n ≤ c1 → 10000 + 7500 * n ≤ s1 → Gx ad sc M_L_law 295 [.ref (ad 3000), .int (I 1), .int (I 0), .ref (ad 0), .ref b, .ref r, .ref k, .ref B, .int (I (n8 : Int)), .int (I (t : Int)), uk, uk, uk, uk, uk, uk, uk, uk, uk, uk, uk, uk, uk, uk, uk, uk, uk, uk] [] c1 s1 u h Q := by
  intro n
  induction n with
  | zero =>
    intro t u h K n8 H c1 s1 ht hZ hV hn hc hs
    refine bx_iload dL_law_295 rfl ?_
    refine bx_bipush dL_law_297 (by decide) ?_
    refine bx_icmp_ge (tgt := 1086) dL_law_299 (by decide) (by omega) (by omega) (fun c299 => ?_) (fun c299 => ?_)
    · obtain rfl : t = 20 := by omega
      exact kk _ _ _ _ _ _ _ hZ hV hn (by omega) (by omega)
    · exfalso
      omega
  | succ n ih =>
    intro t u h K n8 H c1 s1 ht hZ hV hn hc hs
    refine bx_iload dL_law_295 rfl ?_
    refine bx_bipush dL_law_297 (by decide) ?_
    refine bx_icmp_ge (tgt := 1086) dL_law_299 (by decide) (by omega) (by omega) (fun c299 => ?_) (fun c299 => ?_)
    · exfalso
      omega
    · refine bx_iload_n dL_law_302 rfl ?_
      refine bx_if_eq (tgt := 1086) dL_law_303 (by decide) (by decide) (fun c303 => ?_) (fun c303 => ?_)
      · exact absurd c303 (by decide)
      · refine lw_turn hZ hV (by omega) (by omega) (by omega) (fun u6 h6 K6 n6 H6 c6 s6 Z6 V6 b6 b7 b8 => ?_)
        refine bx_iload_n dL_law_1061 rfl ?_
        refine bx_if_eq (tgt := 1078) dL_law_1062 (by decide) (by decide) (fun c1062 => ?_) (fun c1062 => ?_)
        · exact absurd c1062 (by decide)
        · refine bx_aload_n dL_law_1065 rfl ?_
          refine bx_aload dL_law_1066 rfl ?_
          refine bx_cs2 dL_law_1068 ln_L_law_227 (Nat.le_of_ble_eq_true rfl) (by decide) (by omega) (by omega) (kt_agrees Z6 V6.1 V6.2.1) (fun v9 u9 h9 hq9 => ?_)
          obtain ⟨rfl, rfl, rfl⟩ := hq9
          refine bx_if_eq (tgt := 1078) dL_law_1071 (by decide) (by decide) (fun c1071 => ?_) (fun c1071 => ?_)
          · exact absurd c1071 (by decide)
          · refine bx_iconst dL_law_1074 ?_
            refine bx_goto (tgt := 1079) dL_law_1075 (by decide) ?_
            refine bx_istore_n dL_law_1079 rfl (by decide) rfl ?_
            refine bx_iinc dL_law_1080 rfl rfl (by decide) rfl ?_
            refine bx_goto (tgt := 295) dL_law_1083 (by decide) ?_
            exact ih (t + 1) _ _ _ _ _ _ _ (by omega) Z6 V6 (by omega) (by omega) (by omega)
theorem lw_end {x9 : Int} {d : Nat} (hZ : LZ u K H d) (hn : n8 ≤ 20) (hc : 100 ≤ c) (hs : 1000 ≤ sl) (hQ : Q (.int (I 1)) u h) : Gx ad sc M_L_law 1138 [.ref (ad 3000), .int (I 1), .int (I 0), .ref (ad 0), .ref b, .ref r, .ref k, .ref B, .int (I (n8 : Int)), .int (I x9), uk, uk, uk, uk, uk, uk, uk, uk, uk, uk, uk, uk, uk, uk, uk, uk, uk, uk] [] c sl u h Q := by
  obtain ⟨⟨e, rr, T, hLA, hTX, hr0, hr6⟩, hK, hH⟩ := id hZ
  obtain ⟨a1, ⟨KS, a2⟩, a3, a4, a5, a6, a7, a8, a9, ⟨n0, a10⟩, a11, a12, a13⟩ := id hLA
  have k0 := hK.1
  have hn9 := nC_le hK
  refine bx_iload_n dL_law_1138 rfl ?_
  refine bx_if_eq (tgt := 1236) dL_law_1139 (by decide) (by decide) (fun c1139 => ?_) (fun c1139 => ?_)
  · exact absurd c1139 (by decide)
  · refine bx_aload_n dL_law_1142 rfl ?_
    refine bx_sipush dL_law_1143 (by decide) ?_
    refine gx_cwr (n := 2) (As := [.int (I 601)]) dL_law_1146 ln_L_law_19 rfl (Nat.le_of_ble_eq_true rfl) (nrI (xs := [I 601])) (by omega) (by omega) (fun Γ l St adV hE hX hl9 hLn => wx_load0 hE hX hl9 hLn (by decide) a3 (sx_load (Nat.le_refl _) (z := 601) (by omega) a3 a5 ⟨hr0, hr6⟩ (by omega))) (fun r9 u9 hq9 => ?_)
    obtain ⟨rfl, rfl⟩ := hq9
    refine gx_ldcI (cn_L_42 rfl) dL_law_1149 ?_
    refine gx_icmp_ne (tgt := 1236) dL_law_1151 (by decide) (fun q9 => absurd (rfl) q9) (fun _ => ?_)
    refine bx_aload_n dL_law_1154 rfl ?_
    refine bx_iconst dL_law_1155 ?_
    refine bx_iconst dL_law_1156 ?_
    refine gx_cwr (n := 3) (As := [.int (I 0), .int (I 1)]) dL_law_1157 ln_L_law_291 rfl (Nat.le_of_ble_eq_true rfl) (nrI (xs := [I 0, I 1])) (by omega) (by omega) (fun Γ l St adV hE hX hl9 hLn => wx_mix0 hE hX hl9 hLn (by decide) a3 (sx_mix (Nat.le_refl _) (a := 0) (by omega) (c := 1) (by omega) (by omega))) (fun r9 u9 hq9 => ?_)
    obtain ⟨rfl, rfl⟩ := hq9
    refine gx_ldcI (cn_L_42 rfl) dL_law_1160 ?_
    refine gx_icmp_ne (tgt := 1236) dL_law_1162 (by decide) (fun q9 => absurd (rfl) q9) (fun _ => ?_)
    refine bx_aload_n dL_law_1165 rfl ?_
    refine bx_bipush dL_law_1166 (by decide) ?_
    refine gx_cwr (n := 2) (As := [.int (I 7)]) dL_law_1168 ln_L_law_293 rfl (Nat.le_of_ble_eq_true rfl) (nrI (xs := [I 7])) (by omega) (by omega) (fun Γ l St adV hE hX hl9 hLn => wx_count0 hE hX hl9 hLn (by decide) a3 (sx_count (Nat.le_refl _) (a := 7) (by omega) (by omega))) (fun r9 u9 hq9 => ?_)
    obtain ⟨rfl, rfl⟩ := hq9
    refine gx_ldcI (cn_L_42 rfl) dL_law_1171 ?_
    refine gx_icmp_ne (tgt := 1236) dL_law_1173 (by decide) (fun q9 => absurd (rfl) q9) (fun _ => ?_)
    refine bx_aload_n dL_law_1176 rfl ?_
    refine bx_iconst dL_law_1177 ?_
    refine bx_iconst dL_law_1178 ?_
    refine gx_cwr (n := 3) (As := [.int (I (-1)), .int (I 0)]) dL_law_1179 ln_L_law_295 rfl (Nat.le_of_ble_eq_true rfl) (nrI (xs := [I (-1), I 0])) (by omega) (by omega) (fun Γ l St adV hE hX hl9 hLn => wx_region0 hE hX hl9 hLn (by decide) a3 (sx_region (Nat.le_refl _) a3 a1 hK (x := -1) (by omega) (y := 0) (by omega) (by rw [onZ_out hK (by omega)]; decide))) (fun r9 u9 hq9 => ?_)
    obtain ⟨rfl, rfl⟩ := hq9
    refine gx_ldcI (cn_L_52 rfl) dL_law_1182 ?_
    refine gx_icmp_ne (tgt := 1236) dL_law_1184 (by decide) (fun q9 => absurd (rfl) q9) (fun _ => ?_)
    refine bx_aload_n dL_law_1187 rfl ?_
    refine bx_iconst dL_law_1188 ?_
    refine gx_cwr (n := 2) (As := [.int (I (-1))]) dL_law_1189 ln_L_law_297 rfl (Nat.le_of_ble_eq_true rfl) (nrI (xs := [I (-1)])) (by omega) (by omega) (fun Γ l St adV hE hX hl9 hLn => wx_regions0 hE hX hl9 hLn (by decide) a3 (sx_regions (Nat.le_refl _) (a := -1) (by omega) (by omega))) (fun r9 u9 hq9 => ?_)
    obtain ⟨rfl, rfl⟩ := hq9
    refine gx_ldcI (cn_L_42 rfl) dL_law_1192 ?_
    refine gx_icmp_ne (tgt := 1236) dL_law_1194 (by decide) (fun q9 => absurd (rfl) q9) (fun _ => ?_)
    refine bx_aload_n dL_law_1197 rfl ?_
    refine bx_iconst dL_law_1198 ?_
    refine bx_bipush dL_law_1199 (by decide) ?_
    refine gx_cwr (n := 3) (As := [.int (I 0), .int (I 12)]) dL_law_1201 ln_L_law_299 rfl (Nat.le_of_ble_eq_true rfl) (nrI (xs := [I 0, I 12])) (by omega) (by omega) (fun Γ l St adV hE hX hl9 hLn => wx_bleeds0 hE hX hl9 hLn (by decide) a3 (sx_bleeds (Nat.le_refl _) a3 a1 hK (x := 0) (by omega) (y := 12) (by omega) (by rw [onZ_out hK (by omega)]; decide))) (fun r9 u9 hq9 => ?_)
    obtain ⟨rfl, rfl⟩ := hq9
    refine gx_ldcI (cn_L_52 rfl) dL_law_1204 ?_
    refine gx_icmp_ne (tgt := 1236) dL_law_1206 (by decide) (fun q9 => absurd (rfl) q9) (fun _ => ?_)
    refine bx_aload_n dL_law_1209 rfl ?_
    refine bx_bipush dL_law_1210 (by decide) ?_
    refine bx_iconst dL_law_1212 ?_
    refine gx_cwr (n := 3) (As := [.int (I 41), .int (I 0)]) dL_law_1213 ln_L_law_301 rfl (Nat.le_of_ble_eq_true rfl) (nrI (xs := [I 41, I 0])) (by omega) (by omega) (fun Γ l St adV hE hX hl9 hLn => wx_foretold0 hE hX hl9 hLn (by decide) a3 (sx_foretold (Nat.le_refl _) (a := 41) (by omega) (z := 0) (by omega) (by omega))) (fun r9 u9 hq9 => ?_)
    obtain ⟨rfl, rfl⟩ := hq9
    refine gx_ldcI (cn_L_42 rfl) dL_law_1216 ?_
    refine gx_icmp_ne (tgt := 1236) dL_law_1218 (by decide) (fun q9 => absurd (rfl) q9) (fun _ => ?_)
    refine bx_aload_n dL_law_1221 rfl ?_
    refine bx_bipush dL_law_1222 (by decide) ?_
    refine gx_cwr (n := 2) (As := [.int (I 7)]) dL_law_1224 ln_L_law_303 rfl (Nat.le_of_ble_eq_true rfl) (nrI (xs := [I 7])) (by omega) (by omega) (fun Γ l St adV hE hX hl9 hLn => wx_evens0 hE hX hl9 hLn (by decide) a3 (sx_evens (Nat.le_refl _) (a := 7) (by omega) (by omega))) (fun r9 u9 hq9 => ?_)
    obtain ⟨rfl, rfl⟩ := hq9
    refine gx_ldcI (cn_L_42 rfl) dL_law_1227 ?_
    refine gx_icmp_ne (tgt := 1236) dL_law_1229 (by decide) (fun q9 => absurd (rfl) q9) (fun _ => ?_)
    refine bx_iconst dL_law_1232 ?_
    refine bx_goto (tgt := 1237) dL_law_1233 (by decide) ?_
    refine bx_istore_n dL_law_1237 rfl (by decide) rfl ?_
    refine bx_iinc dL_law_1238 rfl rfl (by decide) rfl ?_
    refine bx_goto (tgt := 4) dL_law_1241 (by decide) ?_
    refine bx_iload_n dL_law_4 rfl ?_
    refine bx_aload_n dL_law_5 rfl ?_
    refine gx_slen (v := Int32.ofNat sc.1) rfl dL_law_6 ?_
    refine gx_icmp_ge (tgt := 1244) dL_law_7 (by decide) (fun q9 => ?_) (fun q9 => ?_)
    · refine bx_iload_n dL_law_1244 rfl ?_
      exact bx_zret dL_law_1245 rfl (by first | exact Or.inl rfl | exact Or.inr rfl) hQ
    · refine bx_iload_n dL_law_10 rfl ?_
      refine bx_iconst dL_law_11 ?_
      refine bx_icmp_ge (tgt := 1244) dL_law_12 (by decide) (by omega) (by omega) (fun c12 => ?_) (fun c12 => ?_)
      · refine bx_iload_n dL_law_1244 rfl ?_
        exact bx_zret dL_law_1245 rfl (by first | exact Or.inl rfl | exact Or.inr rfl) hQ
      · exfalso
        omega
set_option maxRecDepth 20000 in
theorem lw_undo {D : Nat → Prop} {H : Nat → Nat → Nat} {N9 : Nat} (hn : N9 ≤ 20) (hB : BF h B N9 H w m p D) (kk : ∀ (u1 : hp) (x9 : Int) (K1 : Nat → Nat) (H1 : Nat → Nat → Nat) (d1 c1 s1 : Nat), LZ u1 K1 H1 d1 → 100 ≤ c1 → 1000 ≤ s1 → Gx ad sc M_L_law 1138 [.ref (ad 3000), .int (I 1), .int (I 0), .ref (ad 0), .ref b, .ref r, .ref k, .ref B, .int (I (N9 : Int)), .int (I x9), uk, uk, uk, uk, uk, uk, uk, uk, uk, uk, uk, uk, uk, uk, uk, uk, uk, uk] [] c1 s1 u1 h Q) : ∀ (n j : Nat) (u : hp) (K : Nat → Nat) (c1 s1 : Nat), j + n = 8 → j ≤ N9 → LZ u K (fun t => H (t + j)) (min (N9 + 1) 8 - j) → 100 + 40 * n ≤ c1 → 1000 + 240 * n ≤ s1 → Gx ad sc M_L_law 1089 [.ref (ad 3000), .int (I 1), .int (I 0), .ref (ad 0), .ref b, .ref r, .ref k, .ref B, .int (I (N9 : Int)), .int (I (j : Int)), uk, uk, uk, uk, uk, uk, uk, uk, uk, uk, uk, uk, uk, uk, uk, uk, uk, uk] [] c1 s1 u h Q := by
  intro n
  induction n with
  | zero =>
    intro j u K c1 s1 hj hj9 hZ hc hs
    refine bx_iload dL_law_1089 rfl ?_
    refine bx_bipush dL_law_1091 (by decide) ?_
    refine bx_icmp_ge (tgt := 1138) dL_law_1093 (by decide) (by omega) (by omega) (fun c1093 => ?_) (fun c1093 => ?_)
    · exact kk _ _ _ _ _ _ _ hZ (by omega) (by omega)
    · exfalso
      omega
  | succ n ih =>
    intro j u K c1 s1 hj hj9 hZ hc hs
    obtain ⟨⟨e, rr, T, hLA, hTX, hr0, hr6⟩, hK, hH⟩ := id hZ
    obtain ⟨a1, ⟨KS, a2⟩, a3, a4, a5, a6, a7, a8, a9, ⟨n0, a10⟩, a11, a12, a13⟩ := id hLA
    have k0 := hK.1
    have hn9 := nC_le hK
    refine bx_iload dL_law_1089 rfl ?_
    refine bx_bipush dL_law_1091 (by decide) ?_
    refine bx_icmp_ge (tgt := 1138) dL_law_1093 (by decide) (by omega) (by omega) (fun c1093 => ?_) (fun c1093 => ?_)
    · exfalso
      omega
    · refine bx_iload dL_law_1096 rfl ?_
      refine bx_iload dL_law_1098 rfl ?_
      refine bx_icmp_ge (tgt := 1138) dL_law_1100 (by decide) (by omega) (by omega) (fun c1100 => ?_) (fun c1100 => ?_)
      · exact kk _ _ _ _ _ _ _ hZ (by omega) (by omega)
      · refine bx_iload_n dL_law_1103 rfl ?_
        refine bx_if_eq (tgt := 1138) dL_law_1104 (by decide) (by decide) (fun c1104 => ?_) (fun c1104 => ?_)
        · exact absurd c1104 (by decide)
        · refine bx_aload_n dL_law_1107 rfl ?_
          refine gx_cam (n := 0) (As := []) dL_law_1108 ln_L_law_234 rfl rfl (Nat.le_of_ble_eq_true rfl) (nrI (xs := [])) ⟨_, a3⟩ rfl (Or.inl rfl) (sp_undo (Nat.le_refl _) a3 a1 hK a4 (by omega)) (fun r9 u9 hq9 => ?_)
          obtain ⟨e9, q2, q1, q3⟩ := hq9
          cases e9
          have Z9 := hZ.nU (by omega) q1 q2 q3
          refine bx_if_lt (tgt := 1130) dL_law_1111 (by decide) (by omega) (fun c1111 => ?_) (fun c1111 => ?_)
          · exfalso
            omega
          · obtain ⟨f, hf, hft⟩ := hB
            obtain ⟨kt, e9, clt, cet, hTt, hRt, -⟩ : ∃ kt, f j = some kt ∧ BFt h kt w m p (H j) D := by
              rcases hft j (by omega) with ⟨-, z9⟩ | ⟨z9, -⟩
              · exact z9
              · omega
            have Z8 : LZ u9 (H j) (fun t => H (t + (j + 1))) (min (N9 + 1) 8 - (j + 1)) := by
              have e1 : (fun t => H (t + (j + 1))) = (fun t => H (t + 1 + j)) := funext fun t => by rw [show t + 1 + j = t + (j + 1) by omega]
              have e2 : H j = H (0 + j) := by rw [Nat.zero_add]
              rw [e1, e2, show min (N9 + 1) 8 - (j + 1) = min (N9 + 1) 8 - j - 1 by omega]
              exact Z9
            refine bx_aload_n dL_law_1114 rfl ?_
            refine bx_aload dL_law_1115 rfl ?_
            refine bx_iload dL_law_1117 rfl ?_
            refine bx_aals (j := j) (q := kt) dL_law_1119 hf (by decide) rfl (by omega) (by omega) e9 ?_
            refine bx_cs2 dL_law_1120 ln_L_law_227 (Nat.le_of_ble_eq_true rfl) (by decide) (by omega) (by omega) (kt_agrees Z8 hTt hRt) (fun v9 u9 h9 hq9 => ?_)
            obtain ⟨rfl, rfl, rfl⟩ := hq9
            refine bx_if_eq (tgt := 1130) dL_law_1123 (by decide) (by decide) (fun c1123 => ?_) (fun c1123 => ?_)
            · exact absurd c1123 (by decide)
            · refine bx_iconst dL_law_1126 ?_
              refine bx_goto (tgt := 1131) dL_law_1127 (by decide) ?_
              refine bx_istore_n dL_law_1131 rfl (by decide) rfl ?_
              refine bx_iinc dL_law_1132 rfl rfl (by decide) rfl ?_
              refine bx_goto (tgt := 1089) dL_law_1135 (by decide) ?_
              exact ih (j + 1) _ _ _ _ (by omega) (by omega) Z8 (by omega) (by omega)
end LS
